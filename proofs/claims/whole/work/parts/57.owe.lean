/-! who owes what -/
noncomputable def sS (I : hI_) (d : Nat) : Int32 := cK I (cD I d) 3 * nI (tk I d)
noncomputable def py (I : hI_) (p d : Nat) : Int32 := if cK I (cD I d) 0 = nI p then (if ¬ cK I (cD I d) 2 = 0 then - sS I d else sS I d) else if nI (pD I d) = nI p then (if ¬ cK I (cD I d) 2 = 0 then sS I d else - sS I d) else 0
theorem py_X {I I2 : hI_} (h : agX I I2) (p d : Nat) : py I2 p d = py I p d := by
  unfold py sS
  rw [cD_X h, cK_X h, cK_X h, cK_X h, tk_X h, pD_X h]
set_option maxHeartbeats 4000000 in
set_option maxRecDepth 20000 in
theorem wX7_payment {E : aE} {P : Int32 → hI_ → hJ_ → Prop} {I : hI_} {J : hJ_} {a0 : Int32} {a1 : Int32} (k : (rok I 26 5 24) ∧ (rok I 24 8 12) ∧ (rok I 24 8 12) ∧ (vp_in a1 24) ∧ (rok I 24 8 12) ∧ ((¬ (rat I 24 25 (rat I 26 27 a1 (1 : Int32)) (0 : Int32)) = a0 → (rok I 26 5 24) ∧ ((¬ (rat I 26 27 a1 (0 : Int32)) = a0 → P (0 : Int32) I J) ∧ ((rat I 26 27 a1 (0 : Int32)) = a0 → P (if ¬ ((rat I 24 25 (rat I 26 27 a1 (1 : Int32)) (2 : Int32)) = (0 : Int32)) then ((rat I 24 25 (rat I 26 27 a1 (1 : Int32)) (3 : Int32)) * (I 31 a1.toNatClampNeg)) else (-((rat I 24 25 (rat I 26 27 a1 (1 : Int32)) (3 : Int32)) * (I 31 a1.toNatClampNeg)))) I J))) ∧ ((rat I 24 25 (rat I 26 27 a1 (1 : Int32)) (0 : Int32)) = a0 → P (if ¬ ((rat I 24 25 (rat I 26 27 a1 (1 : Int32)) (2 : Int32)) = (0 : Int32)) then (-((rat I 24 25 (rat I 26 27 a1 (1 : Int32)) (3 : Int32)) * (I 31 a1.toNatClampNeg))) else ((rat I 24 25 (rat I 26 27 a1 (1 : Int32)) (3 : Int32)) * (I 31 a1.toNatClampNeg))) I J))) : CallI E mX7_payment [.ref 29, .int a0, .int a1] SH I J P := by
  refine Call_of (L := [.ref 29, .int a0, .int a1, .retAddr 0, .retAddr 0, .retAddr 0]) ok_X7_payment.1 rfl rfl ?_
  refine V_aload_n dX7_payment_0 rfl ?_
  refine U_getR dX7_payment_1 fl_X7_52 s_29 rfl ?_
  refine V_iload_n dX7_payment_4 rfl ?_
  refine V_iconst (v := (1 : Int32)) dX7_payment_5 rfl ?_
  obtain ⟨hp1, k⟩ := k
  refine U_callV1 [.int a1, .int (1 : Int32)] dX7_payment_6 ov_X7_59 s_26 rfl ⟨rfl, rfl, rfl⟩ rfl rfl rfl (tX5_at s_26 s_27 (by decide) hp1 ?_)
  refine U_istore_n (L2 := [.ref 29, .int a0, .int a1, .int (rat I 26 27 a1 (1 : Int32)), .retAddr 0, .retAddr 0]) dX7_payment_9 (by decide) rfl ?_
  refine V_aload_n dX7_payment_10 rfl ?_
  refine U_getR dX7_payment_11 fl_X7_48 s_29 rfl ?_
  refine V_iload_n dX7_payment_14 rfl ?_
  refine V_iconst (v := (2 : Int32)) dX7_payment_15 rfl ?_
  obtain ⟨hp2, k⟩ := k
  refine U_callV1 [.int (rat I 26 27 a1 (1 : Int32)), .int (2 : Int32)] dX7_payment_16 ov_X7_59 s_24 rfl ⟨rfl, rfl, rfl⟩ rfl rfl rfl (tX5_at s_24 s_25 (by decide) hp2 ?_)
  have key3 : ∀ (y2004 : Int32), y2004 = (b2i ((rat I 24 25 (rat I 26 27 a1 (1 : Int32)) (2 : Int32)) = (0 : Int32))) → V E mX7_payment (kI SH P) 27 [.ref 29, .int a0, .int a1, .int (rat I 26 27 a1 (1 : Int32)), .retAddr 0, .retAddr 0] [.int y2004] (SH, I, J) (0, 0) := by
    intro y2004 ey2004
    subst ey2004
    refine U_istore (L2 := [.ref 29, .int a0, .int a1, .int (rat I 26 27 a1 (1 : Int32)), .int (b2i ((rat I 24 25 (rat I 26 27 a1 (1 : Int32)) (2 : Int32)) = (0 : Int32))), .retAddr 0]) dX7_payment_27 (by decide) rfl ?_
    refine V_aload_n dX7_payment_29 rfl ?_
    refine U_getR dX7_payment_30 fl_X7_48 s_29 rfl ?_
    refine V_iload_n dX7_payment_33 rfl ?_
    refine V_iconst (v := (3 : Int32)) dX7_payment_34 rfl ?_
    obtain ⟨hp2005, k⟩ := k
    refine U_callV1 [.int (rat I 26 27 a1 (1 : Int32)), .int (3 : Int32)] dX7_payment_35 ov_X7_59 s_24 rfl ⟨rfl, rfl, rfl⟩ rfl rfl rfl (tX5_at s_24 s_25 (by decide) hp2005 ?_)
    refine V_aload_n dX7_payment_38 rfl ?_
    refine U_getR dX7_payment_39 fl_X7_15 s_29 rfl ?_
    refine V_iload_n dX7_payment_42 rfl ?_
    obtain ⟨hb2006, k⟩ := k
    refine U_iald dX7_payment_43 s_31 hb2006 ?_
    refine V_imul dX7_payment_44 ?_
    refine U_istore (L2 := [.ref 29, .int a0, .int a1, .int (rat I 26 27 a1 (1 : Int32)), .int (b2i ((rat I 24 25 (rat I 26 27 a1 (1 : Int32)) (2 : Int32)) = (0 : Int32))), .int ((rat I 24 25 (rat I 26 27 a1 (1 : Int32)) (3 : Int32)) * (I 31 a1.toNatClampNeg))]) dX7_payment_45 (by decide) rfl ?_
    refine V_aload_n dX7_payment_47 rfl ?_
    refine U_getR dX7_payment_48 fl_X7_48 s_29 rfl ?_
    refine V_iload_n dX7_payment_51 rfl ?_
    refine V_iconst (v := (0 : Int32)) dX7_payment_52 rfl ?_
    obtain ⟨hp2007, k⟩ := k
    refine U_callV1 [.int (rat I 26 27 a1 (1 : Int32)), .int (0 : Int32)] dX7_payment_53 ov_X7_59 s_24 rfl ⟨rfl, rfl, rfl⟩ rfl rfl rfl (tX5_at s_24 s_25 (by decide) hp2007 ?_)
    refine V_iload_n dX7_payment_56 rfl ?_
    refine V_icmp_ne dX7_payment_57 (fun c2008 => ?_) (fun c2008 => ?_)
    · have k := k.1 c2008
      refine V_aload_n dX7_payment_74 rfl ?_
      refine U_getR dX7_payment_75 fl_X7_52 s_29 rfl ?_
      refine V_iload_n dX7_payment_78 rfl ?_
      refine V_iconst (v := (0 : Int32)) dX7_payment_79 rfl ?_
      obtain ⟨hp2009, k⟩ := k
      refine U_callV1 [.int a1, .int (0 : Int32)] dX7_payment_80 ov_X7_59 s_26 rfl ⟨rfl, rfl, rfl⟩ rfl rfl rfl (tX5_at s_26 s_27 (by decide) hp2009 ?_)
      refine V_iload_n dX7_payment_83 rfl ?_
      refine V_icmp_ne dX7_payment_84 (fun c2010 => ?_) (fun c2010 => ?_)
      · have k := k.1 c2010
        refine V_iconst (v := (0 : Int32)) dX7_payment_101 rfl ?_
        exact V_iret dX7_payment_102 ⟨_, rfl, rfl⟩ rfl rfl ⟨_, _, _, rfl, rfl, k⟩
      · have k := k.2 c2010
        refine V_iload dX7_payment_87 rfl ?_
        have key2011 : ∀ (y4012 : Int32), y4012 = (if ¬ ((rat I 24 25 (rat I 26 27 a1 (1 : Int32)) (2 : Int32)) = (0 : Int32)) then ((rat I 24 25 (rat I 26 27 a1 (1 : Int32)) (3 : Int32)) * (I 31 a1.toNatClampNeg)) else (-((rat I 24 25 (rat I 26 27 a1 (1 : Int32)) (3 : Int32)) * (I 31 a1.toNatClampNeg)))) → V E mX7_payment (kI SH P) 100 [.ref 29, .int a0, .int a1, .int (rat I 26 27 a1 (1 : Int32)), .int (b2i ((rat I 24 25 (rat I 26 27 a1 (1 : Int32)) (2 : Int32)) = (0 : Int32))), .int ((rat I 24 25 (rat I 26 27 a1 (1 : Int32)) (3 : Int32)) * (I 31 a1.toNatClampNeg))] [.int y4012] (SH, I, J) (0, 0) := by
          intro y4012 ey4012
          subst ey4012
          exact V_iret dX7_payment_100 ⟨_, rfl, rfl⟩ rfl rfl ⟨_, _, _, rfl, rfl, k⟩
        refine U_ifb_eq dX7_payment_89 (fun c4013 => ?_) (fun c4013 => ?_)
        · refine V_iload dX7_payment_98 rfl ?_
          exact key2011 _ (by rw [if_pos c4013])
        · refine V_iload dX7_payment_92 rfl ?_
          refine V_ineg dX7_payment_94 ?_
          refine V_goto dX7_payment_95 ?_
          exact key2011 _ (by rw [if_neg (not_not_intro c4013)])
    · have k := k.2 c2008
      refine V_iload dX7_payment_60 rfl ?_
      have key4014 : ∀ (y6015 : Int32), y6015 = (if ¬ ((rat I 24 25 (rat I 26 27 a1 (1 : Int32)) (2 : Int32)) = (0 : Int32)) then (-((rat I 24 25 (rat I 26 27 a1 (1 : Int32)) (3 : Int32)) * (I 31 a1.toNatClampNeg))) else ((rat I 24 25 (rat I 26 27 a1 (1 : Int32)) (3 : Int32)) * (I 31 a1.toNatClampNeg))) → V E mX7_payment (kI SH P) 73 [.ref 29, .int a0, .int a1, .int (rat I 26 27 a1 (1 : Int32)), .int (b2i ((rat I 24 25 (rat I 26 27 a1 (1 : Int32)) (2 : Int32)) = (0 : Int32))), .int ((rat I 24 25 (rat I 26 27 a1 (1 : Int32)) (3 : Int32)) * (I 31 a1.toNatClampNeg))] [.int y6015] (SH, I, J) (0, 0) := by
        intro y6015 ey6015
        subst ey6015
        exact V_iret dX7_payment_73 ⟨_, rfl, rfl⟩ rfl rfl ⟨_, _, _, rfl, rfl, k⟩
      refine U_ifb_eq dX7_payment_62 (fun c6016 => ?_) (fun c6016 => ?_)
      · refine V_iload dX7_payment_70 rfl ?_
        refine V_ineg dX7_payment_72 ?_
        exact key4014 _ (by rw [if_pos c6016])
      · refine V_iload dX7_payment_65 rfl ?_
        refine V_goto dX7_payment_67 ?_
        exact key4014 _ (by rw [if_neg (not_not_intro c6016)])
  refine V_if_ne dX7_payment_19 (fun c6017 => ?_) (fun c6017 => ?_)
  · refine V_iconst (v := (0 : Int32)) dX7_payment_26 rfl ?_
    exact key3 _ ((b2i_0.mpr (fun q => c6017 q)).symm)
  · refine V_iconst (v := (1 : Int32)) dX7_payment_22 rfl ?_
    refine V_goto dX7_payment_23 ?_
    exact key3 _ ((b2i_1.mpr (c6017)).symm)
theorem tX7_payment {E : aE} {P : Int32 → hI_ → hJ_ → Prop} {I0 I : hI_} {J : hJ_} {p d : Nat} (h : Rel I0) (hs : SX I0 I (fun _ => true)) (hd : d < nD I0) (k : P (py I0 p d) I J) : CallI E mX7_payment [.ref 29, .int (nI p), .int (nI d)] SH I J P := by
  have hD := Rel_D h
  have hR := Rel_agX hs.1 h
  have hr := Rel_rows hR
  have ok := deal_ok h hd
  obtain ⟨d0, d1, d2, d3, d4⟩ := deal_atX h hs.1 hd
  have e : ∀ j, j < 7 → rat I 24 25 (nI (cD I0 d)) (nI j) = cK I0 (cD I0 d) j := fun j hj => (((Rel_call hR (by rw [nC_X hs.1]; exact ok.2.1.2)).1 j hj).1).trans (cK_X hs.1 _ j)
  have e0 : rat I 24 25 (nI (cD I0 d)) 0 = cK I0 (cD I0 d) 0 := e 0 (by omega)
  have e2 : rat I 24 25 (nI (cD I0 d)) 2 = cK I0 (cD I0 d) 2 := e 2 (by omega)
  have e3 : rat I 24 25 (nI (cD I0 d)) 3 = cK I0 (cD I0 d) 3 := e 3 (by omega)
  unfold py sS at k
  refine wX7_payment ⟨hr.2.2, hr.2.1, hr.2.1, vp_in_nI (by omega) (by omega), hr.2.1, ?_⟩
  rw [d1, d0, e0, e2, e3, nI_clamp (by omega), hs.2.2 d hd rfl]
  refine ⟨fun z => ⟨hr.2.2, fun y => ?_, fun y => ?_⟩, fun z => ?_⟩
  · rw [if_neg z, if_neg y] at k; exact k
  · rw [if_neg z, if_pos y] at k; exact k
  · rw [if_pos z] at k; exact k
set_option maxHeartbeats 4000000 in
set_option maxRecDepth 20000 in
theorem wX12_pays {E : aE} {P : Int32 → hI_ → hJ_ → Prop} {I : hI_} {J : hJ_} {a0 : Int32} {a1 : Int32} (k : (inD a1 (1 : Int32)) ∧ (inC (snt I a1 (1 : Int32)) (3 : Int32)) ∧ (vp_in a1 24) ∧ (inC (snt I a1 (1 : Int32)) (2 : Int32)) ∧ (inC (snt I a1 (1 : Int32)) (0 : Int32)) ∧ (inD a1 (0 : Int32)) ∧ P ((if ¬ (its I (snt I a1 (1 : Int32)) (0 : Int32)) = a0 then (0 : Int32) else (if ¬ (its I (snt I a1 (1 : Int32)) (2 : Int32)) = (0 : Int32) then (-((its I (snt I a1 (1 : Int32)) (3 : Int32)) * (I 84 a1.toNatClampNeg))) else ((its I (snt I a1 (1 : Int32)) (3 : Int32)) * (I 84 a1.toNatClampNeg)))) - (if ¬ (snt I a1 (0 : Int32)) = a0 then (0 : Int32) else (if ¬ (its I (snt I a1 (1 : Int32)) (2 : Int32)) = (0 : Int32) then (-((its I (snt I a1 (1 : Int32)) (3 : Int32)) * (I 84 a1.toNatClampNeg))) else ((its I (snt I a1 (1 : Int32)) (3 : Int32)) * (I 84 a1.toNatClampNeg))))) I J) : CallI E mX12_pays [.ref 68, .int a0, .int a1] SH I J P := by
  refine Call_of (L := [.ref 68, .int a0, .int a1, .retAddr 0, .retAddr 0, .retAddr 0]) ok_X12_pays.1 rfl rfl ?_
  refine V_aload_n dX12_pays_0 rfl ?_
  refine V_iload_n dX12_pays_1 rfl ?_
  refine V_iconst (v := (1 : Int32)) dX12_pays_2 rfl ?_
  obtain ⟨hp1, k⟩ := k
  refine U_callV1 [.int a1, .int (1 : Int32)] dX12_pays_3 ov_X12_224 s_68 rfl ⟨rfl, rfl, rfl⟩ rfl rfl rfl (tX12_sent4 hp1 ?_)
  refine U_istore_n (L2 := [.ref 68, .int a0, .int a1, .int (snt I a1 (1 : Int32)), .retAddr 0, .retAddr 0]) dX12_pays_6 (by decide) rfl ?_
  refine V_aload_n dX12_pays_7 rfl ?_
  refine V_iload_n dX12_pays_8 rfl ?_
  refine V_iconst (v := (3 : Int32)) dX12_pays_9 rfl ?_
  obtain ⟨hp2, k⟩ := k
  refine U_callV1 [.int (snt I a1 (1 : Int32)), .int (3 : Int32)] dX12_pays_10 ov_X12_202 s_68 rfl ⟨rfl, rfl, rfl⟩ rfl rfl rfl (tX12_its hp2 ?_)
  refine V_aload_n dX12_pays_13 rfl ?_
  refine U_getR dX12_pays_14 fl_X12_55 s_68 rfl ?_
  refine V_iload_n dX12_pays_17 rfl ?_
  obtain ⟨hb3, k⟩ := k
  refine U_iald dX12_pays_18 s_84 hb3 ?_
  refine V_imul dX12_pays_19 ?_
  refine U_istore (L2 := [.ref 68, .int a0, .int a1, .int (snt I a1 (1 : Int32)), .int ((its I (snt I a1 (1 : Int32)) (3 : Int32)) * (I 84 a1.toNatClampNeg)), .retAddr 0]) dX12_pays_20 (by decide) rfl ?_
  refine V_aload_n dX12_pays_22 rfl ?_
  refine V_iload_n dX12_pays_23 rfl ?_
  refine V_iconst (v := (2 : Int32)) dX12_pays_24 rfl ?_
  obtain ⟨hp4, k⟩ := k
  refine U_callV1 [.int (snt I a1 (1 : Int32)), .int (2 : Int32)] dX12_pays_25 ov_X12_202 s_68 rfl ⟨rfl, rfl, rfl⟩ rfl rfl rfl (tX12_its hp4 ?_)
  have key5 : ∀ (y2006 : Int32), y2006 = (if ¬ (its I (snt I a1 (1 : Int32)) (2 : Int32)) = (0 : Int32) then (-((its I (snt I a1 (1 : Int32)) (3 : Int32)) * (I 84 a1.toNatClampNeg))) else ((its I (snt I a1 (1 : Int32)) (3 : Int32)) * (I 84 a1.toNatClampNeg))) → V E mX12_pays (kI SH P) 39 [.ref 68, .int a0, .int a1, .int (snt I a1 (1 : Int32)), .int ((its I (snt I a1 (1 : Int32)) (3 : Int32)) * (I 84 a1.toNatClampNeg)), .retAddr 0] [.int y2006] (SH, I, J) (0, 0) := by
    intro y2006 ey2006
    subst ey2006
    refine U_istore (L2 := [.ref 68, .int a0, .int a1, .int (snt I a1 (1 : Int32)), .int ((its I (snt I a1 (1 : Int32)) (3 : Int32)) * (I 84 a1.toNatClampNeg)), .int (if ¬ (its I (snt I a1 (1 : Int32)) (2 : Int32)) = (0 : Int32) then (-((its I (snt I a1 (1 : Int32)) (3 : Int32)) * (I 84 a1.toNatClampNeg))) else ((its I (snt I a1 (1 : Int32)) (3 : Int32)) * (I 84 a1.toNatClampNeg)))]) dX12_pays_39 (by decide) rfl ?_
    refine V_aload_n dX12_pays_41 rfl ?_
    refine V_iload_n dX12_pays_42 rfl ?_
    refine V_iconst (v := (0 : Int32)) dX12_pays_43 rfl ?_
    obtain ⟨hp2007, k⟩ := k
    refine U_callV1 [.int (snt I a1 (1 : Int32)), .int (0 : Int32)] dX12_pays_44 ov_X12_202 s_68 rfl ⟨rfl, rfl, rfl⟩ rfl rfl rfl (tX12_its hp2007 ?_)
    refine V_iload_n dX12_pays_47 rfl ?_
    have key2008 : ∀ (y4009 : Int32), y4009 = (if ¬ (its I (snt I a1 (1 : Int32)) (0 : Int32)) = a0 then (0 : Int32) else (if ¬ (its I (snt I a1 (1 : Int32)) (2 : Int32)) = (0 : Int32) then (-((its I (snt I a1 (1 : Int32)) (3 : Int32)) * (I 84 a1.toNatClampNeg))) else ((its I (snt I a1 (1 : Int32)) (3 : Int32)) * (I 84 a1.toNatClampNeg)))) → V E mX12_pays (kI SH P) 57 [.ref 68, .int a0, .int a1, .int (snt I a1 (1 : Int32)), .int ((its I (snt I a1 (1 : Int32)) (3 : Int32)) * (I 84 a1.toNatClampNeg)), .int (if ¬ (its I (snt I a1 (1 : Int32)) (2 : Int32)) = (0 : Int32) then (-((its I (snt I a1 (1 : Int32)) (3 : Int32)) * (I 84 a1.toNatClampNeg))) else ((its I (snt I a1 (1 : Int32)) (3 : Int32)) * (I 84 a1.toNatClampNeg)))] [.int y4009] (SH, I, J) (0, 0) := by
      intro y4009 ey4009
      subst ey4009
      refine V_aload_n dX12_pays_57 rfl ?_
      refine V_iload_n dX12_pays_58 rfl ?_
      refine V_iconst (v := (0 : Int32)) dX12_pays_59 rfl ?_
      obtain ⟨hp4010, k⟩ := k
      refine U_callV1 [.int a1, .int (0 : Int32)] dX12_pays_60 ov_X12_224 s_68 rfl ⟨rfl, rfl, rfl⟩ rfl rfl rfl (tX12_sent4 hp4010 ?_)
      refine V_iload_n dX12_pays_63 rfl ?_
      have key4011 : ∀ (y6012 : Int32), y6012 = (if ¬ (snt I a1 (0 : Int32)) = a0 then (0 : Int32) else (if ¬ (its I (snt I a1 (1 : Int32)) (2 : Int32)) = (0 : Int32) then (-((its I (snt I a1 (1 : Int32)) (3 : Int32)) * (I 84 a1.toNatClampNeg))) else ((its I (snt I a1 (1 : Int32)) (3 : Int32)) * (I 84 a1.toNatClampNeg)))) → V E mX12_pays (kI SH P) 73 [.ref 68, .int a0, .int a1, .int (snt I a1 (1 : Int32)), .int ((its I (snt I a1 (1 : Int32)) (3 : Int32)) * (I 84 a1.toNatClampNeg)), .int (if ¬ (its I (snt I a1 (1 : Int32)) (2 : Int32)) = (0 : Int32) then (-((its I (snt I a1 (1 : Int32)) (3 : Int32)) * (I 84 a1.toNatClampNeg))) else ((its I (snt I a1 (1 : Int32)) (3 : Int32)) * (I 84 a1.toNatClampNeg)))] [.int y6012, .int (if ¬ (its I (snt I a1 (1 : Int32)) (0 : Int32)) = a0 then (0 : Int32) else (if ¬ (its I (snt I a1 (1 : Int32)) (2 : Int32)) = (0 : Int32) then (-((its I (snt I a1 (1 : Int32)) (3 : Int32)) * (I 84 a1.toNatClampNeg))) else ((its I (snt I a1 (1 : Int32)) (3 : Int32)) * (I 84 a1.toNatClampNeg))))] (SH, I, J) (0, 0) := by
        intro y6012 ey6012
        subst ey6012
        refine V_isub dX12_pays_73 ?_
        exact V_iret dX12_pays_74 ⟨_, rfl, rfl⟩ rfl rfl ⟨_, _, _, rfl, rfl, k⟩
      refine V_icmp_ne dX12_pays_64 (fun c6013 => ?_) (fun c6013 => ?_)
      · refine V_iconst (v := (0 : Int32)) dX12_pays_72 rfl ?_
        exact key4011 _ (by rw [if_pos c6013])
      · refine V_iload dX12_pays_67 rfl ?_
        refine V_goto dX12_pays_69 ?_
        exact key4011 _ (by rw [if_neg (not_not_intro c6013)])
    refine V_icmp_ne dX12_pays_48 (fun c6014 => ?_) (fun c6014 => ?_)
    · refine V_iconst (v := (0 : Int32)) dX12_pays_56 rfl ?_
      exact key2008 _ (by rw [if_pos c6014])
    · refine V_iload dX12_pays_51 rfl ?_
      refine V_goto dX12_pays_53 ?_
      exact key2008 _ (by rw [if_neg (not_not_intro c6014)])
  refine V_if_ne dX12_pays_28 (fun c6015 => ?_) (fun c6015 => ?_)
  · refine V_iload dX12_pays_36 rfl ?_
    refine V_ineg dX12_pays_38 ?_
    exact key5 _ (by rw [if_pos c6015])
  · refine V_iload dX12_pays_31 rfl ?_
    refine V_goto dX12_pays_33 ?_
    exact key5 _ (by rw [if_neg (not_not_intro c6015)])
theorem tX12_pays {E : aE} {P : Int32 → hI_ → hJ_ → Prop} {I0 I : hI_} {J : hJ_} {p d : Nat} (h : Rel I0) (hs : SM I0 I (fun _ => true)) (hd : d < nD I0) (k : P (py I0 p d) I J) : CallI E mX12_pays [.ref 68, .int (nI p), .int (nI d)] SH I J P := by
  have hD := Rel_D h
  have hC := Rel_C h
  have hPl := Rel_P h
  have ok := deal_ok h hd
  have hq := cK_q h ok.2.1.2
  have sn := snt_M h hs.1 hd
  have e : ∀ j, j < 8 → its I (nI (cD I0 d)) (nI j) = cK I0 (cD I0 d) j := fun j hj => (its_cK (by omega) hj).trans (cK_M hs.1 _ j)
  have e0 : its I (nI (cD I0 d)) 0 = cK I0 (cD I0 d) 0 := e 0 (by omega)
  have e2 : its I (nI (cD I0 d)) 2 = cK I0 (cD I0 d) 2 := e 2 (by omega)
  have e3 : its I (nI (cD I0 d)) 3 = cK I0 (cD I0 d) 3 := e 3 (by omega)
  have ic : ∀ j, j < 8 → inC (nI (cD I0 d)) (nI j) := fun j hj => inC_nI (by omega) hj
  have dn : ∀ j, j < 4 → inD (nI d) (nI j) := fun j hj => inD_nI (by omega) hj
  refine wX12_pays ?_
  rw [sn.2.1, sn.1, e0, e2, e3, nI_clamp (by omega), hs.2.2 d hd rfl]
  refine ⟨dn 1 (by omega), ic 3 (by omega), vp_in_nI (by omega) (by omega), ic 2 (by omega), ic 0 (by omega), dn 0 (by omega), ?_⟩
  have ev : (if ¬ cK I0 (cD I0 d) 0 = nI p then (0 : Int32) else (if ¬ cK I0 (cD I0 d) 2 = 0 then (- (cK I0 (cD I0 d) 3 * nI (tk I0 d))) else (cK I0 (cD I0 d) 3 * nI (tk I0 d)))) - (if ¬ nI (pD I0 d) = nI p then (0 : Int32) else (if ¬ cK I0 (cD I0 d) 2 = 0 then (- (cK I0 (cD I0 d) 3 * nI (tk I0 d))) else (cK I0 (cD I0 d) 3 * nI (tk I0 d)))) = py I0 p d := by
    unfold py sS
    by_cases z : cK I0 (cD I0 d) 0 = nI p
    · have y : ¬ nI (pD I0 d) = nI p := fun y => by
        rw [hq.1, ← y, nI_eqI (by omega) (by omega)] at z
        exact ok.2.2.2.2.2 z
      rw [if_neg (fun v => v z), if_pos y, if_pos z, Int32.sub_zero]
    · rw [if_pos z, if_neg z]
      by_cases y : nI (pD I0 d) = nI p
      · rw [if_neg (fun v => v y), if_pos y, Int32.zero_sub]
        split
        · exact Int32.neg_neg
        · rfl
      · rw [if_pos y, if_neg y]; rfl
  rw [ev]; exact k
/-- the debt in a minute -/
noncomputable def dbt (I : hI_) (p t : Nat) : Nat → Int32
  | 0 => 0
  | n + 1 => if t < aD I n then dbt I p t n else dbt I p t n + py I p n
theorem dbt_s (I : hI_) (p t n : Nat) : dbt I p t (n + 1) = if t < aD I n then dbt I p t n else dbt I p t n + py I p n := rfl
theorem dbt_X {I I2 : hI_} (h : agX I I2) (p t : Nat) : ∀ n, dbt I2 p t n = dbt I p t n
  | 0 => rfl
  | n + 1 => by rw [dbt_s, dbt_s, dbt_X h p t n, aD_X h, py_X h]
def HX7_debt_5 (E : aE) (P : Int32 → hI_ → hJ_ → Prop) (v1 : Int32) (v2 : Int32) (v3 : Int32) (v4 : Int32) (I : hI_) (J : hJ_) : Prop := V E mX7_debt (kI SH P) 5 [.ref 29, .int v1, .int v2, .int v3, .int v4] [] (SH, I, J) (0, 0)
set_option maxHeartbeats 4000000 in
set_option maxRecDepth 20000 in
theorem wX7_debt {E : aE} {P : Int32 → hI_ → hJ_ → Prop} {I : hI_} {J : hJ_} {a0 : Int32} {a1 : Int32} (k : HX7_debt_5 E P a0 a1 (0 : Int32) (0 : Int32) I J) : CallI E mX7_debt [.ref 29, .int a0, .int a1] SH I J P := by
  refine Call_of (L := [.ref 29, .int a0, .int a1, .retAddr 0, .retAddr 0]) ok_X7_debt.1 rfl rfl ?_
  refine V_iconst (v := (0 : Int32)) dX7_debt_0 rfl ?_
  refine U_istore_n (L2 := [.ref 29, .int a0, .int a1, .int (0 : Int32), .retAddr 0]) dX7_debt_1 (by decide) rfl ?_
  refine V_iconst (v := (0 : Int32)) dX7_debt_2 rfl ?_
  refine U_istore (L2 := [.ref 29, .int a0, .int a1, .int (0 : Int32), .int (0 : Int32)]) dX7_debt_3 (by decide) rfl ?_
  exact k
set_option maxHeartbeats 4000000 in
set_option maxRecDepth 20000 in
theorem wX7_debt_5 {E : aE} {P : Int32 → hI_ → hJ_ → Prop} {I : hI_} {J : hJ_} {v1 : Int32} {v2 : Int32} {v3 : Int32} {v4 : Int32} (k : (((I 26 3) ≤ v4 → P v3 I J) ∧ (¬ ((I 26 3) ≤ v4) → (rok I 26 5 24) ∧ ((v2 < (rat I 26 27 v4 (4 : Int32)) → HX7_debt_5 E P v1 v2 v3 (v4 + (1 : Int32)) I J) ∧ (¬ (v2 < (rat I 26 27 v4 (4 : Int32))) → CallI E mX7_payment [.ref 29, .int v1, .int v4] SH I J (fun x4 I5 J6 => HX7_debt_5 E P v1 v2 (v3 + x4) (v4 + (1 : Int32)) I5 J6)))))) : HX7_debt_5 E P v1 v2 v3 v4 I J := by
  show V E mX7_debt (kI SH P) 5 [.ref 29, .int v1, .int v2, .int v3, .int v4] [] (SH, I, J) (0, 0)
  refine V_iload dX7_debt_5 rfl ?_
  refine V_aload_n dX7_debt_7 rfl ?_
  refine U_getR dX7_debt_8 fl_X7_52 s_29 rfl ?_
  refine U_getI dX7_debt_11 fl_X7_53 s_26 rfl ?_
  refine V_icmp_ge dX7_debt_14 (fun c1 => ?_) (fun c1 => ?_)
  · have k := k.1 c1
    refine V_iload_n dX7_debt_47 rfl ?_
    exact V_iret dX7_debt_48 ⟨_, rfl, rfl⟩ rfl rfl ⟨_, _, _, rfl, rfl, k⟩
  · have k := k.2 c1
    refine V_aload_n dX7_debt_17 rfl ?_
    refine U_getR dX7_debt_18 fl_X7_52 s_29 rfl ?_
    refine V_iload dX7_debt_21 rfl ?_
    refine V_iconst (v := (4 : Int32)) dX7_debt_23 rfl ?_
    obtain ⟨hp2, k⟩ := k
    refine U_callV1 [.int v4, .int (4 : Int32)] dX7_debt_24 ov_X7_59 s_26 rfl ⟨rfl, rfl, rfl⟩ rfl rfl rfl (tX5_at s_26 s_27 (by decide) hp2 ?_)
    refine V_iload_n dX7_debt_27 rfl ?_
    refine V_icmp_gt dX7_debt_28 (fun c3 => ?_) (fun c3 => ?_)
    · have k := k.1 c3
      refine U_iinc (v := v4 + (1 : Int32)) (L2 := [.ref 29, .int v1, .int v2, .int v3, .int (v4 + (1 : Int32))]) dX7_debt_41 (by decide) rfl rfl rfl ?_
      refine V_goto dX7_debt_44 ?_
      exact k
    · have k := k.2 c3
      refine V_iload_n dX7_debt_31 rfl ?_
      refine V_aload_n dX7_debt_32 rfl ?_
      refine V_iload_n dX7_debt_33 rfl ?_
      refine V_iload dX7_debt_34 rfl ?_
      refine U_callV1 [.int v1, .int v4] dX7_debt_36 ov_X7_97 s_29 rfl ⟨rfl, rfl, rfl⟩ rfl rfl rfl (CallI_mono k (fun x4 I5 J6 k => ?_))
      refine V_iadd dX7_debt_39 ?_
      refine U_istore_n (L2 := [.ref 29, .int v1, .int v2, .int (v3 + x4), .int v4]) dX7_debt_40 (by decide) rfl ?_
      refine U_iinc (v := v4 + (1 : Int32)) (L2 := [.ref 29, .int v1, .int v2, .int (v3 + x4), .int (v4 + (1 : Int32))]) dX7_debt_41 (by decide) rfl rfl rfl ?_
      refine V_goto dX7_debt_44 ?_
      exact k
theorem debtX_loop {E : aE} {P : Int32 → hI_ → hJ_ → Prop} {I0 I : hI_} {J : hJ_} {p t : Nat} (h : Rel I0) (hs : SX I0 I (fun _ => true)) (ht : t < 100000) (k : P (dbt I0 p t (nD I0)) I J) : ∀ (m n : Nat), n + m = nD I0 → HX7_debt_5 E P (nI p) (nI t) (dbt I0 p t n) (nI n) I J
  | 0, n, hn => by
    have hD := Rel_D h
    have e : n = nD I0 := by omega
    refine wX7_debt_5 ?_
    rw [hs.1 26 rfl, hD.1, e]
    exact ⟨fun _ => k, fun z => absurd (nI_le (Nat.le_refl _) (by omega)) z⟩
  | m + 1, n, hn => by
    have hD := Rel_D h
    have hnn : n < nD I0 := by omega
    have ok := deal_ok h hnn
    have hR := Rel_agX hs.1 h
    have rc := debtX_loop (E := E) h hs ht k m (n + 1) (by omega)
    rw [dbt_s] at rc
    refine wX7_debt_5 ?_
    rw [hs.1 26 rfl, hD.1, (deal_atX h hs.1 hnn).2.2.2.2, nI_1, nI_ltJ (by omega) (by omega)]
    refine ⟨fun z => absurd z (nI_ge (by omega) (by omega)), fun _ => ⟨(Rel_rows hR).2.2, fun z => ?_, fun z => ?_⟩⟩
    · rw [if_pos z] at rc; exact rc
    · rw [if_neg z] at rc
      exact tX7_payment h hs hnn rc
theorem tX7_debt {E : aE} {P : Int32 → hI_ → hJ_ → Prop} {I0 I : hI_} {J : hJ_} {p t : Nat} (h : Rel I0) (hs : SX I0 I (fun _ => true)) (ht : t < 100000) (k : P (dbt I0 p t (nD I0)) I J) : CallI E mX7_debt [.ref 29, .int (nI p), .int (nI t)] SH I J P := wX7_debt (debtX_loop h hs ht k (nD I0) 0 (by omega))
def HX12_owed_5 (E : aE) (P : Int32 → hI_ → hJ_ → Prop) (v1 : Int32) (v2 : Int32) (v3 : Int32) (v4 : Int32) (I : hI_) (J : hJ_) : Prop := V E mX12_owed (kI SH P) 5 [.ref 68, .int v1, .int v2, .int v3, .int v4] [] (SH, I, J) (0, 0)
set_option maxHeartbeats 4000000 in
set_option maxRecDepth 20000 in
theorem wX12_owed {E : aE} {P : Int32 → hI_ → hJ_ → Prop} {I : hI_} {J : hJ_} {a0 : Int32} {a1 : Int32} (k : HX12_owed_5 E P a0 a1 (0 : Int32) (0 : Int32) I J) : CallI E mX12_owed [.ref 68, .int a0, .int a1] SH I J P := by
  refine Call_of (L := [.ref 68, .int a0, .int a1, .retAddr 0, .retAddr 0]) ok_X12_owed.1 rfl rfl ?_
  refine V_iconst (v := (0 : Int32)) dX12_owed_0 rfl ?_
  refine U_istore_n (L2 := [.ref 68, .int a0, .int a1, .int (0 : Int32), .retAddr 0]) dX12_owed_1 (by decide) rfl ?_
  refine V_iconst (v := (0 : Int32)) dX12_owed_2 rfl ?_
  refine U_istore (L2 := [.ref 68, .int a0, .int a1, .int (0 : Int32), .int (0 : Int32)]) dX12_owed_3 (by decide) rfl ?_
  exact k
set_option maxHeartbeats 4000000 in
set_option maxRecDepth 20000 in
theorem wX12_owed_5 {E : aE} {P : Int32 → hI_ → hJ_ → Prop} {I : hI_} {J : hJ_} {v1 : Int32} {v2 : Int32} {v3 : Int32} {v4 : Int32} (k : (((I 82 282) ≤ v4 → P v3 I J) ∧ (¬ ((I 82 282) ≤ v4) → (vp_in v4 24) ∧ ((v2 < (I 83 v4.toNatClampNeg) → HX12_owed_5 E P v1 v2 (v3 + (0 : Int32)) (v4 + (1 : Int32)) I J) ∧ (¬ (v2 < (I 83 v4.toNatClampNeg)) → CallI E mX12_pays [.ref 68, .int v1, .int v4] SH I J (fun x4 I5 J6 => HX12_owed_5 E P v1 v2 (v3 + x4) (v4 + (1 : Int32)) I5 J6)))))) : HX12_owed_5 E P v1 v2 v3 v4 I J := by
  show V E mX12_owed (kI SH P) 5 [.ref 68, .int v1, .int v2, .int v3, .int v4] [] (SH, I, J) (0, 0)
  refine V_iload dX12_owed_5 rfl ?_
  refine V_aload_n dX12_owed_7 rfl ?_
  refine U_callV1 [] dX12_owed_8 ov_X12_221 s_68 rfl ⟨rfl, rfl, rfl⟩ rfl rfl rfl (tX12_deals ?_)
  refine V_icmp_ge dX12_owed_11 (fun c1 => ?_) (fun c1 => ?_)
  · have k := k.1 c1
    refine V_iload_n dX12_owed_45 rfl ?_
    exact V_iret dX12_owed_46 ⟨_, rfl, rfl⟩ rfl rfl ⟨_, _, _, rfl, rfl, k⟩
  · have k := k.2 c1
    refine V_iload_n dX12_owed_14 rfl ?_
    refine V_aload_n dX12_owed_15 rfl ?_
    refine U_getR dX12_owed_16 fl_X12_52 s_68 rfl ?_
    refine V_iload dX12_owed_19 rfl ?_
    obtain ⟨hb2, k⟩ := k
    refine U_iald dX12_owed_21 s_83 hb2 ?_
    refine V_iload_n dX12_owed_22 rfl ?_
    refine V_icmp_gt dX12_owed_23 (fun c3 => ?_) (fun c3 => ?_)
    · have k := k.1 c3
      refine V_iconst (v := (0 : Int32)) dX12_owed_36 rfl ?_
      refine V_iadd dX12_owed_37 ?_
      refine U_istore_n (L2 := [.ref 68, .int v1, .int v2, .int (v3 + (0 : Int32)), .int v4]) dX12_owed_38 (by decide) rfl ?_
      refine U_iinc (v := v4 + (1 : Int32)) (L2 := [.ref 68, .int v1, .int v2, .int (v3 + (0 : Int32)), .int (v4 + (1 : Int32))]) dX12_owed_39 (by decide) rfl rfl rfl ?_
      refine V_goto dX12_owed_42 ?_
      exact k
    · have k := k.2 c3
      refine V_aload_n dX12_owed_26 rfl ?_
      refine V_iload_n dX12_owed_27 rfl ?_
      refine V_iload dX12_owed_28 rfl ?_
      refine U_callV1 [.int v1, .int v4] dX12_owed_30 ov_X12_245 s_68 rfl ⟨rfl, rfl, rfl⟩ rfl rfl rfl (CallI_mono k (fun x4 I5 J6 k => ?_))
      refine V_goto dX12_owed_33 ?_
      refine V_iadd dX12_owed_37 ?_
      refine U_istore_n (L2 := [.ref 68, .int v1, .int v2, .int (v3 + x4), .int v4]) dX12_owed_38 (by decide) rfl ?_
      refine U_iinc (v := v4 + (1 : Int32)) (L2 := [.ref 68, .int v1, .int v2, .int (v3 + x4), .int (v4 + (1 : Int32))]) dX12_owed_39 (by decide) rfl rfl rfl ?_
      refine V_goto dX12_owed_42 ?_
      exact k
theorem owedM_loop {E : aE} {P : Int32 → hI_ → hJ_ → Prop} {I0 I : hI_} {J : hJ_} {p t : Nat} (h : Rel I0) (hs : SM I0 I (fun _ => true)) (ht : t < 100000) (k : P (dbt I0 p t (nD I0)) I J) : ∀ (m n : Nat), n + m = nD I0 → HX12_owed_5 E P (nI p) (nI t) (dbt I0 p t n) (nI n) I J
  | 0, n, hn => by
    have hD := Rel_D h
    have e : n = nD I0 := by omega
    refine wX12_owed_5 ?_
    rw [hs.1.1 82 rfl, hD.2.1, e]
    exact ⟨fun _ => k, fun z => absurd (nI_le (Nat.le_refl _) (by omega)) z⟩
  | m + 1, n, hn => by
    have hD := Rel_D h
    have hnn : n < nD I0 := by omega
    have ok := deal_ok h hnn
    have rc := owedM_loop (E := E) h hs ht k m (n + 1) (by omega)
    rw [dbt_s] at rc
    refine wX12_owed_5 ?_
    rw [hs.1.1 82 rfl, hD.2.1, nI_clamp (by omega), (hs.2.1 n hnn).1, nI_1, nI_ltJ (by omega) (by omega)]
    refine ⟨fun z => absurd z (nI_ge (by omega) (by omega)), fun _ => ⟨vp_in_nI (by omega) (by omega), fun z => ?_, fun z => ?_⟩⟩
    · rw [if_pos z] at rc
      rw [Int32.add_zero]; exact rc
    · rw [if_neg z] at rc
      exact tX12_pays h hs hnn rc
theorem tX12_owed {E : aE} {P : Int32 → hI_ → hJ_ → Prop} {I0 I : hI_} {J : hJ_} {p t : Nat} (h : Rel I0) (hs : SM I0 I (fun _ => true)) (ht : t < 100000) (k : P (dbt I0 p t (nD I0)) I J) : CallI E mX12_owed [.ref 68, .int (nI p), .int (nI t)] SH I J P := wX12_owed (owedM_loop h hs ht k (nD I0) 0 (by omega))
/-- the debt as another place knows it -/
noncomputable def dbk (I : hI_) (p b t : Nat) : Nat → Int32
  | 0 => 0
  | n + 1 => if t < arr (wI I) (qN I (cD I n)) (aD I n) b then dbk I p b t n else dbk I p b t n + py I p n
theorem dbk_s (I : hI_) (p b t n : Nat) : dbk I p b t (n + 1) = if t < arr (wI I) (qN I (cD I n)) (aD I n) b then dbk I p b t n else dbk I p b t n + py I p n := rfl
theorem dbk_X {I I2 : hI_} (h : agX I I2) (p b t : Nat) : ∀ n, dbk I2 p b t n = dbk I p b t n
  | 0 => rfl
  | n + 1 => by rw [dbk_s, dbk_s, dbk_X h p b t n, aD_X h, py_X h, wI_X h, cD_X h, qN_X h]
def HX7_debtKnown_6 (E : aE) (P : Int32 → hI_ → hJ_ → Prop) (v1 : Int32) (v2 : Int32) (v3 : Int32) (v4 : Int32) (v5 : Int32) (I : hI_) (J : hJ_) : Prop := V E mX7_debtKnown (kI SH P) 6 [.ref 29, .int v1, .int v2, .int v3, .int v4, .int v5] [] (SH, I, J) (0, 0)
set_option maxHeartbeats 4000000 in
set_option maxRecDepth 20000 in
theorem wX7_debtKnown {E : aE} {P : Int32 → hI_ → hJ_ → Prop} {I : hI_} {J : hJ_} {a0 : Int32} {a1 : Int32} {a2 : Int32} (k : HX7_debtKnown_6 E P a0 a1 a2 (0 : Int32) (0 : Int32) I J) : CallI E mX7_debtKnown [.ref 29, .int a0, .int a1, .int a2] SH I J P := by
  refine Call_of (L := [.ref 29, .int a0, .int a1, .int a2, .retAddr 0, .retAddr 0]) ok_X7_debtKnown.1 rfl rfl ?_
  refine V_iconst (v := (0 : Int32)) dX7_debtKnown_0 rfl ?_
  refine U_istore (L2 := [.ref 29, .int a0, .int a1, .int a2, .int (0 : Int32), .retAddr 0]) dX7_debtKnown_1 (by decide) rfl ?_
  refine V_iconst (v := (0 : Int32)) dX7_debtKnown_3 rfl ?_
  refine U_istore (L2 := [.ref 29, .int a0, .int a1, .int a2, .int (0 : Int32), .int (0 : Int32)]) dX7_debtKnown_4 (by decide) rfl ?_
  exact k
set_option maxHeartbeats 4000000 in
set_option maxRecDepth 20000 in
theorem wX7_debtKnown_6 {E : aE} {P : Int32 → hI_ → hJ_ → Prop} {I : hI_} {J : hJ_} {v1 : Int32} {v2 : Int32} {v3 : Int32} {v4 : Int32} {v5 : Int32} (k : (((I 26 3) ≤ v5 → P v4 I J) ∧ (¬ ((I 26 3) ≤ v5) → CallI E mX7_newsOf [.ref 29, .int v5, .int v2] SH I J (fun x2 I3 J4 => ((v3 < x2 → HX7_debtKnown_6 E P v1 v2 v3 v4 (v5 + (1 : Int32)) I3 J4) ∧ (¬ (v3 < x2) → CallI E mX7_payment [.ref 29, .int v1, .int v5] SH I3 J4 (fun x6 I7 J8 => HX7_debtKnown_6 E P v1 v2 v3 (v4 + x6) (v5 + (1 : Int32)) I7 J8))))))) : HX7_debtKnown_6 E P v1 v2 v3 v4 v5 I J := by
  show V E mX7_debtKnown (kI SH P) 6 [.ref 29, .int v1, .int v2, .int v3, .int v4, .int v5] [] (SH, I, J) (0, 0)
  refine V_iload dX7_debtKnown_6 rfl ?_
  refine V_aload_n dX7_debtKnown_8 rfl ?_
  refine U_getR dX7_debtKnown_9 fl_X7_52 s_29 rfl ?_
  refine U_getI dX7_debtKnown_12 fl_X7_53 s_26 rfl ?_
  refine V_icmp_ge dX7_debtKnown_15 (fun c1 => ?_) (fun c1 => ?_)
  · have k := k.1 c1
    refine V_iload dX7_debtKnown_47 rfl ?_
    exact V_iret dX7_debtKnown_49 ⟨_, rfl, rfl⟩ rfl rfl ⟨_, _, _, rfl, rfl, k⟩
  · have k := k.2 c1
    refine V_aload_n dX7_debtKnown_18 rfl ?_
    refine V_iload dX7_debtKnown_19 rfl ?_
    refine V_iload_n dX7_debtKnown_21 rfl ?_
    refine U_callV1 [.int v5, .int v2] dX7_debtKnown_22 ov_X7_100 s_29 rfl ⟨rfl, rfl, rfl⟩ rfl rfl rfl (CallI_mono k (fun x2 I3 J4 k => ?_))
    refine V_iload_n dX7_debtKnown_25 rfl ?_
    refine V_icmp_gt dX7_debtKnown_26 (fun c5 => ?_) (fun c5 => ?_)
    · have k := k.1 c5
      refine U_iinc (v := v5 + (1 : Int32)) (L2 := [.ref 29, .int v1, .int v2, .int v3, .int v4, .int (v5 + (1 : Int32))]) dX7_debtKnown_41 (by decide) rfl rfl rfl ?_
      refine V_goto dX7_debtKnown_44 ?_
      exact k
    · have k := k.2 c5
      refine V_iload dX7_debtKnown_29 rfl ?_
      refine V_aload_n dX7_debtKnown_31 rfl ?_
      refine V_iload_n dX7_debtKnown_32 rfl ?_
      refine V_iload dX7_debtKnown_33 rfl ?_
      refine U_callV1 [.int v1, .int v5] dX7_debtKnown_35 ov_X7_97 s_29 rfl ⟨rfl, rfl, rfl⟩ rfl rfl rfl (CallI_mono k (fun x6 I7 J8 k => ?_))
      refine V_iadd dX7_debtKnown_38 ?_
      refine U_istore (L2 := [.ref 29, .int v1, .int v2, .int v3, .int (v4 + x6), .int v5]) dX7_debtKnown_39 (by decide) rfl ?_
      refine U_iinc (v := v5 + (1 : Int32)) (L2 := [.ref 29, .int v1, .int v2, .int v3, .int (v4 + x6), .int (v5 + (1 : Int32))]) dX7_debtKnown_41 (by decide) rfl rfl rfl ?_
      refine V_goto dX7_debtKnown_44 ?_
      exact k
theorem knownX_loop {E : aE} {P : Int32 → hI_ → hJ_ → Prop} {I0 : hI_} {J : hJ_} {p b t : Nat} (h : Rel I0) (hb : b < nP I0) (ht : t < 100000) (k : ∀ I2, agX I0 I2 → P (dbk I0 p b t (nD I0)) I2 J) : ∀ (m n : Nat) (I : hI_), n + m = nD I0 → SX I0 I (fun _ => true) → HX7_debtKnown_6 E P (nI p) (nI b) (nI t) (dbk I0 p b t n) (nI n) I J
  | 0, n, I, hn, hs => by
    have hD := Rel_D h
    have e : n = nD I0 := by omega
    refine wX7_debtKnown_6 ?_
    rw [hs.1 26 rfl, hD.1, e]
    exact ⟨fun _ => k I hs.1, fun z => absurd (nI_le (Nat.le_refl _) (by omega)) z⟩
  | m + 1, n, I, hn, hs => by
    have hD := Rel_D h
    have hnn : n < nD I0 := by omega
    have ok := deal_ok h hnn
    have hR := Rel_agX hs.1 h
    have rc := fun I2 h2 => knownX_loop (E := E) h hb ht k m (n + 1) I2 (by omega) h2
    rw [dbk_s] at rc
    refine wX7_debtKnown_6 ?_
    rw [hs.1 26 rfl, hD.1, nI_1]
    refine ⟨fun z => absurd z (nI_ge (by omega) (by omega)), fun _ => ?_⟩
    refine tX7_newsOf hR (by rw [nD_X hs.1]; exact hnn) (by rw [nP_X hs.1]; exact hb) (fun I2 hag => ?_)
    have al := @arr_le (wI I0) (qN I0 (cD I0 n)) (aD I0 n) b
    rw [wI_X hs.1, cD_X hs.1, qN_X hs.1, aD_X hs.1, nI_ltJ (by omega) (by omega)]
    have hs2 := SX_ag hs hag
    refine ⟨fun z => ?_, fun z => ?_⟩
    · rw [if_pos z] at rc; exact rc I2 hs2
    · rw [if_neg z] at rc
      exact tX7_payment h hs2 hnn (rc I2 hs2)
theorem tX7_debtKnown {E : aE} {P : Int32 → hI_ → hJ_ → Prop} {I0 I : hI_} {J : hJ_} {p b t : Nat} (h : Rel I0) (hs : SX I0 I (fun _ => true)) (hb : b < nP I0) (ht : t < 100000) (k : ∀ I2, agX I0 I2 → P (dbk I0 p b t (nD I0)) I2 J) : CallI E mX7_debtKnown [.ref 29, .int (nI p), .int (nI b), .int (nI t)] SH I J P := wX7_debtKnown (knownX_loop h hb ht k (nD I0) 0 I (by omega) hs)
/-- what is left of a call in a minute -/
noncomputable def lfT (I : hI_) (c t : Nat) : Nat → Int32
  | 0 => cK I c 4
  | n + 1 => if ¬ nI (cD I n) = nI c then lfT I c t n else if nI t < nI (aD I n) then lfT I c t n else lfT I c t n - nI (tk I n)
theorem lfT_s (I : hI_) (c t n : Nat) : lfT I c t (n + 1) = if ¬ nI (cD I n) = nI c then lfT I c t n else if nI t < nI (aD I n) then lfT I c t n else lfT I c t n - nI (tk I n) := rfl
theorem lfT_X {I I2 : hI_} (h : agX I I2) (c t : Nat) : ∀ n, lfT I2 c t n = lfT I c t n
  | 0 => cK_X h c 4
  | n + 1 => by rw [lfT_s, lfT_s, lfT_X h c t n, aD_X h, tk_X h, cD_X h]
def HX7_unitsLeft_13 (E : aE) (P : Int32 → hI_ → hJ_ → Prop) (v1 : Int32) (v2 : Int32) (v3 : Int32) (v4 : Int32) (I : hI_) (J : hJ_) : Prop := V E mX7_unitsLeft (kI SH P) 13 [.ref 29, .int v1, .int v2, .int v3, .int v4] [] (SH, I, J) (0, 0)
set_option maxHeartbeats 4000000 in
set_option maxRecDepth 20000 in
theorem wX7_unitsLeft {E : aE} {P : Int32 → hI_ → hJ_ → Prop} {I : hI_} {J : hJ_} {a0 : Int32} {a1 : Int32} (k : (rok I 24 8 12) ∧ HX7_unitsLeft_13 E P a0 a1 (rat I 24 25 a0 (4 : Int32)) (0 : Int32) I J) : CallI E mX7_unitsLeft [.ref 29, .int a0, .int a1] SH I J P := by
  refine Call_of (L := [.ref 29, .int a0, .int a1, .retAddr 0, .retAddr 0]) ok_X7_unitsLeft.1 rfl rfl ?_
  refine V_aload_n dX7_unitsLeft_0 rfl ?_
  refine U_getR dX7_unitsLeft_1 fl_X7_48 s_29 rfl ?_
  refine V_iload_n dX7_unitsLeft_4 rfl ?_
  refine V_iconst (v := (4 : Int32)) dX7_unitsLeft_5 rfl ?_
  obtain ⟨hp1, k⟩ := k
  refine U_callV1 [.int a0, .int (4 : Int32)] dX7_unitsLeft_6 ov_X7_59 s_24 rfl ⟨rfl, rfl, rfl⟩ rfl rfl rfl (tX5_at s_24 s_25 (by decide) hp1 ?_)
  refine U_istore_n (L2 := [.ref 29, .int a0, .int a1, .int (rat I 24 25 a0 (4 : Int32)), .retAddr 0]) dX7_unitsLeft_9 (by decide) rfl ?_
  refine V_iconst (v := (0 : Int32)) dX7_unitsLeft_10 rfl ?_
  refine U_istore (L2 := [.ref 29, .int a0, .int a1, .int (rat I 24 25 a0 (4 : Int32)), .int (0 : Int32)]) dX7_unitsLeft_11 (by decide) rfl ?_
  exact k
set_option maxHeartbeats 4000000 in
set_option maxRecDepth 20000 in
theorem wX7_unitsLeft_13 {E : aE} {P : Int32 → hI_ → hJ_ → Prop} {I : hI_} {J : hJ_} {v1 : Int32} {v2 : Int32} {v3 : Int32} {v4 : Int32} (k : (((I 26 3) ≤ v4 → P v3 I J) ∧ (¬ ((I 26 3) ≤ v4) → (rok I 26 5 24) ∧ (((rat I 26 27 v4 (1 : Int32)) = v1) → rok I 26 5 24) ∧ (((rat I 26 27 v4 (1 : Int32)) = v1) → (¬ (v2 < (rat I 26 27 v4 (4 : Int32)))) → vp_in v4 24) ∧ HX7_unitsLeft_13 E P v1 v2 (if ¬ (rat I 26 27 v4 (1 : Int32)) = v1 then v3 else (if v2 < (rat I 26 27 v4 (4 : Int32)) then v3 else (v3 - (I 31 v4.toNatClampNeg)))) (v4 + (1 : Int32)) I J))) : HX7_unitsLeft_13 E P v1 v2 v3 v4 I J := by
  show V E mX7_unitsLeft (kI SH P) 13 [.ref 29, .int v1, .int v2, .int v3, .int v4] [] (SH, I, J) (0, 0)
  refine V_iload dX7_unitsLeft_13 rfl ?_
  refine V_aload_n dX7_unitsLeft_15 rfl ?_
  refine U_getR dX7_unitsLeft_16 fl_X7_52 s_29 rfl ?_
  refine U_getI dX7_unitsLeft_19 fl_X7_53 s_26 rfl ?_
  refine V_icmp_ge dX7_unitsLeft_22 (fun c1 => ?_) (fun c1 => ?_)
  · have k := k.1 c1
    refine V_iload_n dX7_unitsLeft_69 rfl ?_
    exact V_iret dX7_unitsLeft_70 ⟨_, rfl, rfl⟩ rfl rfl ⟨_, _, _, rfl, rfl, k⟩
  · have k := k.2 c1
    refine V_aload_n dX7_unitsLeft_25 rfl ?_
    refine U_getR dX7_unitsLeft_26 fl_X7_52 s_29 rfl ?_
    refine V_iload dX7_unitsLeft_29 rfl ?_
    refine V_iconst (v := (1 : Int32)) dX7_unitsLeft_31 rfl ?_
    obtain ⟨hp2, k⟩ := k
    refine U_callV1 [.int v4, .int (1 : Int32)] dX7_unitsLeft_32 ov_X7_59 s_26 rfl ⟨rfl, rfl, rfl⟩ rfl rfl rfl (tX5_at s_26 s_27 (by decide) hp2 ?_)
    refine V_iload_n dX7_unitsLeft_35 rfl ?_
    obtain ⟨hc2007, hc2008, k⟩ := k
    have key3 : ∀ (y2006 : Int32), y2006 = (if ¬ (rat I 26 27 v4 (1 : Int32)) = v1 then v3 else (if v2 < (rat I 26 27 v4 (4 : Int32)) then v3 else (v3 - (I 31 v4.toNatClampNeg)))) → V E mX7_unitsLeft (kI SH P) 63 [.ref 29, .int v1, .int v2, .int y2006, .int v4] [] (SH, I, J) (0, 0) := by
      intro y2006 ey2006
      subst ey2006
      refine U_iinc (v := v4 + (1 : Int32)) (L2 := [.ref 29, .int v1, .int v2, .int (if ¬ (rat I 26 27 v4 (1 : Int32)) = v1 then v3 else (if v2 < (rat I 26 27 v4 (4 : Int32)) then v3 else (v3 - (I 31 v4.toNatClampNeg)))), .int (v4 + (1 : Int32))]) dX7_unitsLeft_63 (by decide) rfl rfl rfl ?_
      refine V_goto dX7_unitsLeft_66 ?_
      exact k
    refine V_icmp_ne dX7_unitsLeft_36 (fun c2009 => ?_) (fun c2009 => ?_)
    · exact key3 _ (by rw [if_pos c2009])
    · refine V_aload_n dX7_unitsLeft_39 rfl ?_
      refine U_getR dX7_unitsLeft_40 fl_X7_52 s_29 rfl ?_
      refine V_iload dX7_unitsLeft_43 rfl ?_
      refine V_iconst (v := (4 : Int32)) dX7_unitsLeft_45 rfl ?_
      have hp2004 := hc2007 c2009
      refine U_callV1 [.int v4, .int (4 : Int32)] dX7_unitsLeft_46 ov_X7_59 s_26 rfl ⟨rfl, rfl, rfl⟩ rfl rfl rfl (tX5_at s_26 s_27 (by decide) hp2004 ?_)
      refine V_iload_n dX7_unitsLeft_49 rfl ?_
      refine V_icmp_gt dX7_unitsLeft_50 (fun c2010 => ?_) (fun c2010 => ?_)
      · exact key3 _ (by rw [if_neg (not_not_intro c2009), if_pos c2010])
      · refine V_iload_n dX7_unitsLeft_53 rfl ?_
        refine V_aload_n dX7_unitsLeft_54 rfl ?_
        refine U_getR dX7_unitsLeft_55 fl_X7_15 s_29 rfl ?_
        refine V_iload dX7_unitsLeft_58 rfl ?_
        have hb2005 := hc2008 c2009 c2010
        refine U_iald dX7_unitsLeft_60 s_31 hb2005 ?_
        refine V_isub dX7_unitsLeft_61 ?_
        refine U_istore_n (L2 := [.ref 29, .int v1, .int v2, .int (v3 - (I 31 v4.toNatClampNeg)), .int v4]) dX7_unitsLeft_62 (by decide) rfl ?_
        exact key3 _ (by rw [if_neg (not_not_intro c2009), if_neg c2010])
theorem left_loop {E : aE} {P : Int32 → hI_ → hJ_ → Prop} {I0 I : hI_} {J : hJ_} {c t : Nat} (h : Rel I0) (hs : SX I0 I (fun _ => true)) (ht : t < 100000) (k : P (lfT I0 c t (nD I0)) I J) : ∀ (m n : Nat), n + m = nD I0 → HX7_unitsLeft_13 E P (nI c) (nI t) (lfT I0 c t n) (nI n) I J
  | 0, n, hn => by
    have hD := Rel_D h
    have e : n = nD I0 := by omega
    refine wX7_unitsLeft_13 ?_
    rw [hs.1 26 rfl, hD.1, e]
    exact ⟨fun _ => k, fun z => absurd (nI_le (Nat.le_refl _) (by omega)) z⟩
  | m + 1, n, hn => by
    have hD := Rel_D h
    have hnn : n < nD I0 := by omega
    have ok := deal_ok h hnn
    have hR := Rel_agX hs.1 h
    have hr := (Rel_rows hR).2.2
    have at_ := deal_atX h hs.1 hnn
    have rc := left_loop (E := E) h hs ht k m (n + 1) (by omega)
    rw [lfT_s] at rc
    refine wX7_unitsLeft_13 ?_
    rw [hs.1 26 rfl, hD.1, at_.2.1, at_.2.2.2.2, nI_clamp (by omega), hs.2.2 n hnn rfl, nI_1 n]
    exact ⟨fun z => absurd z (nI_ge (by omega) (by omega)), fun _ => ⟨hr, fun _ => hr, fun _ _ => vp_in_nI (by omega) (by omega), rc⟩⟩
theorem tX7_unitsLeft {E : aE} {P : Int32 → hI_ → hJ_ → Prop} {I0 I : hI_} {J : hJ_} {c t : Nat} (h : Rel I0) (hs : SX I0 I (fun _ => true)) (hc : c < nC I0) (ht : t < 100000) (k : P (lfT I0 c t (nD I0)) I J) : CallI E mX7_unitsLeft [.ref 29, .int (nI c), .int (nI t)] SH I J P := by
  have hR := Rel_agX hs.1 h
  refine wX7_unitsLeft ⟨(Rel_rows hR).2.1, ?_⟩
  have e4 : rat I 24 25 (nI c) 4 = cK I0 c 4 := (((Rel_call hR (by rw [nC_X hs.1]; exact hc)).1 4 (by omega)).1).trans (cK_X hs.1 c 4)
  rw [e4]
  exact left_loop h hs ht k (nD I0) 0 (by omega)
/-- the debt at most -/
noncomputable def dbm (I : hI_) (p t : Nat) : Nat → Int32
  | 0 => dbt I p t (nD I)
  | c + 1 => if ¬ cK I c 0 = nI p then dbm I p t c else if ¬ cK I c 2 = 0 then dbm I p t c else if ¬ stB I (nI c) (nI t) = true then dbm I p t c else dbm I p t c + cK I c 3 * lfT I c t (nD I)
theorem dbm_s (I : hI_) (p t c : Nat) : dbm I p t (c + 1) = if ¬ cK I c 0 = nI p then dbm I p t c else if ¬ cK I c 2 = 0 then dbm I p t c else if ¬ stB I (nI c) (nI t) = true then dbm I p t c else dbm I p t c + cK I c 3 * lfT I c t (nD I) := rfl
theorem dbm_X {I I2 : hI_} (h : agX I I2) (p t : Nat) : ∀ n, dbm I2 p t n = dbm I p t n
  | 0 => by
    show dbt I2 p t (nD I2) = dbt I p t (nD I)
    rw [dbt_X h, nD_X h]
  | n + 1 => by rw [dbm_s, dbm_s, dbm_X h p t n, cK_X h, cK_X h, cK_X h, stB_X h, lfT_X h, nD_X h]
def HX7_debtAtMost_10 (E : aE) (P : Int32 → hI_ → hJ_ → Prop) (v1 : Int32) (v2 : Int32) (v3 : Int32) (v4 : Int32) (I : hI_) (J : hJ_) : Prop := V E mX7_debtAtMost (kI SH P) 10 [.ref 29, .int v1, .int v2, .int v3, .int v4] [] (SH, I, J) (0, 0)
set_option maxHeartbeats 4000000 in
set_option maxRecDepth 20000 in
theorem wX7_debtAtMost {E : aE} {P : Int32 → hI_ → hJ_ → Prop} {I : hI_} {J : hJ_} {a0 : Int32} {a1 : Int32} (k : CallI E mX7_debt [.ref 29, .int a0, .int a1] SH I J (fun x1 I2 J3 => HX7_debtAtMost_10 E P a0 a1 x1 (0 : Int32) I2 J3)) : CallI E mX7_debtAtMost [.ref 29, .int a0, .int a1] SH I J P := by
  refine Call_of (L := [.ref 29, .int a0, .int a1, .retAddr 0, .retAddr 0]) ok_X7_debtAtMost.1 rfl rfl ?_
  refine V_aload_n dX7_debtAtMost_0 rfl ?_
  refine V_iload_n dX7_debtAtMost_1 rfl ?_
  refine V_iload_n dX7_debtAtMost_2 rfl ?_
  refine U_callV1 [.int a0, .int a1] dX7_debtAtMost_3 ov_X7_103 s_29 rfl ⟨rfl, rfl, rfl⟩ rfl rfl rfl (CallI_mono k (fun x1 I2 J3 k => ?_))
  refine U_istore_n (L2 := [.ref 29, .int a0, .int a1, .int x1, .retAddr 0]) dX7_debtAtMost_6 (by decide) rfl ?_
  refine V_iconst (v := (0 : Int32)) dX7_debtAtMost_7 rfl ?_
  refine U_istore (L2 := [.ref 29, .int a0, .int a1, .int x1, .int (0 : Int32)]) dX7_debtAtMost_8 (by decide) rfl ?_
  exact k
set_option maxHeartbeats 4000000 in
set_option maxRecDepth 20000 in
theorem wX7_debtAtMost_10 {E : aE} {P : Int32 → hI_ → hJ_ → Prop} {I : hI_} {J : hJ_} {v1 : Int32} {v2 : Int32} {v3 : Int32} {v4 : Int32} (k : (((I 24 3) ≤ v4 → P v3 I J) ∧ (¬ ((I 24 3) ≤ v4) → (rok I 24 8 12) ∧ ((¬ (rat I 24 25 v4 (0 : Int32)) = v1 → HX7_debtAtMost_10 E P v1 v2 v3 (v4 + (1 : Int32)) I J) ∧ ((rat I 24 25 v4 (0 : Int32)) = v1 → (rok I 24 8 12) ∧ ((¬ (rat I 24 25 v4 (2 : Int32)) = (0 : Int32) → HX7_debtAtMost_10 E P v1 v2 v3 (v4 + (1 : Int32)) I J) ∧ ((rat I 24 25 v4 (2 : Int32)) = (0 : Int32) → CallI E mX7_isStanding [.ref 29, .int v4, .int v2] SH I J (fun x6 I7 J8 => ((x6 = (0 : Int32) → HX7_debtAtMost_10 E P v1 v2 v3 (v4 + (1 : Int32)) I7 J8) ∧ (¬ (x6 = (0 : Int32)) → (rok I7 24 8 12) ∧ CallI E mX7_unitsLeft [.ref 29, .int v4, .int v2] SH I7 J8 (fun x11 I12 J13 => HX7_debtAtMost_10 E P v1 v2 (v3 + ((rat I7 24 25 v4 (3 : Int32)) * x11)) (v4 + (1 : Int32)) I12 J13))))))))))) : HX7_debtAtMost_10 E P v1 v2 v3 v4 I J := by
  show V E mX7_debtAtMost (kI SH P) 10 [.ref 29, .int v1, .int v2, .int v3, .int v4] [] (SH, I, J) (0, 0)
  refine V_iload dX7_debtAtMost_10 rfl ?_
  refine V_aload_n dX7_debtAtMost_12 rfl ?_
  refine U_getR dX7_debtAtMost_13 fl_X7_48 s_29 rfl ?_
  refine U_getI dX7_debtAtMost_16 fl_X7_53 s_24 rfl ?_
  refine V_icmp_ge dX7_debtAtMost_19 (fun c1 => ?_) (fun c1 => ?_)
  · have k := k.1 c1
    refine V_iload_n dX7_debtAtMost_86 rfl ?_
    exact V_iret dX7_debtAtMost_87 ⟨_, rfl, rfl⟩ rfl rfl ⟨_, _, _, rfl, rfl, k⟩
  · have k := k.2 c1
    refine V_aload_n dX7_debtAtMost_22 rfl ?_
    refine U_getR dX7_debtAtMost_23 fl_X7_48 s_29 rfl ?_
    refine V_iload dX7_debtAtMost_26 rfl ?_
    refine V_iconst (v := (0 : Int32)) dX7_debtAtMost_28 rfl ?_
    obtain ⟨hp2, k⟩ := k
    refine U_callV1 [.int v4, .int (0 : Int32)] dX7_debtAtMost_29 ov_X7_59 s_24 rfl ⟨rfl, rfl, rfl⟩ rfl rfl rfl (tX5_at s_24 s_25 (by decide) hp2 ?_)
    refine V_iload_n dX7_debtAtMost_32 rfl ?_
    refine V_icmp_ne dX7_debtAtMost_33 (fun c3 => ?_) (fun c3 => ?_)
    · have k := k.1 c3
      refine U_iinc (v := v4 + (1 : Int32)) (L2 := [.ref 29, .int v1, .int v2, .int v3, .int (v4 + (1 : Int32))]) dX7_debtAtMost_80 (by decide) rfl rfl rfl ?_
      refine V_goto dX7_debtAtMost_83 ?_
      exact k
    · have k := k.2 c3
      refine V_aload_n dX7_debtAtMost_36 rfl ?_
      refine U_getR dX7_debtAtMost_37 fl_X7_48 s_29 rfl ?_
      refine V_iload dX7_debtAtMost_40 rfl ?_
      refine V_iconst (v := (2 : Int32)) dX7_debtAtMost_42 rfl ?_
      obtain ⟨hp4, k⟩ := k
      refine U_callV1 [.int v4, .int (2 : Int32)] dX7_debtAtMost_43 ov_X7_59 s_24 rfl ⟨rfl, rfl, rfl⟩ rfl rfl rfl (tX5_at s_24 s_25 (by decide) hp4 ?_)
      refine V_if_ne dX7_debtAtMost_46 (fun c5 => ?_) (fun c5 => ?_)
      · have k := k.1 c5
        refine U_iinc (v := v4 + (1 : Int32)) (L2 := [.ref 29, .int v1, .int v2, .int v3, .int (v4 + (1 : Int32))]) dX7_debtAtMost_80 (by decide) rfl rfl rfl ?_
        refine V_goto dX7_debtAtMost_83 ?_
        exact k
      · have k := k.2 c5
        refine V_aload_n dX7_debtAtMost_49 rfl ?_
        refine V_iload dX7_debtAtMost_50 rfl ?_
        refine V_iload_n dX7_debtAtMost_52 rfl ?_
        refine U_callV1 [.int v4, .int v2] dX7_debtAtMost_53 ov_X7_83 s_29 rfl ⟨rfl, rfl, rfl⟩ rfl rfl rfl (CallI_mono k (fun x6 I7 J8 k => ?_))
        refine V_if_eq dX7_debtAtMost_56 (fun c9 => ?_) (fun c9 => ?_)
        · have k := k.1 c9
          refine U_iinc (v := v4 + (1 : Int32)) (L2 := [.ref 29, .int v1, .int v2, .int v3, .int (v4 + (1 : Int32))]) dX7_debtAtMost_80 (by decide) rfl rfl rfl ?_
          refine V_goto dX7_debtAtMost_83 ?_
          exact k
        · have k := k.2 c9
          refine V_iload_n dX7_debtAtMost_59 rfl ?_
          refine V_aload_n dX7_debtAtMost_60 rfl ?_
          refine U_getR dX7_debtAtMost_61 fl_X7_48 s_29 rfl ?_
          refine V_iload dX7_debtAtMost_64 rfl ?_
          refine V_iconst (v := (3 : Int32)) dX7_debtAtMost_66 rfl ?_
          obtain ⟨hp10, k⟩ := k
          refine U_callV1 [.int v4, .int (3 : Int32)] dX7_debtAtMost_67 ov_X7_59 s_24 rfl ⟨rfl, rfl, rfl⟩ rfl rfl rfl (tX5_at s_24 s_25 (by decide) hp10 ?_)
          refine V_aload_n dX7_debtAtMost_70 rfl ?_
          refine V_iload dX7_debtAtMost_71 rfl ?_
          refine V_iload_n dX7_debtAtMost_73 rfl ?_
          refine U_callV1 [.int v4, .int v2] dX7_debtAtMost_74 ov_X7_106 s_29 rfl ⟨rfl, rfl, rfl⟩ rfl rfl rfl (CallI_mono k (fun x11 I12 J13 k => ?_))
          refine V_imul dX7_debtAtMost_77 ?_
          refine V_iadd dX7_debtAtMost_78 ?_
          refine U_istore_n (L2 := [.ref 29, .int v1, .int v2, .int (v3 + ((rat I7 24 25 v4 (3 : Int32)) * x11)), .int v4]) dX7_debtAtMost_79 (by decide) rfl ?_
          refine U_iinc (v := v4 + (1 : Int32)) (L2 := [.ref 29, .int v1, .int v2, .int (v3 + ((rat I7 24 25 v4 (3 : Int32)) * x11)), .int (v4 + (1 : Int32))]) dX7_debtAtMost_80 (by decide) rfl rfl rfl ?_
          refine V_goto dX7_debtAtMost_83 ?_
          exact k
theorem mostX_loop {E : aE} {P : Int32 → hI_ → hJ_ → Prop} {I0 I : hI_} {J : hJ_} {p t : Nat} (h : Rel I0) (hs : SX I0 I (fun _ => true)) (ht : t < 100000) (k : P (dbm I0 p t (nC I0)) I J) : ∀ (m c : Nat), c + m = nC I0 → HX7_debtAtMost_10 E P (nI p) (nI t) (dbm I0 p t c) (nI c) I J
  | 0, c, hn => by
    have hC := Rel_C h
    have e : c = nC I0 := by omega
    refine wX7_debtAtMost_10 ?_
    rw [hs.1 24 rfl, hC.1, e]
    exact ⟨fun _ => k, fun z => absurd (nI_le (Nat.le_refl _) (by omega)) z⟩
  | m + 1, c, hn => by
    have hC := Rel_C h
    have hcc : c < nC I0 := by omega
    have hR := Rel_agX hs.1 h
    have hr := (Rel_rows hR).2.1
    have e : ∀ j, j < 7 → rat I 24 25 (nI c) (nI j) = cK I0 c j := fun j hj => (((Rel_call hR (by rw [nC_X hs.1]; exact hcc)).1 j hj).1).trans (cK_X hs.1 _ j)
    have e0 : rat I 24 25 (nI c) 0 = cK I0 c 0 := e 0 (by omega)
    have e2 : rat I 24 25 (nI c) 2 = cK I0 c 2 := e 2 (by omega)
    have e3 : rat I 24 25 (nI c) 3 = cK I0 c 3 := e 3 (by omega)
    have rc := mostX_loop (E := E) h hs ht k m (c + 1) (by omega)
    rw [dbm_s] at rc
    refine wX7_debtAtMost_10 ?_
    rw [hs.1 24 rfl, hC.1, e0, e2, nI_1]
    refine ⟨fun z => absurd z (nI_ge (by omega) (by omega)), fun _ => ⟨hr, fun z1 => ?_, fun z1 => ⟨hr, fun z2 => ?_, fun z2 => ?_⟩⟩⟩
    · rw [if_pos z1] at rc; exact rc
    · rw [if_neg (fun v => v z1), if_pos z2] at rc; exact rc
    · rw [if_neg (fun v => v z1), if_neg (fun v => v z2)] at rc
      refine tX7_isStanding h hs.1 hcc (hs.2.1 c hcc).2.2.1 ht ⟨fun z3 => ?_, fun z3 => ⟨hr, ?_⟩⟩
      · have : ¬ stB I0 (nI c) (nI t) = true := fun y => by
          have e : b2i (stB I0 (nI c) (nI t) = true) = 1 := if_pos y
          rw [e] at z3; exact absurd z3 (by decide)
        rw [if_pos this] at rc; exact rc
      · have : stB I0 (nI c) (nI t) = true := by
          cases q : stB I0 (nI c) (nI t) with
          | true => rfl
          | false => rw [q] at z3; exact absurd rfl z3
        rw [if_neg (fun v => v this)] at rc
        refine tX7_unitsLeft h hs hcc ht ?_
        rw [e3]; exact rc
theorem tX7_debtAtMost {E : aE} {P : Int32 → hI_ → hJ_ → Prop} {I0 I : hI_} {J : hJ_} {p t : Nat} (h : Rel I0) (hs : SX I0 I (fun _ => true)) (ht : t < 100000) (k : P (dbm I0 p t (nC I0)) I J) : CallI E mX7_debtAtMost [.ref 29, .int (nI p), .int (nI t)] SH I J P := wX7_debtAtMost (tX7_debt h hs ht (mostX_loop h hs ht k (nC I0) 0 (by omega)))
def HX12_atMost_10 (E : aE) (P : Int32 → hI_ → hJ_ → Prop) (v1 : Int32) (v2 : Int32) (v3 : Int32) (v4 : Int32) (I : hI_) (J : hJ_) : Prop := V E mX12_atMost (kI SH P) 10 [.ref 68, .int v1, .int v2, .int v3, .int v4, .retAddr 0, .retAddr 0] [] (SH, I, J) (0, 0)
def HX12_atMost_66 (E : aE) (P : Int32 → hI_ → hJ_ → Prop) (v1 : Int32) (v2 : Int32) (v3 : Int32) (v4 : Int32) (v5 : Int32) (v6 : Int32) (I : hI_) (J : hJ_) : Prop := V E mX12_atMost (kI SH P) 66 [.ref 68, .int v1, .int v2, .int v3, .int v4, .int v5, .int v6] [] (SH, I, J) (0, 0)
set_option maxHeartbeats 4000000 in
set_option maxRecDepth 20000 in
theorem wX12_atMost {E : aE} {P : Int32 → hI_ → hJ_ → Prop} {I : hI_} {J : hJ_} {a0 : Int32} {a1 : Int32} (k : CallI E mX12_owed [.ref 68, .int a0, .int a1] SH I J (fun x1 I2 J3 => HX12_atMost_10 E P a0 a1 x1 (0 : Int32) I2 J3)) : CallI E mX12_atMost [.ref 68, .int a0, .int a1] SH I J P := by
  refine Call_of (L := [.ref 68, .int a0, .int a1, .retAddr 0, .retAddr 0, .retAddr 0, .retAddr 0]) ok_X12_atMost.1 rfl rfl ?_
  refine V_aload_n dX12_atMost_0 rfl ?_
  refine V_iload_n dX12_atMost_1 rfl ?_
  refine V_iload_n dX12_atMost_2 rfl ?_
  refine U_callV1 [.int a0, .int a1] dX12_atMost_3 ov_X12_248 s_68 rfl ⟨rfl, rfl, rfl⟩ rfl rfl rfl (CallI_mono k (fun x1 I2 J3 k => ?_))
  refine U_istore_n (L2 := [.ref 68, .int a0, .int a1, .int x1, .retAddr 0, .retAddr 0, .retAddr 0]) dX12_atMost_6 (by decide) rfl ?_
  refine V_iconst (v := (0 : Int32)) dX12_atMost_7 rfl ?_
  refine U_istore (L2 := [.ref 68, .int a0, .int a1, .int x1, .int (0 : Int32), .retAddr 0, .retAddr 0]) dX12_atMost_8 (by decide) rfl ?_
  exact k
set_option maxHeartbeats 4000000 in
set_option maxRecDepth 20000 in
theorem wX12_atMost_10 {E : aE} {P : Int32 → hI_ → hJ_ → Prop} {I : hI_} {J : hJ_} {v1 : Int32} {v2 : Int32} {v3 : Int32} {v4 : Int32} (k : (((I 82 281) ≤ v4 → P v3 I J) ∧ (¬ ((I 82 281) ≤ v4) → (inC v4 (0 : Int32)) ∧ ((¬ (its I v4 (0 : Int32)) = v1 → HX12_atMost_10 E P v1 v2 v3 (v4 + (1 : Int32)) I J) ∧ ((its I v4 (0 : Int32)) = v1 → (inC v4 (2 : Int32)) ∧ ((¬ (its I v4 (2 : Int32)) = (0 : Int32) → HX12_atMost_10 E P v1 v2 v3 (v4 + (1 : Int32)) I J) ∧ ((its I v4 (2 : Int32)) = (0 : Int32) → (cOK I v4) ∧ ((¬ (stB I v4 v2 = true) → HX12_atMost_10 E P v1 v2 v3 (v4 + (1 : Int32)) I J) ∧ ((stB I v4 v2 = true) → (inC v4 (4 : Int32)) ∧ HX12_atMost_66 E P v1 v2 v3 v4 (its I v4 (4 : Int32)) (0 : Int32) I J))))))))) : HX12_atMost_10 E P v1 v2 v3 v4 I J := by
  show V E mX12_atMost (kI SH P) 10 [.ref 68, .int v1, .int v2, .int v3, .int v4, .retAddr 0, .retAddr 0] [] (SH, I, J) (0, 0)
  refine V_iload dX12_atMost_10 rfl ?_
  refine V_aload_n dX12_atMost_12 rfl ?_
  refine U_getR dX12_atMost_13 fl_X12_49 s_68 rfl ?_
  refine V_sipush (v := (281 : Int32)) dX12_atMost_16 rfl ?_
  refine U_ialdx (x := I 82 281) dX12_atMost_19 s_82 (by unfold vp_in; decide) rfl ?_
  refine V_icmp_ge dX12_atMost_20 (fun c1 => ?_) (fun c1 => ?_)
  · have k := k.1 c1
    refine V_iload_n dX12_atMost_139 rfl ?_
    exact V_iret dX12_atMost_140 ⟨_, rfl, rfl⟩ rfl rfl ⟨_, _, _, rfl, rfl, k⟩
  · have k := k.2 c1
    refine V_aload_n dX12_atMost_23 rfl ?_
    refine V_iload dX12_atMost_24 rfl ?_
    refine V_iconst (v := (0 : Int32)) dX12_atMost_26 rfl ?_
    obtain ⟨hp2, k⟩ := k
    refine U_callV1 [.int v4, .int (0 : Int32)] dX12_atMost_27 ov_X12_202 s_68 rfl ⟨rfl, rfl, rfl⟩ rfl rfl rfl (tX12_its hp2 ?_)
    refine V_iload_n dX12_atMost_30 rfl ?_
    refine V_icmp_ne dX12_atMost_31 (fun c3 => ?_) (fun c3 => ?_)
    · have k := k.1 c3
      refine U_iinc (v := v4 + (1 : Int32)) (L2 := [.ref 68, .int v1, .int v2, .int v3, .int (v4 + (1 : Int32)), .retAddr 0, .retAddr 0]) dX12_atMost_133 (by decide) rfl rfl rfl ?_
      refine V_goto dX12_atMost_136 ?_
      exact k
    · have k := k.2 c3
      refine V_aload_n dX12_atMost_34 rfl ?_
      refine V_iload dX12_atMost_35 rfl ?_
      refine V_iconst (v := (2 : Int32)) dX12_atMost_37 rfl ?_
      obtain ⟨hp4, k⟩ := k
      refine U_callV1 [.int v4, .int (2 : Int32)] dX12_atMost_38 ov_X12_202 s_68 rfl ⟨rfl, rfl, rfl⟩ rfl rfl rfl (tX12_its hp4 ?_)
      refine V_if_ne dX12_atMost_41 (fun c5 => ?_) (fun c5 => ?_)
      · have k := k.1 c5
        refine U_iinc (v := v4 + (1 : Int32)) (L2 := [.ref 68, .int v1, .int v2, .int v3, .int (v4 + (1 : Int32)), .retAddr 0, .retAddr 0]) dX12_atMost_133 (by decide) rfl rfl rfl ?_
        refine V_goto dX12_atMost_136 ?_
        exact k
      · have k := k.2 c5
        refine V_aload_n dX12_atMost_44 rfl ?_
        refine V_iload dX12_atMost_45 rfl ?_
        refine V_iload_n dX12_atMost_47 rfl ?_
        obtain ⟨hp6, k⟩ := k
        refine U_callV1 [.int v4, .int v2] dX12_atMost_48 ov_X12_227 s_68 rfl ⟨rfl, rfl, rfl⟩ rfl rfl rfl (tX12_standsIn hp6 ?_)
        refine U_ifb_eq dX12_atMost_51 (fun c7 => ?_) (fun c7 => ?_)
        · have k := k.1 c7
          refine U_iinc (v := v4 + (1 : Int32)) (L2 := [.ref 68, .int v1, .int v2, .int v3, .int (v4 + (1 : Int32)), .retAddr 0, .retAddr 0]) dX12_atMost_133 (by decide) rfl rfl rfl ?_
          refine V_goto dX12_atMost_136 ?_
          exact k
        · have k := k.2 c7
          refine V_aload_n dX12_atMost_54 rfl ?_
          refine V_iload dX12_atMost_55 rfl ?_
          refine V_iconst (v := (4 : Int32)) dX12_atMost_57 rfl ?_
          obtain ⟨hp8, k⟩ := k
          refine U_callV1 [.int v4, .int (4 : Int32)] dX12_atMost_58 ov_X12_202 s_68 rfl ⟨rfl, rfl, rfl⟩ rfl rfl rfl (tX12_its hp8 ?_)
          refine U_istore (L2 := [.ref 68, .int v1, .int v2, .int v3, .int v4, .int (its I v4 (4 : Int32)), .retAddr 0]) dX12_atMost_61 (by decide) rfl ?_
          refine V_iconst (v := (0 : Int32)) dX12_atMost_63 rfl ?_
          refine U_istore (L2 := [.ref 68, .int v1, .int v2, .int v3, .int v4, .int (its I v4 (4 : Int32)), .int (0 : Int32)]) dX12_atMost_64 (by decide) rfl ?_
          exact k
set_option maxHeartbeats 4000000 in
set_option maxRecDepth 20000 in
theorem wX12_atMost_66 {E : aE} {P : Int32 → hI_ → hJ_ → Prop} {I : hI_} {J : hJ_} {v1 : Int32} {v2 : Int32} {v3 : Int32} {v4 : Int32} {v5 : Int32} {v6 : Int32} (k : (((I 82 282) ≤ v6 → (inC v4 (3 : Int32)) ∧ HX12_atMost_10 E P v1 v2 (v3 + (v5 * (its I v4 (3 : Int32)))) (v4 + (1 : Int32)) I J) ∧ (¬ ((I 82 282) ≤ v6) → (inD v6 (1 : Int32)) ∧ (((snt I v6 (1 : Int32)) = v4) → vp_in v6 24) ∧ (((snt I v6 (1 : Int32)) = v4) → (¬ (v2 < (I 83 v6.toNatClampNeg))) → vp_in v6 24) ∧ HX12_atMost_66 E P v1 v2 v3 v4 (v5 - (if ¬ (snt I v6 (1 : Int32)) = v4 then (0 : Int32) else (if v2 < (I 83 v6.toNatClampNeg) then (0 : Int32) else (I 84 v6.toNatClampNeg)))) (v6 + (1 : Int32)) I J))) : HX12_atMost_66 E P v1 v2 v3 v4 v5 v6 I J := by
  show V E mX12_atMost (kI SH P) 66 [.ref 68, .int v1, .int v2, .int v3, .int v4, .int v5, .int v6] [] (SH, I, J) (0, 0)
  refine V_iload dX12_atMost_66 rfl ?_
  refine V_aload_n dX12_atMost_68 rfl ?_
  refine U_callV1 [] dX12_atMost_69 ov_X12_221 s_68 rfl ⟨rfl, rfl, rfl⟩ rfl rfl rfl (tX12_deals ?_)
  refine V_icmp_ge dX12_atMost_72 (fun c1 => ?_) (fun c1 => ?_)
  · have k := k.1 c1
    refine V_iload_n dX12_atMost_120 rfl ?_
    refine V_iload dX12_atMost_121 rfl ?_
    refine V_aload_n dX12_atMost_123 rfl ?_
    refine V_iload dX12_atMost_124 rfl ?_
    refine V_iconst (v := (3 : Int32)) dX12_atMost_126 rfl ?_
    obtain ⟨hp2, k⟩ := k
    refine U_callV1 [.int v4, .int (3 : Int32)] dX12_atMost_127 ov_X12_202 s_68 rfl ⟨rfl, rfl, rfl⟩ rfl rfl rfl (tX12_its hp2 ?_)
    refine V_imul dX12_atMost_130 ?_
    refine V_iadd dX12_atMost_131 ?_
    refine U_istore_n (L2 := [.ref 68, .int v1, .int v2, .int (v3 + (v5 * (its I v4 (3 : Int32)))), .int v4, .int v5, .int v6]) dX12_atMost_132 (by decide) rfl ?_
    refine U_iinc (v := v4 + (1 : Int32)) (L2 := [.ref 68, .int v1, .int v2, .int (v3 + (v5 * (its I v4 (3 : Int32)))), .int (v4 + (1 : Int32)), .int v5, .int v6]) dX12_atMost_133 (by decide) rfl rfl rfl ?_
    refine V_goto dX12_atMost_136 ?_
    exact V_wk (wk_eq (wk_eq (wk_eq (wk_eq (wk_eq (wk_j (wk_j (wk_nil)))))))) k
  · have k := k.2 c1
    refine V_iload dX12_atMost_75 rfl ?_
    refine V_aload_n dX12_atMost_77 rfl ?_
    refine V_iload dX12_atMost_78 rfl ?_
    refine V_iconst (v := (1 : Int32)) dX12_atMost_80 rfl ?_
    obtain ⟨hp3, k⟩ := k
    refine U_callV1 [.int v6, .int (1 : Int32)] dX12_atMost_81 ov_X12_224 s_68 rfl ⟨rfl, rfl, rfl⟩ rfl rfl rfl (tX12_sent4 hp3 ?_)
    refine V_iload dX12_atMost_84 rfl ?_
    obtain ⟨hc2008, hc2009, k⟩ := k
    have key4 : ∀ (y2007 : Int32), y2007 = (if ¬ (snt I v6 (1 : Int32)) = v4 then (0 : Int32) else (if v2 < (I 83 v6.toNatClampNeg) then (0 : Int32) else (I 84 v6.toNatClampNeg))) → V E mX12_atMost (kI SH P) 111 [.ref 68, .int v1, .int v2, .int v3, .int v4, .int v5, .int v6] [.int y2007, .int v5] (SH, I, J) (0, 0) := by
      intro y2007 ey2007
      subst ey2007
      refine V_isub dX12_atMost_111 ?_
      refine U_istore (L2 := [.ref 68, .int v1, .int v2, .int v3, .int v4, .int (v5 - (if ¬ (snt I v6 (1 : Int32)) = v4 then (0 : Int32) else (if v2 < (I 83 v6.toNatClampNeg) then (0 : Int32) else (I 84 v6.toNatClampNeg)))), .int v6]) dX12_atMost_112 (by decide) rfl ?_
      refine U_iinc (v := v6 + (1 : Int32)) (L2 := [.ref 68, .int v1, .int v2, .int v3, .int v4, .int (v5 - (if ¬ (snt I v6 (1 : Int32)) = v4 then (0 : Int32) else (if v2 < (I 83 v6.toNatClampNeg) then (0 : Int32) else (I 84 v6.toNatClampNeg)))), .int (v6 + (1 : Int32))]) dX12_atMost_114 (by decide) rfl rfl rfl ?_
      refine V_goto dX12_atMost_117 ?_
      exact k
    refine V_icmp_ne dX12_atMost_86 (fun c2010 => ?_) (fun c2010 => ?_)
    · refine V_iconst (v := (0 : Int32)) dX12_atMost_110 rfl ?_
      exact key4 _ (by rw [if_pos c2010])
    · refine V_aload_n dX12_atMost_89 rfl ?_
      refine U_getR dX12_atMost_90 fl_X12_52 s_68 rfl ?_
      refine V_iload dX12_atMost_93 rfl ?_
      have hb2005 := hc2008 c2010
      refine U_iald dX12_atMost_95 s_83 hb2005 ?_
      refine V_iload_n dX12_atMost_96 rfl ?_
      refine V_icmp_gt dX12_atMost_97 (fun c2011 => ?_) (fun c2011 => ?_)
      · refine V_iconst (v := (0 : Int32)) dX12_atMost_110 rfl ?_
        exact key4 _ (by rw [if_neg (not_not_intro c2010), if_pos c2011])
      · refine V_aload_n dX12_atMost_100 rfl ?_
        refine U_getR dX12_atMost_101 fl_X12_55 s_68 rfl ?_
        refine V_iload dX12_atMost_104 rfl ?_
        have hb2006 := hc2009 c2010 c2011
        refine U_iald dX12_atMost_106 s_84 hb2006 ?_
        refine V_goto dX12_atMost_107 ?_
        exact key4 _ (by rw [if_neg (not_not_intro c2010), if_neg c2011])
theorem leftM_loop {E : aE} {P : Int32 → hI_ → hJ_ → Prop} {I0 I : hI_} {J : hJ_} {p c t : Nat} {v3 : Int32} (h : Rel I0) (hs : SM I0 I (fun _ => true)) (hc : c < nC I0) (ht : t < 100000) (k : HX12_atMost_10 E P (nI p) (nI t) (v3 + lfT I0 c t (nD I0) * cK I0 c 3) (nI (c + 1)) I J) : ∀ (m n : Nat), n + m = nD I0 → HX12_atMost_66 E P (nI p) (nI t) v3 (nI c) (lfT I0 c t n) (nI n) I J
  | 0, n, hn => by
    have hD := Rel_D h
    have hC := Rel_C h
    have e : n = nD I0 := by omega
    have e3 : its I (nI c) 3 = cK I0 c 3 := (its_cK (j := 3) (by omega) (by omega)).trans (cK_M hs.1 _ 3)
    refine wX12_atMost_66 ?_
    rw [hs.1.1 82 rfl, hD.2.1, e, e3, nI_1]
    exact ⟨fun _ => ⟨inC_nI (j := 3) (by omega) (by omega), k⟩, fun z => absurd (nI_le (Nat.le_refl _) (by omega)) z⟩
  | m + 1, n, hn => by
    have hD := Rel_D h
    have hnn : n < nD I0 := by omega
    have ok := deal_ok h hnn
    have rc := leftM_loop (E := E) h hs hc ht k m (n + 1) (by omega)
    rw [lfT_s] at rc
    have vn : vp_in (nI n) 24 := vp_in_nI (by omega) (by omega)
    refine wX12_atMost_66 ?_
    rw [hs.1.1 82 rfl, hD.2.1, (snt_M h hs.1 hnn).2.1, nI_clamp (by omega), (hs.2.1 n hnn).1, hs.2.2 n hnn rfl, nI_1 n]
    refine ⟨fun z => absurd z (nI_ge (by omega) (by omega)), fun _ => ⟨inD_nI (j := 1) (by omega) (by omega), fun _ => vn, fun _ _ => vn, ?_⟩⟩
    by_cases z : nI (cD I0 n) = nI c
    · rw [if_neg (fun v => v z)]
      rw [if_neg (fun v => v z)] at rc
      by_cases y : nI t < nI (aD I0 n)
      · rw [if_pos y, Int32.sub_zero]
        rw [if_pos y] at rc; exact rc
      · rw [if_neg y]
        rw [if_neg y] at rc; exact rc
    · rw [if_pos z, Int32.sub_zero]
      rw [if_pos z] at rc; exact rc
theorem mostM_loop {E : aE} {P : Int32 → hI_ → hJ_ → Prop} {I0 I : hI_} {J : hJ_} {p t : Nat} (h : Rel I0) (hs : SM I0 I (fun _ => true)) (ht : t < 100000) (k : P (dbm I0 p t (nC I0)) I J) : ∀ (m c : Nat), c + m = nC I0 → HX12_atMost_10 E P (nI p) (nI t) (dbm I0 p t c) (nI c) I J
  | 0, c, hn => by
    have hC := Rel_C h
    have e : c = nC I0 := by omega
    refine wX12_atMost_10 ?_
    rw [hs.1.1 82 rfl, hC.2.1, e]
    exact ⟨fun _ => k, fun z => absurd (nI_le (Nat.le_refl _) (by omega)) z⟩
  | m + 1, c, hn => by
    have hC := Rel_C h
    have hcc : c < nC I0 := by omega
    have hR := Rel_agM hs.1 h
    have e : ∀ j, j < 8 → its I (nI c) (nI j) = cK I0 c j := fun j hj => (its_cK (by omega) hj).trans (cK_M hs.1 _ j)
    have e0 : its I (nI c) 0 = cK I0 c 0 := e 0 (by omega)
    have e2 : its I (nI c) 2 = cK I0 c 2 := e 2 (by omega)
    have e4 : its I (nI c) 4 = cK I0 c 4 := e 4 (by omega)
    have ic : ∀ j, j < 8 → inC (nI c) (nI j) := fun j hj => inC_nI (by omega) hj
    have rc := mostM_loop (E := E) h hs ht k m (c + 1) (by omega)
    rw [dbm_s] at rc
    refine wX12_atMost_10 ?_
    rw [hs.1.1 82 rfl, hC.2.1, e0, e2, e4, nI_1, stB_M hs.1]
    refine ⟨fun z => absurd z (nI_ge (by omega) (by omega)), fun _ => ⟨ic 0 (by omega), fun z1 => ?_, fun z1 => ⟨ic 2 (by omega), fun z2 => ?_, fun z2 => ⟨⟨hR, c, by rw [nC_M hs.1]; exact hcc, rfl⟩, fun z3 => ?_, fun z3 => ⟨ic 4 (by omega), ?_⟩⟩⟩⟩⟩
    · rw [if_pos z1] at rc; exact rc
    · rw [if_neg (fun v => v z1), if_pos z2] at rc; exact rc
    · rw [if_neg (fun v => v z1), if_neg (fun v => v z2), if_pos z3] at rc; exact rc
    · rw [if_neg (fun v => v z1), if_neg (fun v => v z2), if_neg (fun v => v z3)] at rc
      refine leftM_loop h hs hcc ht ?_ (nD I0) 0 (by omega)
      rw [Int32.mul_comm]; exact rc
theorem tX12_atMost {E : aE} {P : Int32 → hI_ → hJ_ → Prop} {I0 I : hI_} {J : hJ_} {p t : Nat} (h : Rel I0) (hs : SM I0 I (fun _ => true)) (ht : t < 100000) (k : P (dbm I0 p t (nC I0)) I J) : CallI E mX12_atMost [.ref 68, .int (nI p), .int (nI t)] SH I J P := wX12_atMost (tX12_owed h hs ht (mostM_loop h hs ht k (nC I0) 0 (by omega)))
