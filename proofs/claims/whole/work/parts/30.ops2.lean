theorem nS_X {I I2 : hI_} (h : agX I I2) : nS I2 = nS I := by unfold nS; rw [h 82 rfl]
theorem prc_X {I I2 : hI_} (h : agX I I2) (p t : Int32) : prc I2 p t = prc I p t := by unfold prc; rw [h 82 rfl, h 74 rfl, nS_X h]
theorem prc_M {I I2 : hI_} (h : agM I I2) (p t : Int32) : prc I2 p t = prc I p t := by unfold prc nS; rw [h.1 82 rfl, h.1 74 rfl]
theorem nC_X {I I2 : hI_} (h : agX I I2) : nC I2 = nC I := by unfold nC; rw [h 82 rfl]
theorem nC_M {I I2 : hI_} (h : agM I I2) : nC I2 = nC I := by unfold nC; rw [h.1 82 rfl]
theorem nD_X {I I2 : hI_} (h : agX I I2) : nD I2 = nD I := by unfold nD; rw [h 82 rfl]
theorem nD_M {I I2 : hI_} (h : agM I I2) : nD I2 = nD I := by unfold nD; rw [h.1 82 rfl]
theorem cK_X {I I2 : hI_} (h : agX I I2) (c j : Nat) : cK I2 c j = cK I c j := by unfold cK; rw [h 82 rfl]
theorem cK_M {I I2 : hI_} (h : agM I I2) (c j : Nat) : cK I2 c j = cK I c j := by unfold cK; rw [h.1 82 rfl]
theorem prOK_X {I I2 : hI_} (h : agX I I2) {p : Int32} (hp : prOK I p) : prOK I2 p := ⟨Rel_agX h hp.1, by rw [nP_X h]; exact hp.2⟩
theorem prOK_M {I I2 : hI_} (h : agM I I2) {p : Int32} (hp : prOK I p) : prOK I2 p := ⟨Rel_agM h hp.1, by rw [nP_M h]; exact hp.2⟩
set_option maxHeartbeats 4000000 in
set_option maxRecDepth 20000 in
theorem wX11_knows {E : aE} {P : Int32 → hI_ → hJ_ → Prop} {I : hI_} {J : hJ_} {a0 : Int32} {a1 : Int32} {a2 : Int32} {a3 : Int32} (k : ((¬ (0 ≤ a0 ∧ a0 ≤ I 3 6 - 1) → P (-1 : Int32) I J) ∧ ((0 ≤ a0 ∧ a0 ≤ I 3 6 - 1) → ((¬ (0 ≤ a1 ∧ a1 ≤ I 3 6 - 1) → P (-1 : Int32) I J) ∧ ((0 ≤ a1 ∧ a1 ≤ I 3 6 - 1) → ((¬ (0 ≤ a2 ∧ a2 ≤ 999) → P (-1 : Int32) I J) ∧ ((0 ≤ a2 ∧ a2 ≤ 999) → ((((0 : Int32) ≤ a3 ∧ a3 ≤ (2 : Int32)) → CallI E mX2_latest [.ref 18, .int a1, .int a0, .int a2] SH I J (fun x5 I6 J7 => (((0 : Int32) ≤ x5 → ((¬ a3 = (0 : Int32)) → (¬ a3 = (1 : Int32)) → prOK I6 a1) ∧ P (if ¬ a3 = (0 : Int32) then (if ¬ a3 = (1 : Int32) then (prc I6 a1 x5) else (a2 - x5)) else x5) I6 J7) ∧ (¬ ((0 : Int32) ≤ x5) → P (-4 : Int32) I6 J7)))) ∧ (¬ (((0 : Int32) ≤ a3 ∧ a3 ≤ (2 : Int32))) → P (-1 : Int32) I J))))))))) : CallI E mX11_knows [.ref 0, .int a0, .int a1, .int a2, .int a3] SH I J P := by
  refine Call_of (L := [.ref 0, .int a0, .int a1, .int a2, .int a3, .retAddr 0]) ok_X11_knows.1 rfl rfl ?_
  refine V_aload_n dX11_knows_0 rfl ?_
  refine V_iload_n dX11_knows_1 rfl ?_
  refine U_callV1 [.int a0] dX11_knows_2 ov_X11_148 s_0 rfl ⟨rfl, rfl, rfl⟩ rfl rfl rfl (tX11_isPlace ?_)
  refine U_ifb_eq dX11_knows_5 (fun c1 => ?_) (fun c1 => ?_)
  · have k := k.1 c1
    refine V_iconst (v := (-1 : Int32)) dX11_knows_33 rfl ?_
    exact V_iret dX11_knows_34 ⟨_, rfl, rfl⟩ rfl rfl ⟨_, _, _, rfl, rfl, k⟩
  · have k := k.2 c1
    refine V_aload_n dX11_knows_8 rfl ?_
    refine V_iload_n dX11_knows_9 rfl ?_
    refine U_callV1 [.int a1] dX11_knows_10 ov_X11_148 s_0 rfl ⟨rfl, rfl, rfl⟩ rfl rfl rfl (tX11_isPlace ?_)
    refine U_ifb_eq dX11_knows_13 (fun c2 => ?_) (fun c2 => ?_)
    · have k := k.1 c2
      refine V_iconst (v := (-1 : Int32)) dX11_knows_33 rfl ?_
      exact V_iret dX11_knows_34 ⟨_, rfl, rfl⟩ rfl rfl ⟨_, _, _, rfl, rfl, k⟩
    · have k := k.2 c2
      refine V_iload_n dX11_knows_16 rfl ?_
      refine U_callS1 [.int a2] dX11_knows_17 os_X11_159 ⟨rfl, rfl, rfl⟩ rfl rfl rfl (tX11_isMinute ?_)
      refine U_ifb_eq dX11_knows_20 (fun c3 => ?_) (fun c3 => ?_)
      · have k := k.1 c3
        refine V_iconst (v := (-1 : Int32)) dX11_knows_33 rfl ?_
        exact V_iret dX11_knows_34 ⟨_, rfl, rfl⟩ rfl rfl ⟨_, _, _, rfl, rfl, k⟩
      · have k := k.2 c3
        refine V_iload dX11_knows_23 rfl ?_
        refine V_iconst (v := (0 : Int32)) dX11_knows_25 rfl ?_
        refine V_iconst (v := (2 : Int32)) dX11_knows_26 rfl ?_
        refine U_callS1 [.int a3, .int (0 : Int32), .int (2 : Int32)] dX11_knows_27 os_X11_104 ⟨rfl, rfl, rfl⟩ rfl rfl rfl (tX11_within ?_)
        refine U_ifb_ne dX11_knows_30 (fun c4 => ?_) (fun c4 => ?_)
        · have k := k.1 c4
          refine V_aload_n dX11_knows_35 rfl ?_
          refine U_getR dX11_knows_36 fl_X11_40 s_0 rfl ?_
          refine V_iload_n dX11_knows_39 rfl ?_
          refine V_iload_n dX11_knows_40 rfl ?_
          refine V_iload_n dX11_knows_41 rfl ?_
          refine U_callV1 [.int a1, .int a0, .int a2] dX11_knows_42 ov_X11_170 s_18 rfl ⟨rfl, rfl, rfl⟩ rfl rfl rfl (CallI_mono k (fun x5 I6 J7 k => ?_))
          refine U_istore (L2 := [.ref 0, .int a0, .int a1, .int a2, .int a3, .int x5]) dX11_knows_45 (by decide) rfl ?_
          refine V_iload dX11_knows_47 rfl ?_
          refine V_if_ge dX11_knows_49 (fun c8 => ?_) (fun c8 => ?_)
          · have k := k.1 c8
            refine V_iload dX11_knows_55 rfl ?_
            obtain ⟨hc2012, k⟩ := k
            have key9 : ∀ (y2011 : Int32), y2011 = (if ¬ a3 = (0 : Int32) then (if ¬ a3 = (1 : Int32) then (prc I6 a1 x5) else (a2 - x5)) else x5) → V E mX11_knows (kI SH P) 88 [.ref 0, .int a0, .int a1, .int a2, .int a3, .int x5] [.int y2011] (SH, I6, J7) (0, 0) := by
              intro y2011 ey2011
              subst ey2011
              exact V_iret dX11_knows_88 ⟨_, rfl, rfl⟩ rfl rfl ⟨_, _, _, rfl, rfl, k⟩
            refine V_if_ne dX11_knows_57 (fun c2013 => ?_) (fun c2013 => ?_)
            · refine V_iload dX11_knows_65 rfl ?_
              refine V_iconst (v := (1 : Int32)) dX11_knows_67 rfl ?_
              refine V_icmp_ne dX11_knows_68 (fun c2014 => ?_) (fun c2014 => ?_)
              · refine V_aload_n dX11_knows_78 rfl ?_
                refine U_getR dX11_knows_79 fl_X11_47 s_0 rfl ?_
                refine V_iload_n dX11_knows_82 rfl ?_
                refine V_iload dX11_knows_83 rfl ?_
                have hp1010 := hc2012 c2013 c2014
                refine U_callV1 [.int a1, .int x5] dX11_knows_85 ov_X11_173 s_21 rfl ⟨rfl, rfl, rfl⟩ rfl rfl rfl (tX1_priceAt hp1010 ?_)
                exact key9 _ (by rw [if_pos c2013, if_pos c2014])
              · refine V_iload_n dX11_knows_71 rfl ?_
                refine V_iload dX11_knows_72 rfl ?_
                refine V_isub dX11_knows_74 ?_
                refine V_goto dX11_knows_75 ?_
                exact key9 _ (by rw [if_pos c2013, if_neg (not_not_intro c2014)])
            · refine V_iload dX11_knows_60 rfl ?_
              refine V_goto dX11_knows_62 ?_
              exact key9 _ (by rw [if_neg (not_not_intro c2013)])
          · have k := k.2 c8
            refine V_bipush (v := (-4 : Int32)) dX11_knows_52 rfl ?_
            exact V_iret dX11_knows_54 ⟨_, rfl, rfl⟩ rfl rfl ⟨_, _, _, rfl, rfl, k⟩
        · have k := k.2 c4
          refine V_iconst (v := (-1 : Int32)) dX11_knows_33 rfl ?_
          exact V_iret dX11_knows_34 ⟨_, rfl, rfl⟩ rfl rfl ⟨_, _, _, rfl, rfl, k⟩
set_option maxHeartbeats 4000000 in
set_option maxRecDepth 20000 in
theorem wX12_knows {E : aE} {P : Int32 → hI_ → hJ_ → Prop} {I : hI_} {J : hJ_} {a0 : Int32} {a1 : Int32} {a2 : Int32} {a3 : Int32} (k : ((¬ (0 ≤ a1 ∧ a1 ≤ I 73 0 - 1) → P (-1 : Int32) I J) ∧ ((0 ≤ a1 ∧ a1 ≤ I 73 0 - 1) → ((¬ (0 ≤ a0 ∧ a0 ≤ I 73 0 - 1) → P (-1 : Int32) I J) ∧ ((0 ≤ a0 ∧ a0 ≤ I 73 0 - 1) → ((¬ (0 ≤ a2 ∧ a2 ≤ 999) → P (-1 : Int32) I J) ∧ ((0 ≤ a2 ∧ a2 ≤ 999) → ((((0 : Int32) ≤ a3 ∧ a3 ≤ (2 : Int32)) → CallI E mX12_latest [.ref 68, .int a0, .int a1, .int a2] SH I J (fun x5 I6 J7 => ((¬ x5 = (-4 : Int32)) → (¬ a3 = (0 : Int32)) → (¬ a3 = (1 : Int32)) → prOK I6 a1) ∧ P (if ¬ x5 = (-4 : Int32) then (if ¬ a3 = (0 : Int32) then (if ¬ a3 = (1 : Int32) then (prc I6 a1 x5) else (a2 - x5)) else x5) else (-4 : Int32)) I6 J7)) ∧ (¬ (((0 : Int32) ≤ a3 ∧ a3 ≤ (2 : Int32))) → P (-1 : Int32) I J))))))))) : CallI E mX12_knows [.ref 68, .int a0, .int a1, .int a2, .int a3] SH I J P := by
  refine Call_of (L := [.ref 68, .int a0, .int a1, .int a2, .int a3, .retAddr 0]) ok_X12_knows.1 rfl rfl ?_
  refine V_aload_n dX12_knows_0 rfl ?_
  refine V_iload_n dX12_knows_1 rfl ?_
  refine U_callV1 [.int a1] dX12_knows_2 ov_X12_167 s_68 rfl ⟨rfl, rfl, rfl⟩ rfl rfl rfl (tX12_isPlace ?_)
  refine U_ifb_eq dX12_knows_5 (fun c1 => ?_) (fun c1 => ?_)
  · have k := k.1 c1
    refine V_iconst (v := (-1 : Int32)) dX12_knows_36 rfl ?_
    exact V_iret dX12_knows_37 ⟨_, rfl, rfl⟩ rfl rfl ⟨_, _, _, rfl, rfl, k⟩
  · have k := k.2 c1
    refine V_aload_n dX12_knows_8 rfl ?_
    refine V_iload_n dX12_knows_9 rfl ?_
    refine U_callV1 [.int a0] dX12_knows_10 ov_X12_167 s_68 rfl ⟨rfl, rfl, rfl⟩ rfl rfl rfl (tX12_isPlace ?_)
    refine U_ifb_eq dX12_knows_13 (fun c2 => ?_) (fun c2 => ?_)
    · have k := k.1 c2
      refine V_iconst (v := (-1 : Int32)) dX12_knows_36 rfl ?_
      exact V_iret dX12_knows_37 ⟨_, rfl, rfl⟩ rfl rfl ⟨_, _, _, rfl, rfl, k⟩
    · have k := k.2 c2
      refine V_iload_n dX12_knows_16 rfl ?_
      refine U_callS1 [.int a2] dX12_knows_17 os_X12_179 ⟨rfl, rfl, rfl⟩ rfl rfl rfl (tX12_isMinute ?_)
      refine U_ifb_eq dX12_knows_20 (fun c3 => ?_) (fun c3 => ?_)
      · have k := k.1 c3
        refine V_iconst (v := (-1 : Int32)) dX12_knows_36 rfl ?_
        exact V_iret dX12_knows_37 ⟨_, rfl, rfl⟩ rfl rfl ⟨_, _, _, rfl, rfl, k⟩
      · have k := k.2 c3
        refine V_iload dX12_knows_23 rfl ?_
        refine V_i2l dX12_knows_25 ?_
        refine V_lconst (v := (0 : Int64)) dX12_knows_26 rfl ?_
        refine V_ldc2_w (v := (2 : Int64)) dX12_knows_27 (gt_6 39 rfl rfl) ?_
        refine U_callS1 [.long a3.toInt64, .long (0 : Int64), .long (2 : Int64)] dX12_knows_30 os_X12_91 ⟨rfl, rfl, rfl⟩ rfl rfl rfl (tX12_in32 (v := a3) (lo := (0 : Int32)) (hi := (2 : Int32)) rfl (by decide) (by decide) ?_)
        refine U_ifb_ne dX12_knows_33 (fun c4 => ?_) (fun c4 => ?_)
        · have k := k.1 c4
          refine V_aload_n dX12_knows_38 rfl ?_
          refine V_iload_n dX12_knows_39 rfl ?_
          refine V_iload_n dX12_knows_40 rfl ?_
          refine V_iload_n dX12_knows_41 rfl ?_
          refine U_callV1 [.int a0, .int a1, .int a2] dX12_knows_42 ov_X12_190 s_68 rfl ⟨rfl, rfl, rfl⟩ rfl rfl rfl (CallI_mono k (fun x5 I6 J7 k => ?_))
          refine U_istore (L2 := [.ref 68, .int a0, .int a1, .int a2, .int a3, .int x5]) dX12_knows_45 (by decide) rfl ?_
          refine V_iload dX12_knows_47 rfl ?_
          refine V_bipush (v := (-4 : Int32)) dX12_knows_49 rfl ?_
          obtain ⟨hc2011, k⟩ := k
          have key8 : ∀ (y2010 : Int32), y2010 = (if ¬ x5 = (-4 : Int32) then (if ¬ a3 = (0 : Int32) then (if ¬ a3 = (1 : Int32) then (prc I6 a1 x5) else (a2 - x5)) else x5) else (-4 : Int32)) → V E mX12_knows (kI SH P) 89 [.ref 68, .int a0, .int a1, .int a2, .int a3, .int x5] [.int y2010] (SH, I6, J7) (0, 0) := by
            intro y2010 ey2010
            subst ey2010
            exact V_iret dX12_knows_89 ⟨_, rfl, rfl⟩ rfl rfl ⟨_, _, _, rfl, rfl, k⟩
          refine V_icmp_ne dX12_knows_51 (fun c2012 => ?_) (fun c2012 => ?_)
          · refine V_iload dX12_knows_59 rfl ?_
            refine V_if_ne dX12_knows_61 (fun c2013 => ?_) (fun c2013 => ?_)
            · refine V_iload dX12_knows_69 rfl ?_
              refine V_iconst (v := (1 : Int32)) dX12_knows_71 rfl ?_
              refine V_icmp_ne dX12_knows_72 (fun c2014 => ?_) (fun c2014 => ?_)
              · refine V_aload_n dX12_knows_82 rfl ?_
                refine V_iload_n dX12_knows_83 rfl ?_
                refine V_iload dX12_knows_84 rfl ?_
                have hp1009 := hc2011 c2012 c2013 c2014
                refine U_callV1 [.int a1, .int x5] dX12_knows_86 ov_X12_193 s_68 rfl ⟨rfl, rfl, rfl⟩ rfl rfl rfl (tX12_priceAt hp1009 ?_)
                exact key8 _ (by rw [if_pos c2012, if_pos c2013, if_pos c2014])
              · refine V_iload_n dX12_knows_75 rfl ?_
                refine V_iload dX12_knows_76 rfl ?_
                refine V_isub dX12_knows_78 ?_
                refine V_goto dX12_knows_79 ?_
                exact key8 _ (by rw [if_pos c2012, if_pos c2013, if_neg (not_not_intro c2014)])
            · refine V_iload dX12_knows_64 rfl ?_
              refine V_goto dX12_knows_66 ?_
              exact key8 _ (by rw [if_pos c2012, if_neg (not_not_intro c2013)])
          · refine V_bipush (v := (-4 : Int32)) dX12_knows_54 rfl ?_
            refine V_goto dX12_knows_56 ?_
            exact key8 _ (by rw [if_neg (not_not_intro c2012)])
        · have k := k.2 c4
          refine V_iconst (v := (-1 : Int32)) dX12_knows_36 rfl ?_
          exact V_iret dX12_knows_37 ⟨_, rfl, rfl⟩ rfl rfl ⟨_, _, _, rfl, rfl, k⟩
theorem op_knows {E : aE} {I : hI_} {J : hJ_} {P : hI_ → hJ_ → Prop} {b a t q : Int32} (h : Rel I) (hP : ∀ I2 J2, Rel I2 → P I2 J2) : Op2 E mX11_knows mX12_knows [.int b, .int a, .int t, .int q] I J P := by
  have hp := Rel_P h
  have e := Rel_pl h
  have bad : ¬ ((0 ≤ a ∧ a ≤ I 73 0 - 1) ∧ (0 ≤ b ∧ b ≤ I 73 0 - 1) ∧ (0 ≤ t ∧ t ≤ 999) ∧ (0 ≤ q ∧ q ≤ 2)) → CallI E mX12_knows [.ref 68, .int b, .int a, .int t, .int q] SH I J (fun r2 I2 J2 => (-1 : Int32) = r2 ∧ P I2 J2) := fun hb => wX12_knows ⟨fun _ => ⟨rfl, hP I J h⟩, fun d1 => ⟨fun _ => ⟨rfl, hP I J h⟩, fun d2 => ⟨fun _ => ⟨rfl, hP I J h⟩, fun d3 => ⟨fun d4 => absurd ⟨d1, d2, d3, d4⟩ hb, fun _ => ⟨rfl, hP I J h⟩⟩⟩⟩⟩
  refine wX11_knows ⟨fun c1 => bad (fun z => c1 (by rw [e]; exact z.2.1)), fun c1 => ⟨fun c2 => bad (fun z => c2 (by rw [e]; exact z.1)), fun c2 => ⟨fun c3 => bad (fun z => c3 z.2.2.1), fun c3 => ⟨fun c4 => ?_, fun c4 => bad (fun z => c4 z.2.2.2)⟩⟩⟩⟩
  rw [e] at c1 c2
  have c1' := c1
  have c2' := c2
  rw [hp.2.1] at c1' c2'
  obtain ⟨y, hy, rfl⟩ := in_lt (by omega) c1'
  obtain ⟨x, hx, rfl⟩ := in_lt (by omega) c2'
  obtain ⟨z, hz, rfl⟩ := in999 c3
  refine tX2_latest h hx hy (by omega) (fun I2 hag => ?_)
  have hX : agX I I2 := ag1_X rfl hag
  have hR := Rel_agX hX h
  have e73 : I2 73 = I 73 := hag 73 (by omega)
  have hl := lat_le (w := wI I) (a := x) (b := y) (T := z)
  have ok2 : prOK I2 (nI x) := ⟨hR, x, by rw [nP_X hX]; exact hx, rfl⟩
  have hM : ∀ v : Int32, (∀ I3, agM I2 I3 → v = (if ¬ (if lat (wI I) x y z = 0 then (-4 : Int32) else nI (lat (wI I) x y z) - 1) = (-4 : Int32) then (if ¬ q = 0 then (if ¬ q = 1 then prc I3 (nI x) (if lat (wI I) x y z = 0 then (-4 : Int32) else nI (lat (wI I) x y z) - 1) else nI z - (if lat (wI I) x y z = 0 then (-4 : Int32) else nI (lat (wI I) x y z) - 1)) else (if lat (wI I) x y z = 0 then (-4 : Int32) else nI (lat (wI I) x y z) - 1)) else (-4 : Int32))) → CallI E mX12_knows [.ref 68, .int (nI y), .int (nI x), .int (nI z), .int q] SH I2 J (fun r2 I3 J3 => v = r2 ∧ P I3 J3) := fun v hv => by
    refine wX12_knows ⟨fun d1 => absurd (by rw [e73]; exact c2) d1, fun _ => ⟨fun d2 => absurd (by rw [e73]; exact c1) d2, fun _ => ⟨fun d3 => absurd c3 d3, fun _ => ⟨fun _ => ?_, fun d4 => absurd c4 d4⟩⟩⟩⟩
    refine tX12_latest hR (by omega) (by omega) (by omega) (fun I3 hag3 => ?_)
    have hM3 : agM I2 I3 := ag1_M rfl (by omega) hag3
    rw [wI_X hX]
    exact ⟨fun _ _ _ => prOK_M hM3 ok2, hv I3 hM3, hP I3 J (Rel_agM hM3 hR)⟩
  by_cases h0 : lat (wI I) x y z = 0
  · rw [h0]
    refine ⟨fun c => absurd c (by decide), fun _ => hM _ (fun I3 _ => ?_)⟩
    rw [if_pos h0, if_neg (fun z => z rfl)]
  · have e1 : nI (lat (wI I) x y z) - 1 = nI (lat (wI I) x y z - 1) := by rw [show lat (wI I) x y z = lat (wI I) x y z - 1 + 1 by omega, nI_pred]; congr 1
    refine ⟨fun _ => ⟨fun _ _ => ok2, hM _ (fun I3 hM3 => ?_)⟩, fun c => absurd (by rw [e1]; exact nI_pos' (by omega)) c⟩
    rw [if_neg h0]
    have hn4 : ¬ nI (lat (wI I) x y z) - 1 = -4 := fun w => by
      have w2 : (nI (lat (wI I) x y z) - 1).toInt = (-4 : Int32).toInt := by rw [w]
      rw [nIm1 (by omega)] at w2
      have : (-4 : Int32).toInt = -4 := rfl
      omega
    rw [if_pos hn4, prc_M hM3]
set_option maxHeartbeats 4000000 in
set_option maxRecDepth 20000 in
theorem wX2_gatherAtOnce {E : aE} {P : hI_ → hJ_ → Prop} {I : hI_} {J : hJ_} {a0 : Int32} (k : P (flI I 20 5 a0) J) : CallV E mX2_gatherAtOnce [.ref 18, .int a0] SH I J P := by
  refine Call_of (L := [.ref 18, .int a0]) ok_X2_gatherAtOnce.1 rfl rfl ?_
  refine V_aload_n dX2_gatherAtOnce_0 rfl ?_
  refine U_getR dX2_gatherAtOnce_1 fl_X2_15 s_18 rfl ?_
  refine V_iload_n dX2_gatherAtOnce_4 rfl ?_
  refine U_callS0 [.ref 20, .int a0] dX2_gatherAtOnce_5 os_X2_22 ⟨rfl, rfl, rfl⟩ rfl rfl rfl (tfillI s_20 (by decide) ?_)
  exact V_vret dX2_gatherAtOnce_8 rfl rfl rfl ⟨_, _, rfl, k⟩
def HX11_dearest_83 (E : aE) (P : Int32 → hI_ → hJ_ → Prop) (v4 : Int32) (v5 : Int32) (v6 : Int32) (v7 : Int32) (I : hI_) (J : hJ_) : Prop := V E mX11_dearest (kI SH P) 83 [.ref 0, .retAddr 0, .retAddr 0, .retAddr 0, .int v4, .int v5, .int v6, .int v7, .retAddr 0] [] (SH, I, J) (0, 0)
set_option maxHeartbeats 4000000 in
set_option maxRecDepth 20000 in
theorem wX11_dearest {E : aE} {P : Int32 → hI_ → hJ_ → Prop} {I : hI_} {J : hJ_} {a0 : Int32} {a1 : Int32} {a2 : Int32} (k : ((¬ (0 ≤ a1 ∧ a1 ≤ 999) → P (-1 : Int32) I J) ∧ ((0 ≤ a1 ∧ a1 ≤ 999) → ((¬ ((0 : Int32) ≤ a2 ∧ a2 ≤ (3 : Int32)) → P (-1 : Int32) I J) ∧ (((0 : Int32) ≤ a2 ∧ a2 ≤ (3 : Int32)) → ((a2 < (2 : Int32) → ((a2 < (2 : Int32) → CallV E mX2_gatherAtOnce [.ref 18, .int a1] SH I J (fun I6 J7 => HX11_dearest_83 E P (b2i ((a2 = (1 : Int32)) ∨ (a2 = (3 : Int32)))) (-4 : Int32) (0 : Int32) (0 : Int32) I6 J7)) ∧ (¬ (a2 < (2 : Int32)) → CallV E mX2_gather [.ref 18, .int a0, .int a1] SH I J (fun I2013 J2014 => HX11_dearest_83 E P (b2i ((a2 = (1 : Int32)) ∨ (a2 = (3 : Int32)))) (-4 : Int32) (0 : Int32) (0 : Int32) I2013 J2014)))) ∧ (¬ (a2 < (2 : Int32)) → (((0 ≤ a0 ∧ a0 ≤ I 3 6 - 1) → ((a2 < (2 : Int32) → CallV E mX2_gatherAtOnce [.ref 18, .int a1] SH I J (fun I4022 J4023 => HX11_dearest_83 E P (b2i ((a2 = (1 : Int32)) ∨ (a2 = (3 : Int32)))) (-4 : Int32) (0 : Int32) (0 : Int32) I4022 J4023)) ∧ (¬ (a2 < (2 : Int32)) → CallV E mX2_gather [.ref 18, .int a0, .int a1] SH I J (fun I6029 J6030 => HX11_dearest_83 E P (b2i ((a2 = (1 : Int32)) ∨ (a2 = (3 : Int32)))) (-4 : Int32) (0 : Int32) (0 : Int32) I6029 J6030)))) ∧ (¬ ((0 ≤ a0 ∧ a0 ≤ I 3 6 - 1)) → P (-1 : Int32) I J))))))))) : CallI E mX11_dearest [.ref 0, .int a0, .int a1, .int a2] SH I J P := by
  refine Call_of (L := [.ref 0, .int a0, .int a1, .int a2, .retAddr 0, .retAddr 0, .retAddr 0, .retAddr 0, .retAddr 0]) ok_X11_dearest.1 rfl rfl ?_
  refine V_iload_n dX11_dearest_0 rfl ?_
  refine U_callS1 [.int a1] dX11_dearest_1 os_X11_159 ⟨rfl, rfl, rfl⟩ rfl rfl rfl (tX11_isMinute ?_)
  refine U_ifb_eq dX11_dearest_4 (fun c1 => ?_) (fun c1 => ?_)
  · have k := k.1 c1
    refine V_iconst (v := (-1 : Int32)) dX11_dearest_29 rfl ?_
    exact V_iret dX11_dearest_30 ⟨_, rfl, rfl⟩ rfl rfl ⟨_, _, _, rfl, rfl, k⟩
  · have k := k.2 c1
    refine V_iload_n dX11_dearest_7 rfl ?_
    refine V_iconst (v := (0 : Int32)) dX11_dearest_8 rfl ?_
    refine V_iconst (v := (3 : Int32)) dX11_dearest_9 rfl ?_
    refine U_callS1 [.int a2, .int (0 : Int32), .int (3 : Int32)] dX11_dearest_10 os_X11_104 ⟨rfl, rfl, rfl⟩ rfl rfl rfl (tX11_within ?_)
    refine U_ifb_eq dX11_dearest_13 (fun c2 => ?_) (fun c2 => ?_)
    · have k := k.1 c2
      refine V_iconst (v := (-1 : Int32)) dX11_dearest_29 rfl ?_
      exact V_iret dX11_dearest_30 ⟨_, rfl, rfl⟩ rfl rfl ⟨_, _, _, rfl, rfl, k⟩
    · have k := k.2 c2
      refine V_iload_n dX11_dearest_16 rfl ?_
      refine V_iconst (v := (2 : Int32)) dX11_dearest_17 rfl ?_
      refine V_icmp_lt dX11_dearest_18 (fun c3 => ?_) (fun c3 => ?_)
      · have k := k.1 c3
        refine V_iload_n dX11_dearest_31 rfl ?_
        refine V_iconst (v := (2 : Int32)) dX11_dearest_32 rfl ?_
        refine V_icmp_lt dX11_dearest_33 (fun c4 => ?_) (fun c4 => ?_)
        · have k := k.1 c4
          refine V_aload_n dX11_dearest_48 rfl ?_
          refine U_getR dX11_dearest_49 fl_X11_40 s_0 rfl ?_
          refine V_iload_n dX11_dearest_52 rfl ?_
          refine U_callV0 [.int a1] dX11_dearest_53 ov_X11_196 s_18 rfl ⟨rfl, rfl, rfl⟩ rfl rfl rfl (CallV_mono k (fun I6 J7 k => ?_))
          refine V_iload_n dX11_dearest_56 rfl ?_
          refine V_iconst (v := (1 : Int32)) dX11_dearest_57 rfl ?_
          have key8 : ∀ (y2009 : Int32), y2009 = (b2i ((a2 = (1 : Int32)) ∨ (a2 = (3 : Int32)))) → V E mX11_dearest (kI SH P) 71 [.ref 0, .int a0, .int a1, .int a2, .retAddr 0, .retAddr 0, .retAddr 0, .retAddr 0, .retAddr 0] [.int y2009] (SH, I6, J7) (0, 0) := by
            intro y2009 ey2009
            subst ey2009
            refine U_istore (L2 := [.ref 0, .int a0, .int a1, .int a2, .int (b2i ((a2 = (1 : Int32)) ∨ (a2 = (3 : Int32)))), .retAddr 0, .retAddr 0, .retAddr 0, .retAddr 0]) dX11_dearest_71 (by decide) rfl ?_
            refine V_bipush (v := (-4 : Int32)) dX11_dearest_73 rfl ?_
            refine U_istore (L2 := [.ref 0, .int a0, .int a1, .int a2, .int (b2i ((a2 = (1 : Int32)) ∨ (a2 = (3 : Int32)))), .int (-4 : Int32), .retAddr 0, .retAddr 0, .retAddr 0]) dX11_dearest_75 (by decide) rfl ?_
            refine V_iconst (v := (0 : Int32)) dX11_dearest_77 rfl ?_
            refine U_istore (L2 := [.ref 0, .int a0, .int a1, .int a2, .int (b2i ((a2 = (1 : Int32)) ∨ (a2 = (3 : Int32)))), .int (-4 : Int32), .int (0 : Int32), .retAddr 0, .retAddr 0]) dX11_dearest_78 (by decide) rfl ?_
            refine V_iconst (v := (0 : Int32)) dX11_dearest_80 rfl ?_
            refine U_istore (L2 := [.ref 0, .int a0, .int a1, .int a2, .int (b2i ((a2 = (1 : Int32)) ∨ (a2 = (3 : Int32)))), .int (-4 : Int32), .int (0 : Int32), .int (0 : Int32), .retAddr 0]) dX11_dearest_81 (by decide) rfl ?_
            exact V_wk (wk_eq (wk_j (wk_j (wk_j (wk_eq (wk_eq (wk_eq (wk_eq (wk_j (wk_nil)))))))))) k
          refine V_icmp_eq dX11_dearest_58 (fun c2010 => ?_) (fun c2010 => ?_)
          · refine V_iconst (v := (1 : Int32)) dX11_dearest_66 rfl ?_
            refine V_goto dX11_dearest_67 ?_
            exact key8 _ ((b2i_1.mpr (Or.inl c2010)).symm)
          · refine V_iload_n dX11_dearest_61 rfl ?_
            refine V_iconst (v := (3 : Int32)) dX11_dearest_62 rfl ?_
            refine V_icmp_ne dX11_dearest_63 (fun c2011 => ?_) (fun c2011 => ?_)
            · refine V_iconst (v := (0 : Int32)) dX11_dearest_70 rfl ?_
              exact key8 _ ((b2i_0.mpr (fun q => q.elim (fun z => c2010 z) (fun q => c2011 q))).symm)
            · refine V_iconst (v := (1 : Int32)) dX11_dearest_66 rfl ?_
              refine V_goto dX11_dearest_67 ?_
              exact key8 _ ((b2i_1.mpr (Or.inr (c2011))).symm)
        · have k := k.2 c4
          refine V_aload_n dX11_dearest_36 rfl ?_
          refine U_getR dX11_dearest_37 fl_X11_40 s_0 rfl ?_
          refine V_iload_n dX11_dearest_40 rfl ?_
          refine V_iload_n dX11_dearest_41 rfl ?_
          refine U_callV0 [.int a0, .int a1] dX11_dearest_42 ov_X11_192 s_18 rfl ⟨rfl, rfl, rfl⟩ rfl rfl rfl (CallV_mono k (fun I2013 J2014 k => ?_))
          refine V_goto dX11_dearest_45 ?_
          refine V_iload_n dX11_dearest_56 rfl ?_
          refine V_iconst (v := (1 : Int32)) dX11_dearest_57 rfl ?_
          have key2015 : ∀ (y4016 : Int32), y4016 = (b2i ((a2 = (1 : Int32)) ∨ (a2 = (3 : Int32)))) → V E mX11_dearest (kI SH P) 71 [.ref 0, .int a0, .int a1, .int a2, .retAddr 0, .retAddr 0, .retAddr 0, .retAddr 0, .retAddr 0] [.int y4016] (SH, I2013, J2014) (0, 0) := by
            intro y4016 ey4016
            subst ey4016
            refine U_istore (L2 := [.ref 0, .int a0, .int a1, .int a2, .int (b2i ((a2 = (1 : Int32)) ∨ (a2 = (3 : Int32)))), .retAddr 0, .retAddr 0, .retAddr 0, .retAddr 0]) dX11_dearest_71 (by decide) rfl ?_
            refine V_bipush (v := (-4 : Int32)) dX11_dearest_73 rfl ?_
            refine U_istore (L2 := [.ref 0, .int a0, .int a1, .int a2, .int (b2i ((a2 = (1 : Int32)) ∨ (a2 = (3 : Int32)))), .int (-4 : Int32), .retAddr 0, .retAddr 0, .retAddr 0]) dX11_dearest_75 (by decide) rfl ?_
            refine V_iconst (v := (0 : Int32)) dX11_dearest_77 rfl ?_
            refine U_istore (L2 := [.ref 0, .int a0, .int a1, .int a2, .int (b2i ((a2 = (1 : Int32)) ∨ (a2 = (3 : Int32)))), .int (-4 : Int32), .int (0 : Int32), .retAddr 0, .retAddr 0]) dX11_dearest_78 (by decide) rfl ?_
            refine V_iconst (v := (0 : Int32)) dX11_dearest_80 rfl ?_
            refine U_istore (L2 := [.ref 0, .int a0, .int a1, .int a2, .int (b2i ((a2 = (1 : Int32)) ∨ (a2 = (3 : Int32)))), .int (-4 : Int32), .int (0 : Int32), .int (0 : Int32), .retAddr 0]) dX11_dearest_81 (by decide) rfl ?_
            exact V_wk (wk_eq (wk_j (wk_j (wk_j (wk_eq (wk_eq (wk_eq (wk_eq (wk_j (wk_nil)))))))))) k
          refine V_icmp_eq dX11_dearest_58 (fun c4017 => ?_) (fun c4017 => ?_)
          · refine V_iconst (v := (1 : Int32)) dX11_dearest_66 rfl ?_
            refine V_goto dX11_dearest_67 ?_
            exact key2015 _ ((b2i_1.mpr (Or.inl c4017)).symm)
          · refine V_iload_n dX11_dearest_61 rfl ?_
            refine V_iconst (v := (3 : Int32)) dX11_dearest_62 rfl ?_
            refine V_icmp_ne dX11_dearest_63 (fun c4018 => ?_) (fun c4018 => ?_)
            · refine V_iconst (v := (0 : Int32)) dX11_dearest_70 rfl ?_
              exact key2015 _ ((b2i_0.mpr (fun q => q.elim (fun z => c4017 z) (fun q => c4018 q))).symm)
            · refine V_iconst (v := (1 : Int32)) dX11_dearest_66 rfl ?_
              refine V_goto dX11_dearest_67 ?_
              exact key2015 _ ((b2i_1.mpr (Or.inr (c4018))).symm)
      · have k := k.2 c3
        refine V_aload_n dX11_dearest_21 rfl ?_
        refine V_iload_n dX11_dearest_22 rfl ?_
        refine U_callV1 [.int a0] dX11_dearest_23 ov_X11_148 s_0 rfl ⟨rfl, rfl, rfl⟩ rfl rfl rfl (tX11_isPlace ?_)
        refine U_ifb_ne dX11_dearest_26 (fun c4019 => ?_) (fun c4019 => ?_)
        · have k := k.1 c4019
          refine V_iload_n dX11_dearest_31 rfl ?_
          refine V_iconst (v := (2 : Int32)) dX11_dearest_32 rfl ?_
          refine V_icmp_lt dX11_dearest_33 (fun c4020 => ?_) (fun c4020 => ?_)
          · have k := k.1 c4020
            refine V_aload_n dX11_dearest_48 rfl ?_
            refine U_getR dX11_dearest_49 fl_X11_40 s_0 rfl ?_
            refine V_iload_n dX11_dearest_52 rfl ?_
            refine U_callV0 [.int a1] dX11_dearest_53 ov_X11_196 s_18 rfl ⟨rfl, rfl, rfl⟩ rfl rfl rfl (CallV_mono k (fun I4022 J4023 k => ?_))
            refine V_iload_n dX11_dearest_56 rfl ?_
            refine V_iconst (v := (1 : Int32)) dX11_dearest_57 rfl ?_
            have key4024 : ∀ (y6025 : Int32), y6025 = (b2i ((a2 = (1 : Int32)) ∨ (a2 = (3 : Int32)))) → V E mX11_dearest (kI SH P) 71 [.ref 0, .int a0, .int a1, .int a2, .retAddr 0, .retAddr 0, .retAddr 0, .retAddr 0, .retAddr 0] [.int y6025] (SH, I4022, J4023) (0, 0) := by
              intro y6025 ey6025
              subst ey6025
              refine U_istore (L2 := [.ref 0, .int a0, .int a1, .int a2, .int (b2i ((a2 = (1 : Int32)) ∨ (a2 = (3 : Int32)))), .retAddr 0, .retAddr 0, .retAddr 0, .retAddr 0]) dX11_dearest_71 (by decide) rfl ?_
              refine V_bipush (v := (-4 : Int32)) dX11_dearest_73 rfl ?_
              refine U_istore (L2 := [.ref 0, .int a0, .int a1, .int a2, .int (b2i ((a2 = (1 : Int32)) ∨ (a2 = (3 : Int32)))), .int (-4 : Int32), .retAddr 0, .retAddr 0, .retAddr 0]) dX11_dearest_75 (by decide) rfl ?_
              refine V_iconst (v := (0 : Int32)) dX11_dearest_77 rfl ?_
              refine U_istore (L2 := [.ref 0, .int a0, .int a1, .int a2, .int (b2i ((a2 = (1 : Int32)) ∨ (a2 = (3 : Int32)))), .int (-4 : Int32), .int (0 : Int32), .retAddr 0, .retAddr 0]) dX11_dearest_78 (by decide) rfl ?_
              refine V_iconst (v := (0 : Int32)) dX11_dearest_80 rfl ?_
              refine U_istore (L2 := [.ref 0, .int a0, .int a1, .int a2, .int (b2i ((a2 = (1 : Int32)) ∨ (a2 = (3 : Int32)))), .int (-4 : Int32), .int (0 : Int32), .int (0 : Int32), .retAddr 0]) dX11_dearest_81 (by decide) rfl ?_
              exact V_wk (wk_eq (wk_j (wk_j (wk_j (wk_eq (wk_eq (wk_eq (wk_eq (wk_j (wk_nil)))))))))) k
            refine V_icmp_eq dX11_dearest_58 (fun c6026 => ?_) (fun c6026 => ?_)
            · refine V_iconst (v := (1 : Int32)) dX11_dearest_66 rfl ?_
              refine V_goto dX11_dearest_67 ?_
              exact key4024 _ ((b2i_1.mpr (Or.inl c6026)).symm)
            · refine V_iload_n dX11_dearest_61 rfl ?_
              refine V_iconst (v := (3 : Int32)) dX11_dearest_62 rfl ?_
              refine V_icmp_ne dX11_dearest_63 (fun c6027 => ?_) (fun c6027 => ?_)
              · refine V_iconst (v := (0 : Int32)) dX11_dearest_70 rfl ?_
                exact key4024 _ ((b2i_0.mpr (fun q => q.elim (fun z => c6026 z) (fun q => c6027 q))).symm)
              · refine V_iconst (v := (1 : Int32)) dX11_dearest_66 rfl ?_
                refine V_goto dX11_dearest_67 ?_
                exact key4024 _ ((b2i_1.mpr (Or.inr (c6027))).symm)
          · have k := k.2 c4020
            refine V_aload_n dX11_dearest_36 rfl ?_
            refine U_getR dX11_dearest_37 fl_X11_40 s_0 rfl ?_
            refine V_iload_n dX11_dearest_40 rfl ?_
            refine V_iload_n dX11_dearest_41 rfl ?_
            refine U_callV0 [.int a0, .int a1] dX11_dearest_42 ov_X11_192 s_18 rfl ⟨rfl, rfl, rfl⟩ rfl rfl rfl (CallV_mono k (fun I6029 J6030 k => ?_))
            refine V_goto dX11_dearest_45 ?_
            refine V_iload_n dX11_dearest_56 rfl ?_
            refine V_iconst (v := (1 : Int32)) dX11_dearest_57 rfl ?_
            have key6031 : ∀ (y8032 : Int32), y8032 = (b2i ((a2 = (1 : Int32)) ∨ (a2 = (3 : Int32)))) → V E mX11_dearest (kI SH P) 71 [.ref 0, .int a0, .int a1, .int a2, .retAddr 0, .retAddr 0, .retAddr 0, .retAddr 0, .retAddr 0] [.int y8032] (SH, I6029, J6030) (0, 0) := by
              intro y8032 ey8032
              subst ey8032
              refine U_istore (L2 := [.ref 0, .int a0, .int a1, .int a2, .int (b2i ((a2 = (1 : Int32)) ∨ (a2 = (3 : Int32)))), .retAddr 0, .retAddr 0, .retAddr 0, .retAddr 0]) dX11_dearest_71 (by decide) rfl ?_
              refine V_bipush (v := (-4 : Int32)) dX11_dearest_73 rfl ?_
              refine U_istore (L2 := [.ref 0, .int a0, .int a1, .int a2, .int (b2i ((a2 = (1 : Int32)) ∨ (a2 = (3 : Int32)))), .int (-4 : Int32), .retAddr 0, .retAddr 0, .retAddr 0]) dX11_dearest_75 (by decide) rfl ?_
              refine V_iconst (v := (0 : Int32)) dX11_dearest_77 rfl ?_
              refine U_istore (L2 := [.ref 0, .int a0, .int a1, .int a2, .int (b2i ((a2 = (1 : Int32)) ∨ (a2 = (3 : Int32)))), .int (-4 : Int32), .int (0 : Int32), .retAddr 0, .retAddr 0]) dX11_dearest_78 (by decide) rfl ?_
              refine V_iconst (v := (0 : Int32)) dX11_dearest_80 rfl ?_
              refine U_istore (L2 := [.ref 0, .int a0, .int a1, .int a2, .int (b2i ((a2 = (1 : Int32)) ∨ (a2 = (3 : Int32)))), .int (-4 : Int32), .int (0 : Int32), .int (0 : Int32), .retAddr 0]) dX11_dearest_81 (by decide) rfl ?_
              exact V_wk (wk_eq (wk_j (wk_j (wk_j (wk_eq (wk_eq (wk_eq (wk_eq (wk_j (wk_nil)))))))))) k
            refine V_icmp_eq dX11_dearest_58 (fun c8033 => ?_) (fun c8033 => ?_)
            · refine V_iconst (v := (1 : Int32)) dX11_dearest_66 rfl ?_
              refine V_goto dX11_dearest_67 ?_
              exact key6031 _ ((b2i_1.mpr (Or.inl c8033)).symm)
            · refine V_iload_n dX11_dearest_61 rfl ?_
              refine V_iconst (v := (3 : Int32)) dX11_dearest_62 rfl ?_
              refine V_icmp_ne dX11_dearest_63 (fun c8034 => ?_) (fun c8034 => ?_)
              · refine V_iconst (v := (0 : Int32)) dX11_dearest_70 rfl ?_
                exact key6031 _ ((b2i_0.mpr (fun q => q.elim (fun z => c8033 z) (fun q => c8034 q))).symm)
              · refine V_iconst (v := (1 : Int32)) dX11_dearest_66 rfl ?_
                refine V_goto dX11_dearest_67 ?_
                exact key6031 _ ((b2i_1.mpr (Or.inr (c8034))).symm)
        · have k := k.2 c4019
          refine V_iconst (v := (-1 : Int32)) dX11_dearest_29 rfl ?_
          exact V_iret dX11_dearest_30 ⟨_, rfl, rfl⟩ rfl rfl ⟨_, _, _, rfl, rfl, k⟩
set_option maxHeartbeats 4000000 in
set_option maxRecDepth 20000 in
theorem wX11_dearest_83 {E : aE} {P : Int32 → hI_ → hJ_ → Prop} {I : hI_} {J : hJ_} {v4 : Int32} {v5 : Int32} {v6 : Int32} {v7 : Int32} (k : (((I 3 6) ≤ v7 → P v5 I J) ∧ (¬ ((I 3 6) ≤ v7) → (vp_in v7 5) ∧ (((0 : Int32) ≤ (I 20 v7.toNatClampNeg)) → vp_in v7 5) ∧ (((0 : Int32) ≤ (I 20 v7.toNatClampNeg)) → prOK I v7) ∧ HX11_dearest_83 E P v4 (if (0 : Int32) ≤ (I 20 v7.toNatClampNeg) then (if v5 < (0 : Int32) then v7 else (if v4 = (0 : Int32) then (if (prc I v7 (I 20 v7.toNatClampNeg)) ≤ v6 then v5 else v7) else (if v6 ≤ (prc I v7 (I 20 v7.toNatClampNeg)) then v5 else v7))) else v5) (if (0 : Int32) ≤ (I 20 v7.toNatClampNeg) then (if v5 < (0 : Int32) then (prc I v7 (I 20 v7.toNatClampNeg)) else (if v4 = (0 : Int32) then (if (prc I v7 (I 20 v7.toNatClampNeg)) ≤ v6 then v6 else (prc I v7 (I 20 v7.toNatClampNeg))) else (if v6 ≤ (prc I v7 (I 20 v7.toNatClampNeg)) then v6 else (prc I v7 (I 20 v7.toNatClampNeg))))) else v6) (v7 + (1 : Int32)) I J))) : HX11_dearest_83 E P v4 v5 v6 v7 I J := by
  show V E mX11_dearest (kI SH P) 83 [.ref 0, .retAddr 0, .retAddr 0, .retAddr 0, .int v4, .int v5, .int v6, .int v7, .retAddr 0] [] (SH, I, J) (0, 0)
  refine V_iload dX11_dearest_83 rfl ?_
  refine V_aload_n dX11_dearest_85 rfl ?_
  refine U_getR dX11_dearest_86 fl_X11_19 s_0 rfl ?_
  refine U_getI dX11_dearest_89 fl_X11_129 s_3 rfl ?_
  refine V_icmp_ge dX11_dearest_92 (fun c1 => ?_) (fun c1 => ?_)
  · have k := k.1 c1
    refine V_iload dX11_dearest_173 rfl ?_
    exact V_iret dX11_dearest_175 ⟨_, rfl, rfl⟩ rfl rfl ⟨_, _, _, rfl, rfl, k⟩
  · have k := k.2 c1
    refine V_aload_n dX11_dearest_95 rfl ?_
    refine U_getR dX11_dearest_96 fl_X11_40 s_0 rfl ?_
    refine U_getR dX11_dearest_99 fl_X11_200 s_18 rfl ?_
    refine V_iload dX11_dearest_102 rfl ?_
    obtain ⟨hb2, k⟩ := k
    refine U_iald dX11_dearest_104 s_20 hb2 ?_
    obtain ⟨hc2008, hc2009, k⟩ := k
    have key3 : ∀ (y2006 : Int32) (y2007 : Int32), y2006 = (if (0 : Int32) ≤ (I 20 v7.toNatClampNeg) then (if v5 < (0 : Int32) then v7 else (if v4 = (0 : Int32) then (if (prc I v7 (I 20 v7.toNatClampNeg)) ≤ v6 then v5 else v7) else (if v6 ≤ (prc I v7 (I 20 v7.toNatClampNeg)) then v5 else v7))) else v5) → y2007 = (if (0 : Int32) ≤ (I 20 v7.toNatClampNeg) then (if v5 < (0 : Int32) then (prc I v7 (I 20 v7.toNatClampNeg)) else (if v4 = (0 : Int32) then (if (prc I v7 (I 20 v7.toNatClampNeg)) ≤ v6 then v6 else (prc I v7 (I 20 v7.toNatClampNeg))) else (if v6 ≤ (prc I v7 (I 20 v7.toNatClampNeg)) then v6 else (prc I v7 (I 20 v7.toNatClampNeg))))) else v6) → V E mX11_dearest (kI SH P) 167 [.ref 0, .retAddr 0, .retAddr 0, .retAddr 0, .int v4, .int y2006, .int y2007, .int v7, .retAddr 0] [] (SH, I, J) (0, 0) := by
      intro y2006 y2007 ey2006 ey2007
      subst ey2006
      subst ey2007
      refine U_iinc (v := v7 + (1 : Int32)) (L2 := [.ref 0, .retAddr 0, .retAddr 0, .retAddr 0, .int v4, .int (if (0 : Int32) ≤ (I 20 v7.toNatClampNeg) then (if v5 < (0 : Int32) then v7 else (if v4 = (0 : Int32) then (if (prc I v7 (I 20 v7.toNatClampNeg)) ≤ v6 then v5 else v7) else (if v6 ≤ (prc I v7 (I 20 v7.toNatClampNeg)) then v5 else v7))) else v5), .int (if (0 : Int32) ≤ (I 20 v7.toNatClampNeg) then (if v5 < (0 : Int32) then (prc I v7 (I 20 v7.toNatClampNeg)) else (if v4 = (0 : Int32) then (if (prc I v7 (I 20 v7.toNatClampNeg)) ≤ v6 then v6 else (prc I v7 (I 20 v7.toNatClampNeg))) else (if v6 ≤ (prc I v7 (I 20 v7.toNatClampNeg)) then v6 else (prc I v7 (I 20 v7.toNatClampNeg))))) else v6), .int (v7 + (1 : Int32)), .retAddr 0]) dX11_dearest_167 (by decide) rfl rfl rfl ?_
      refine V_goto dX11_dearest_170 ?_
      exact k
    refine V_if_ge dX11_dearest_105 (fun c2010 => ?_) (fun c2010 => ?_)
    · refine V_aload_n dX11_dearest_111 rfl ?_
      refine U_getR dX11_dearest_112 fl_X11_47 s_0 rfl ?_
      refine V_iload dX11_dearest_115 rfl ?_
      refine V_aload_n dX11_dearest_117 rfl ?_
      refine U_getR dX11_dearest_118 fl_X11_40 s_0 rfl ?_
      refine U_getR dX11_dearest_121 fl_X11_200 s_18 rfl ?_
      refine V_iload dX11_dearest_124 rfl ?_
      have hb1004 := hc2008 c2010
      refine U_iald dX11_dearest_126 s_20 hb1004 ?_
      have hp1005 := hc2009 c2010
      refine U_callV1 [.int v7, .int (I 20 v7.toNatClampNeg)] dX11_dearest_127 ov_X11_173 s_21 rfl ⟨rfl, rfl, rfl⟩ rfl rfl rfl (tX1_priceAt hp1005 ?_)
      refine U_istore (L2 := [.ref 0, .retAddr 0, .retAddr 0, .retAddr 0, .int v4, .int v5, .int v6, .int v7, .int (prc I v7 (I 20 v7.toNatClampNeg))]) dX11_dearest_130 (by decide) rfl ?_
      refine V_iload dX11_dearest_132 rfl ?_
      refine V_if_lt dX11_dearest_134 (fun c2011 => ?_) (fun c2011 => ?_)
      · refine V_iload dX11_dearest_159 rfl ?_
        refine U_istore (L2 := [.ref 0, .retAddr 0, .retAddr 0, .retAddr 0, .int v4, .int v7, .int v6, .int v7, .int (prc I v7 (I 20 v7.toNatClampNeg))]) dX11_dearest_161 (by decide) rfl ?_
        refine V_iload dX11_dearest_163 rfl ?_
        refine U_istore (L2 := [.ref 0, .retAddr 0, .retAddr 0, .retAddr 0, .int v4, .int v7, .int (prc I v7 (I 20 v7.toNatClampNeg)), .int v7, .int (prc I v7 (I 20 v7.toNatClampNeg))]) dX11_dearest_165 (by decide) rfl ?_
        exact V_wk (wk_eq (wk_j (wk_j (wk_j (wk_eq (wk_eq (wk_eq (wk_eq (wk_j (wk_nil)))))))))) (key3 _ _ (by rw [if_pos c2010, if_pos c2011]) (by rw [if_pos c2010, if_pos c2011]))
      · refine V_iload dX11_dearest_137 rfl ?_
        refine V_if_eq dX11_dearest_139 (fun c2012 => ?_) (fun c2012 => ?_)
        · refine V_iload dX11_dearest_152 rfl ?_
          refine V_iload dX11_dearest_154 rfl ?_
          refine V_icmp_le dX11_dearest_156 (fun c2013 => ?_) (fun c2013 => ?_)
          · exact V_wk (wk_eq (wk_j (wk_j (wk_j (wk_eq (wk_eq (wk_eq (wk_eq (wk_j (wk_nil)))))))))) (key3 _ _ (by rw [if_pos c2010, if_neg c2011, if_pos c2012, if_pos c2013]) (by rw [if_pos c2010, if_neg c2011, if_pos c2012, if_pos c2013]))
          · refine V_iload dX11_dearest_159 rfl ?_
            refine U_istore (L2 := [.ref 0, .retAddr 0, .retAddr 0, .retAddr 0, .int v4, .int v7, .int v6, .int v7, .int (prc I v7 (I 20 v7.toNatClampNeg))]) dX11_dearest_161 (by decide) rfl ?_
            refine V_iload dX11_dearest_163 rfl ?_
            refine U_istore (L2 := [.ref 0, .retAddr 0, .retAddr 0, .retAddr 0, .int v4, .int v7, .int (prc I v7 (I 20 v7.toNatClampNeg)), .int v7, .int (prc I v7 (I 20 v7.toNatClampNeg))]) dX11_dearest_165 (by decide) rfl ?_
            exact V_wk (wk_eq (wk_j (wk_j (wk_j (wk_eq (wk_eq (wk_eq (wk_eq (wk_j (wk_nil)))))))))) (key3 _ _ (by rw [if_pos c2010, if_neg c2011, if_pos c2012, if_neg c2013]) (by rw [if_pos c2010, if_neg c2011, if_pos c2012, if_neg c2013]))
        · refine V_iload dX11_dearest_142 rfl ?_
          refine V_iload dX11_dearest_144 rfl ?_
          refine V_icmp_ge dX11_dearest_146 (fun c2014 => ?_) (fun c2014 => ?_)
          · exact V_wk (wk_eq (wk_j (wk_j (wk_j (wk_eq (wk_eq (wk_eq (wk_eq (wk_j (wk_nil)))))))))) (key3 _ _ (by rw [if_pos c2010, if_neg c2011, if_neg c2012, if_pos c2014]) (by rw [if_pos c2010, if_neg c2011, if_neg c2012, if_pos c2014]))
          · refine V_goto dX11_dearest_149 ?_
            refine V_iload dX11_dearest_159 rfl ?_
            refine U_istore (L2 := [.ref 0, .retAddr 0, .retAddr 0, .retAddr 0, .int v4, .int v7, .int v6, .int v7, .int (prc I v7 (I 20 v7.toNatClampNeg))]) dX11_dearest_161 (by decide) rfl ?_
            refine V_iload dX11_dearest_163 rfl ?_
            refine U_istore (L2 := [.ref 0, .retAddr 0, .retAddr 0, .retAddr 0, .int v4, .int v7, .int (prc I v7 (I 20 v7.toNatClampNeg)), .int v7, .int (prc I v7 (I 20 v7.toNatClampNeg))]) dX11_dearest_165 (by decide) rfl ?_
            exact V_wk (wk_eq (wk_j (wk_j (wk_j (wk_eq (wk_eq (wk_eq (wk_eq (wk_j (wk_nil)))))))))) (key3 _ _ (by rw [if_pos c2010, if_neg c2011, if_neg c2012, if_neg c2014]) (by rw [if_pos c2010, if_neg c2011, if_neg c2012, if_neg c2014]))
    · refine V_goto dX11_dearest_108 ?_
      exact key3 _ _ (by rw [if_neg c2010]) (by rw [if_neg c2010])
def HX12_dearest_44 (E : aE) (P : Int32 → hI_ → hJ_ → Prop) (v1 : Int32) (v2 : Int32) (v3 : Int32) (v4 : Int32) (v5 : Int32) (v6 : Int32) (I : hI_) (J : hJ_) : Prop := V E mX12_dearest (kI SH P) 44 [.ref 68, .int v1, .int v2, .int v3, .int v4, .int v5, .int v6, .retAddr 0, .retAddr 0, .retAddr 0] [] (SH, I, J) (0, 0)
set_option maxHeartbeats 4000000 in
set_option maxRecDepth 20000 in
theorem wX12_dearest {E : aE} {P : Int32 → hI_ → hJ_ → Prop} {I : hI_} {J : hJ_} {a0 : Int32} {a1 : Int32} {a2 : Int32} (k : ((¬ (0 ≤ a1 ∧ a1 ≤ 999) → P (-1 : Int32) I J) ∧ ((0 ≤ a1 ∧ a1 ≤ 999) → ((¬ ((0 : Int32) ≤ a2 ∧ a2 ≤ (3 : Int32)) → P (-1 : Int32) I J) ∧ (((0 : Int32) ≤ a2 ∧ a2 ≤ (3 : Int32)) → ((a2 ≤ (1 : Int32) → HX12_dearest_44 E P a0 a1 a2 (-4 : Int32) (0 : Int32) (0 : Int32) I J) ∧ (¬ (a2 ≤ (1 : Int32)) → (((0 ≤ a0 ∧ a0 ≤ I 73 0 - 1) → HX12_dearest_44 E P a0 a1 a2 (-4 : Int32) (0 : Int32) (0 : Int32) I J) ∧ (¬ ((0 ≤ a0 ∧ a0 ≤ I 73 0 - 1)) → P (-1 : Int32) I J))))))))) : CallI E mX12_dearest [.ref 68, .int a0, .int a1, .int a2] SH I J P := by
  refine Call_of (L := [.ref 68, .int a0, .int a1, .int a2, .retAddr 0, .retAddr 0, .retAddr 0, .retAddr 0, .retAddr 0, .retAddr 0]) ok_X12_dearest.1 rfl rfl ?_
  refine V_iload_n dX12_dearest_0 rfl ?_
  refine U_callS1 [.int a1] dX12_dearest_1 os_X12_179 ⟨rfl, rfl, rfl⟩ rfl rfl rfl (tX12_isMinute ?_)
  refine U_ifb_eq dX12_dearest_4 (fun c1 => ?_) (fun c1 => ?_)
  · have k := k.1 c1
    refine V_iconst (v := (-1 : Int32)) dX12_dearest_32 rfl ?_
    exact V_iret dX12_dearest_33 ⟨_, rfl, rfl⟩ rfl rfl ⟨_, _, _, rfl, rfl, k⟩
  · have k := k.2 c1
    refine V_iload_n dX12_dearest_7 rfl ?_
    refine V_i2l dX12_dearest_8 ?_
    refine V_lconst (v := (0 : Int64)) dX12_dearest_9 rfl ?_
    refine V_ldc2_w (v := (3 : Int64)) dX12_dearest_10 (gt_6 64 rfl rfl) ?_
    refine U_callS1 [.long a2.toInt64, .long (0 : Int64), .long (3 : Int64)] dX12_dearest_13 os_X12_91 ⟨rfl, rfl, rfl⟩ rfl rfl rfl (tX12_in32 (v := a2) (lo := (0 : Int32)) (hi := (3 : Int32)) rfl (by decide) (by decide) ?_)
    refine U_ifb_eq dX12_dearest_16 (fun c2 => ?_) (fun c2 => ?_)
    · have k := k.1 c2
      refine V_iconst (v := (-1 : Int32)) dX12_dearest_32 rfl ?_
      exact V_iret dX12_dearest_33 ⟨_, rfl, rfl⟩ rfl rfl ⟨_, _, _, rfl, rfl, k⟩
    · have k := k.2 c2
      refine V_iload_n dX12_dearest_19 rfl ?_
      refine V_iconst (v := (1 : Int32)) dX12_dearest_20 rfl ?_
      refine V_icmp_le dX12_dearest_21 (fun c3 => ?_) (fun c3 => ?_)
      · have k := k.1 c3
        refine V_bipush (v := (-4 : Int32)) dX12_dearest_34 rfl ?_
        refine U_istore (L2 := [.ref 68, .int a0, .int a1, .int a2, .int (-4 : Int32), .retAddr 0, .retAddr 0, .retAddr 0, .retAddr 0, .retAddr 0]) dX12_dearest_36 (by decide) rfl ?_
        refine V_iconst (v := (0 : Int32)) dX12_dearest_38 rfl ?_
        refine U_istore (L2 := [.ref 68, .int a0, .int a1, .int a2, .int (-4 : Int32), .int (0 : Int32), .retAddr 0, .retAddr 0, .retAddr 0, .retAddr 0]) dX12_dearest_39 (by decide) rfl ?_
        refine V_iconst (v := (0 : Int32)) dX12_dearest_41 rfl ?_
        refine U_istore (L2 := [.ref 68, .int a0, .int a1, .int a2, .int (-4 : Int32), .int (0 : Int32), .int (0 : Int32), .retAddr 0, .retAddr 0, .retAddr 0]) dX12_dearest_42 (by decide) rfl ?_
        exact k
      · have k := k.2 c3
        refine V_aload_n dX12_dearest_24 rfl ?_
        refine V_iload_n dX12_dearest_25 rfl ?_
        refine U_callV1 [.int a0] dX12_dearest_26 ov_X12_167 s_68 rfl ⟨rfl, rfl, rfl⟩ rfl rfl rfl (tX12_isPlace ?_)
        refine U_ifb_ne dX12_dearest_29 (fun c4 => ?_) (fun c4 => ?_)
        · have k := k.1 c4
          refine V_bipush (v := (-4 : Int32)) dX12_dearest_34 rfl ?_
          refine U_istore (L2 := [.ref 68, .int a0, .int a1, .int a2, .int (-4 : Int32), .retAddr 0, .retAddr 0, .retAddr 0, .retAddr 0, .retAddr 0]) dX12_dearest_36 (by decide) rfl ?_
          refine V_iconst (v := (0 : Int32)) dX12_dearest_38 rfl ?_
          refine U_istore (L2 := [.ref 68, .int a0, .int a1, .int a2, .int (-4 : Int32), .int (0 : Int32), .retAddr 0, .retAddr 0, .retAddr 0, .retAddr 0]) dX12_dearest_39 (by decide) rfl ?_
          refine V_iconst (v := (0 : Int32)) dX12_dearest_41 rfl ?_
          refine U_istore (L2 := [.ref 68, .int a0, .int a1, .int a2, .int (-4 : Int32), .int (0 : Int32), .int (0 : Int32), .retAddr 0, .retAddr 0, .retAddr 0]) dX12_dearest_42 (by decide) rfl ?_
          exact k
        · have k := k.2 c4
          refine V_iconst (v := (-1 : Int32)) dX12_dearest_32 rfl ?_
          exact V_iret dX12_dearest_33 ⟨_, rfl, rfl⟩ rfl rfl ⟨_, _, _, rfl, rfl, k⟩
set_option maxHeartbeats 4000000 in
set_option maxRecDepth 20000 in
theorem wX12_dearest_44 {E : aE} {P : Int32 → hI_ → hJ_ → Prop} {I : hI_} {J : hJ_} {v1 : Int32} {v2 : Int32} {v3 : Int32} {v4 : Int32} {v5 : Int32} {v6 : Int32} (k : (((I 73 0) ≤ v6 → P v4 I J) ∧ (¬ ((I 73 0) ≤ v6) → (((2 : Int32) ≤ v3 → CallI E mX12_latest [.ref 68, .int v1, .int v6, .int v2] SH I J (fun x3 I4 J5 => ((¬ (x3 = (-4 : Int32))) → prOK I4 v6) ∧ HX12_dearest_44 E P v1 v2 v3 (if x3 = (-4 : Int32) then v4 else (if v4 = (-4 : Int32) then v6 else (if ¬ (v3 - v3 / (2 : Int32) * (2 : Int32)) = (0 : Int32) then (if v5 ≤ (prc I4 v6 x3) then v4 else v6) else (if (prc I4 v6 x3) ≤ v5 then v4 else v6)))) (if x3 = (-4 : Int32) then v5 else (if v4 = (-4 : Int32) then (prc I4 v6 x3) else (if ¬ (v3 - v3 / (2 : Int32) * (2 : Int32)) = (0 : Int32) then (if v5 ≤ (prc I4 v6 x3) then v5 else (prc I4 v6 x3)) else (if (prc I4 v6 x3) ≤ v5 then v5 else (prc I4 v6 x3))))) (v6 + (1 : Int32)) I4 J5)) ∧ (¬ ((2 : Int32) ≤ v3) → ((¬ (v2 = (-4 : Int32))) → prOK I v6) ∧ HX12_dearest_44 E P v1 v2 v3 (if v2 = (-4 : Int32) then v4 else (if v4 = (-4 : Int32) then v6 else (if ¬ (v3 - v3 / (2 : Int32) * (2 : Int32)) = (0 : Int32) then (if v5 ≤ (prc I v6 v2) then v4 else v6) else (if (prc I v6 v2) ≤ v5 then v4 else v6)))) (if v2 = (-4 : Int32) then v5 else (if v4 = (-4 : Int32) then (prc I v6 v2) else (if ¬ (v3 - v3 / (2 : Int32) * (2 : Int32)) = (0 : Int32) then (if v5 ≤ (prc I v6 v2) then v5 else (prc I v6 v2)) else (if (prc I v6 v2) ≤ v5 then v5 else (prc I v6 v2))))) (v6 + (1 : Int32)) I J))))) : HX12_dearest_44 E P v1 v2 v3 v4 v5 v6 I J := by
  show V E mX12_dearest (kI SH P) 44 [.ref 68, .int v1, .int v2, .int v3, .int v4, .int v5, .int v6, .retAddr 0, .retAddr 0, .retAddr 0] [] (SH, I, J) (0, 0)
  refine V_iload dX12_dearest_44 rfl ?_
  refine V_aload_n dX12_dearest_46 rfl ?_
  refine U_getR dX12_dearest_47 fl_X12_22 s_68 rfl ?_
  refine V_iconst (v := (0 : Int32)) dX12_dearest_50 rfl ?_
  refine U_ialdx (x := I 73 0) dX12_dearest_51 s_73 (by unfold vp_in; decide) rfl ?_
  refine V_icmp_ge dX12_dearest_52 (fun c1 => ?_) (fun c1 => ?_)
  · have k := k.1 c1
    refine V_iload dX12_dearest_162 rfl ?_
    exact V_iret dX12_dearest_164 ⟨_, rfl, rfl⟩ rfl rfl ⟨_, _, _, rfl, rfl, k⟩
  · have k := k.2 c1
    refine V_iload_n dX12_dearest_55 rfl ?_
    refine V_iconst (v := (2 : Int32)) dX12_dearest_56 rfl ?_
    refine V_icmp_ge dX12_dearest_57 (fun c2 => ?_) (fun c2 => ?_)
    · have k := k.1 c2
      refine V_aload_n dX12_dearest_64 rfl ?_
      refine V_iload_n dX12_dearest_65 rfl ?_
      refine V_iload dX12_dearest_66 rfl ?_
      refine V_iload_n dX12_dearest_68 rfl ?_
      refine U_callV1 [.int v1, .int v6, .int v2] dX12_dearest_69 ov_X12_190 s_68 rfl ⟨rfl, rfl, rfl⟩ rfl rfl rfl (CallI_mono k (fun x3 I4 J5 k => ?_))
      refine U_istore (L2 := [.ref 68, .int v1, .int v2, .int v3, .int v4, .int v5, .int v6, .int x3, .retAddr 0, .retAddr 0]) dX12_dearest_72 (by decide) rfl ?_
      refine V_iload dX12_dearest_74 rfl ?_
      refine V_bipush (v := (-4 : Int32)) dX12_dearest_76 rfl ?_
      obtain ⟨hc2010, k⟩ := k
      have key6 : ∀ (y2008 : Int32) (y2009 : Int32), y2008 = (if x3 = (-4 : Int32) then v4 else (if v4 = (-4 : Int32) then v6 else (if ¬ (v3 - v3 / (2 : Int32) * (2 : Int32)) = (0 : Int32) then (if v5 ≤ (prc I4 v6 x3) then v4 else v6) else (if (prc I4 v6 x3) ≤ v5 then v4 else v6)))) → y2009 = (if x3 = (-4 : Int32) then v5 else (if v4 = (-4 : Int32) then (prc I4 v6 x3) else (if ¬ (v3 - v3 / (2 : Int32) * (2 : Int32)) = (0 : Int32) then (if v5 ≤ (prc I4 v6 x3) then v5 else (prc I4 v6 x3)) else (if (prc I4 v6 x3) ≤ v5 then v5 else (prc I4 v6 x3))))) → V E mX12_dearest (kI SH P) 156 [.ref 68, .int v1, .int v2, .int v3, .int y2008, .int y2009, .int v6, .int x3, .retAddr 0, .retAddr 0] [] (SH, I4, J5) (0, 0) := by
        intro y2008 y2009 ey2008 ey2009
        subst ey2008
        subst ey2009
        refine U_iinc (v := v6 + (1 : Int32)) (L2 := [.ref 68, .int v1, .int v2, .int v3, .int (if x3 = (-4 : Int32) then v4 else (if v4 = (-4 : Int32) then v6 else (if ¬ (v3 - v3 / (2 : Int32) * (2 : Int32)) = (0 : Int32) then (if v5 ≤ (prc I4 v6 x3) then v4 else v6) else (if (prc I4 v6 x3) ≤ v5 then v4 else v6)))), .int (if x3 = (-4 : Int32) then v5 else (if v4 = (-4 : Int32) then (prc I4 v6 x3) else (if ¬ (v3 - v3 / (2 : Int32) * (2 : Int32)) = (0 : Int32) then (if v5 ≤ (prc I4 v6 x3) then v5 else (prc I4 v6 x3)) else (if (prc I4 v6 x3) ≤ v5 then v5 else (prc I4 v6 x3))))), .int (v6 + (1 : Int32)), .int x3, .retAddr 0, .retAddr 0]) dX12_dearest_156 (by decide) rfl rfl rfl ?_
        refine V_goto dX12_dearest_159 ?_
        exact V_wk (wk_eq (wk_eq (wk_eq (wk_eq (wk_eq (wk_eq (wk_eq (wk_j (wk_j (wk_j (wk_nil))))))))))) k
      refine V_icmp_eq dX12_dearest_78 (fun c2011 => ?_) (fun c2011 => ?_)
      · exact key6 _ _ (by rw [if_pos c2011]) (by rw [if_pos c2011])
      · refine V_aload_n dX12_dearest_81 rfl ?_
        refine V_iload dX12_dearest_82 rfl ?_
        refine V_iload dX12_dearest_84 rfl ?_
        have hp2007 := hc2010 c2011
        refine U_callV1 [.int v6, .int x3] dX12_dearest_86 ov_X12_193 s_68 rfl ⟨rfl, rfl, rfl⟩ rfl rfl rfl (tX12_priceAt hp2007 ?_)
        refine U_istore (L2 := [.ref 68, .int v1, .int v2, .int v3, .int v4, .int v5, .int v6, .int x3, .int (prc I4 v6 x3), .retAddr 0]) dX12_dearest_89 (by decide) rfl ?_
        refine V_iload dX12_dearest_91 rfl ?_
        refine V_bipush (v := (-4 : Int32)) dX12_dearest_93 rfl ?_
        refine V_icmp_eq dX12_dearest_95 (fun c2012 => ?_) (fun c2012 => ?_)
        · refine V_iconst (v := (1 : Int32)) dX12_dearest_121 rfl ?_
          refine V_goto dX12_dearest_122 ?_
          refine U_istore (L2 := [.ref 68, .int v1, .int v2, .int v3, .int v4, .int v5, .int v6, .int x3, .int (prc I4 v6 x3), .int (1 : Int32)]) dX12_dearest_126 (by decide) rfl ?_
          refine V_iload dX12_dearest_128 rfl ?_
          refine V_if_eq dX12_dearest_130 (fun q => absurd q (by decide)) (fun _ => ?_)
          refine V_iload dX12_dearest_133 rfl ?_
          refine V_goto dX12_dearest_135 ?_
          refine U_istore (L2 := [.ref 68, .int v1, .int v2, .int v3, .int v6, .int v5, .int v6, .int x3, .int (prc I4 v6 x3), .int (1 : Int32)]) dX12_dearest_140 (by decide) rfl ?_
          refine V_iload dX12_dearest_142 rfl ?_
          refine V_if_eq dX12_dearest_144 (fun q => absurd q (by decide)) (fun _ => ?_)
          refine V_iload dX12_dearest_147 rfl ?_
          refine V_goto dX12_dearest_149 ?_
          refine U_istore (L2 := [.ref 68, .int v1, .int v2, .int v3, .int v6, .int (prc I4 v6 x3), .int v6, .int x3, .int (prc I4 v6 x3), .int (1 : Int32)]) dX12_dearest_154 (by decide) rfl ?_
          exact V_wk (wk_eq (wk_eq (wk_eq (wk_eq (wk_eq (wk_eq (wk_eq (wk_eq (wk_j (wk_j (wk_nil))))))))))) (key6 _ _ (by rw [if_neg c2011, if_pos c2012]) (by rw [if_neg c2011, if_pos c2012]))
        · refine V_iload_n dX12_dearest_98 rfl ?_
          refine V_iconst (v := (2 : Int32)) dX12_dearest_99 rfl ?_
          refine V_irem dX12_dearest_100 (by decide) ?_
          refine V_if_ne dX12_dearest_101 (fun c2013 => ?_) (fun c2013 => ?_)
          · refine V_iload dX12_dearest_114 rfl ?_
            refine V_iload dX12_dearest_116 rfl ?_
            refine V_icmp_ge dX12_dearest_118 (fun c2014 => ?_) (fun c2014 => ?_)
            · refine V_iconst (v := (0 : Int32)) dX12_dearest_125 rfl ?_
              refine U_istore (L2 := [.ref 68, .int v1, .int v2, .int v3, .int v4, .int v5, .int v6, .int x3, .int (prc I4 v6 x3), .int (0 : Int32)]) dX12_dearest_126 (by decide) rfl ?_
              refine V_iload dX12_dearest_128 rfl ?_
              refine V_if_eq dX12_dearest_130 (fun _ => ?_) (fun q => absurd q (by decide))
              refine V_iload dX12_dearest_138 rfl ?_
              refine U_istore (L2 := [.ref 68, .int v1, .int v2, .int v3, .int v4, .int v5, .int v6, .int x3, .int (prc I4 v6 x3), .int (0 : Int32)]) dX12_dearest_140 (by decide) rfl ?_
              refine V_iload dX12_dearest_142 rfl ?_
              refine V_if_eq dX12_dearest_144 (fun _ => ?_) (fun q => absurd q (by decide))
              refine V_iload dX12_dearest_152 rfl ?_
              refine U_istore (L2 := [.ref 68, .int v1, .int v2, .int v3, .int v4, .int v5, .int v6, .int x3, .int (prc I4 v6 x3), .int (0 : Int32)]) dX12_dearest_154 (by decide) rfl ?_
              exact V_wk (wk_eq (wk_eq (wk_eq (wk_eq (wk_eq (wk_eq (wk_eq (wk_eq (wk_j (wk_j (wk_nil))))))))))) (key6 _ _ (by rw [if_neg c2011, if_neg c2012, if_pos c2013, if_pos c2014]) (by rw [if_neg c2011, if_neg c2012, if_pos c2013, if_pos c2014]))
            · refine V_iconst (v := (1 : Int32)) dX12_dearest_121 rfl ?_
              refine V_goto dX12_dearest_122 ?_
              refine U_istore (L2 := [.ref 68, .int v1, .int v2, .int v3, .int v4, .int v5, .int v6, .int x3, .int (prc I4 v6 x3), .int (1 : Int32)]) dX12_dearest_126 (by decide) rfl ?_
              refine V_iload dX12_dearest_128 rfl ?_
              refine V_if_eq dX12_dearest_130 (fun q => absurd q (by decide)) (fun _ => ?_)
              refine V_iload dX12_dearest_133 rfl ?_
              refine V_goto dX12_dearest_135 ?_
              refine U_istore (L2 := [.ref 68, .int v1, .int v2, .int v3, .int v6, .int v5, .int v6, .int x3, .int (prc I4 v6 x3), .int (1 : Int32)]) dX12_dearest_140 (by decide) rfl ?_
              refine V_iload dX12_dearest_142 rfl ?_
              refine V_if_eq dX12_dearest_144 (fun q => absurd q (by decide)) (fun _ => ?_)
              refine V_iload dX12_dearest_147 rfl ?_
              refine V_goto dX12_dearest_149 ?_
              refine U_istore (L2 := [.ref 68, .int v1, .int v2, .int v3, .int v6, .int (prc I4 v6 x3), .int v6, .int x3, .int (prc I4 v6 x3), .int (1 : Int32)]) dX12_dearest_154 (by decide) rfl ?_
              exact V_wk (wk_eq (wk_eq (wk_eq (wk_eq (wk_eq (wk_eq (wk_eq (wk_eq (wk_j (wk_j (wk_nil))))))))))) (key6 _ _ (by rw [if_neg c2011, if_neg c2012, if_pos c2013, if_neg c2014]) (by rw [if_neg c2011, if_neg c2012, if_pos c2013, if_neg c2014]))
          · refine V_iload dX12_dearest_104 rfl ?_
            refine V_iload dX12_dearest_106 rfl ?_
            refine V_icmp_le dX12_dearest_108 (fun c2015 => ?_) (fun c2015 => ?_)
            · refine V_iconst (v := (0 : Int32)) dX12_dearest_125 rfl ?_
              refine U_istore (L2 := [.ref 68, .int v1, .int v2, .int v3, .int v4, .int v5, .int v6, .int x3, .int (prc I4 v6 x3), .int (0 : Int32)]) dX12_dearest_126 (by decide) rfl ?_
              refine V_iload dX12_dearest_128 rfl ?_
              refine V_if_eq dX12_dearest_130 (fun _ => ?_) (fun q => absurd q (by decide))
              refine V_iload dX12_dearest_138 rfl ?_
              refine U_istore (L2 := [.ref 68, .int v1, .int v2, .int v3, .int v4, .int v5, .int v6, .int x3, .int (prc I4 v6 x3), .int (0 : Int32)]) dX12_dearest_140 (by decide) rfl ?_
              refine V_iload dX12_dearest_142 rfl ?_
              refine V_if_eq dX12_dearest_144 (fun _ => ?_) (fun q => absurd q (by decide))
              refine V_iload dX12_dearest_152 rfl ?_
              refine U_istore (L2 := [.ref 68, .int v1, .int v2, .int v3, .int v4, .int v5, .int v6, .int x3, .int (prc I4 v6 x3), .int (0 : Int32)]) dX12_dearest_154 (by decide) rfl ?_
              exact V_wk (wk_eq (wk_eq (wk_eq (wk_eq (wk_eq (wk_eq (wk_eq (wk_eq (wk_j (wk_j (wk_nil))))))))))) (key6 _ _ (by rw [if_neg c2011, if_neg c2012, if_neg (not_not_intro c2013), if_pos c2015]) (by rw [if_neg c2011, if_neg c2012, if_neg (not_not_intro c2013), if_pos c2015]))
            · refine V_goto dX12_dearest_111 ?_
              refine V_iconst (v := (1 : Int32)) dX12_dearest_121 rfl ?_
              refine V_goto dX12_dearest_122 ?_
              refine U_istore (L2 := [.ref 68, .int v1, .int v2, .int v3, .int v4, .int v5, .int v6, .int x3, .int (prc I4 v6 x3), .int (1 : Int32)]) dX12_dearest_126 (by decide) rfl ?_
              refine V_iload dX12_dearest_128 rfl ?_
              refine V_if_eq dX12_dearest_130 (fun q => absurd q (by decide)) (fun _ => ?_)
              refine V_iload dX12_dearest_133 rfl ?_
              refine V_goto dX12_dearest_135 ?_
              refine U_istore (L2 := [.ref 68, .int v1, .int v2, .int v3, .int v6, .int v5, .int v6, .int x3, .int (prc I4 v6 x3), .int (1 : Int32)]) dX12_dearest_140 (by decide) rfl ?_
              refine V_iload dX12_dearest_142 rfl ?_
              refine V_if_eq dX12_dearest_144 (fun q => absurd q (by decide)) (fun _ => ?_)
              refine V_iload dX12_dearest_147 rfl ?_
              refine V_goto dX12_dearest_149 ?_
              refine U_istore (L2 := [.ref 68, .int v1, .int v2, .int v3, .int v6, .int (prc I4 v6 x3), .int v6, .int x3, .int (prc I4 v6 x3), .int (1 : Int32)]) dX12_dearest_154 (by decide) rfl ?_
              exact V_wk (wk_eq (wk_eq (wk_eq (wk_eq (wk_eq (wk_eq (wk_eq (wk_eq (wk_j (wk_j (wk_nil))))))))))) (key6 _ _ (by rw [if_neg c2011, if_neg c2012, if_neg (not_not_intro c2013), if_neg c2015]) (by rw [if_neg c2011, if_neg c2012, if_neg (not_not_intro c2013), if_neg c2015]))
    · have k := k.2 c2
      refine V_iload_n dX12_dearest_60 rfl ?_
      refine V_goto dX12_dearest_61 ?_
      refine U_istore (L2 := [.ref 68, .int v1, .int v2, .int v3, .int v4, .int v5, .int v6, .int v2, .retAddr 0, .retAddr 0]) dX12_dearest_72 (by decide) rfl ?_
      refine V_iload dX12_dearest_74 rfl ?_
      refine V_bipush (v := (-4 : Int32)) dX12_dearest_76 rfl ?_
      obtain ⟨hc4020, k⟩ := k
      have key2016 : ∀ (y4018 : Int32) (y4019 : Int32), y4018 = (if v2 = (-4 : Int32) then v4 else (if v4 = (-4 : Int32) then v6 else (if ¬ (v3 - v3 / (2 : Int32) * (2 : Int32)) = (0 : Int32) then (if v5 ≤ (prc I v6 v2) then v4 else v6) else (if (prc I v6 v2) ≤ v5 then v4 else v6)))) → y4019 = (if v2 = (-4 : Int32) then v5 else (if v4 = (-4 : Int32) then (prc I v6 v2) else (if ¬ (v3 - v3 / (2 : Int32) * (2 : Int32)) = (0 : Int32) then (if v5 ≤ (prc I v6 v2) then v5 else (prc I v6 v2)) else (if (prc I v6 v2) ≤ v5 then v5 else (prc I v6 v2))))) → V E mX12_dearest (kI SH P) 156 [.ref 68, .int v1, .int v2, .int v3, .int y4018, .int y4019, .int v6, .int v2, .retAddr 0, .retAddr 0] [] (SH, I, J) (0, 0) := by
        intro y4018 y4019 ey4018 ey4019
        subst ey4018
        subst ey4019
        refine U_iinc (v := v6 + (1 : Int32)) (L2 := [.ref 68, .int v1, .int v2, .int v3, .int (if v2 = (-4 : Int32) then v4 else (if v4 = (-4 : Int32) then v6 else (if ¬ (v3 - v3 / (2 : Int32) * (2 : Int32)) = (0 : Int32) then (if v5 ≤ (prc I v6 v2) then v4 else v6) else (if (prc I v6 v2) ≤ v5 then v4 else v6)))), .int (if v2 = (-4 : Int32) then v5 else (if v4 = (-4 : Int32) then (prc I v6 v2) else (if ¬ (v3 - v3 / (2 : Int32) * (2 : Int32)) = (0 : Int32) then (if v5 ≤ (prc I v6 v2) then v5 else (prc I v6 v2)) else (if (prc I v6 v2) ≤ v5 then v5 else (prc I v6 v2))))), .int (v6 + (1 : Int32)), .int v2, .retAddr 0, .retAddr 0]) dX12_dearest_156 (by decide) rfl rfl rfl ?_
        refine V_goto dX12_dearest_159 ?_
        exact V_wk (wk_eq (wk_eq (wk_eq (wk_eq (wk_eq (wk_eq (wk_eq (wk_j (wk_j (wk_j (wk_nil))))))))))) k
      refine V_icmp_eq dX12_dearest_78 (fun c4021 => ?_) (fun c4021 => ?_)
      · exact key2016 _ _ (by rw [if_pos c4021]) (by rw [if_pos c4021])
      · refine V_aload_n dX12_dearest_81 rfl ?_
        refine V_iload dX12_dearest_82 rfl ?_
        refine V_iload dX12_dearest_84 rfl ?_
        have hp4017 := hc4020 c4021
        refine U_callV1 [.int v6, .int v2] dX12_dearest_86 ov_X12_193 s_68 rfl ⟨rfl, rfl, rfl⟩ rfl rfl rfl (tX12_priceAt hp4017 ?_)
        refine U_istore (L2 := [.ref 68, .int v1, .int v2, .int v3, .int v4, .int v5, .int v6, .int v2, .int (prc I v6 v2), .retAddr 0]) dX12_dearest_89 (by decide) rfl ?_
        refine V_iload dX12_dearest_91 rfl ?_
        refine V_bipush (v := (-4 : Int32)) dX12_dearest_93 rfl ?_
        refine V_icmp_eq dX12_dearest_95 (fun c4022 => ?_) (fun c4022 => ?_)
        · refine V_iconst (v := (1 : Int32)) dX12_dearest_121 rfl ?_
          refine V_goto dX12_dearest_122 ?_
          refine U_istore (L2 := [.ref 68, .int v1, .int v2, .int v3, .int v4, .int v5, .int v6, .int v2, .int (prc I v6 v2), .int (1 : Int32)]) dX12_dearest_126 (by decide) rfl ?_
          refine V_iload dX12_dearest_128 rfl ?_
          refine V_if_eq dX12_dearest_130 (fun q => absurd q (by decide)) (fun _ => ?_)
          refine V_iload dX12_dearest_133 rfl ?_
          refine V_goto dX12_dearest_135 ?_
          refine U_istore (L2 := [.ref 68, .int v1, .int v2, .int v3, .int v6, .int v5, .int v6, .int v2, .int (prc I v6 v2), .int (1 : Int32)]) dX12_dearest_140 (by decide) rfl ?_
          refine V_iload dX12_dearest_142 rfl ?_
          refine V_if_eq dX12_dearest_144 (fun q => absurd q (by decide)) (fun _ => ?_)
          refine V_iload dX12_dearest_147 rfl ?_
          refine V_goto dX12_dearest_149 ?_
          refine U_istore (L2 := [.ref 68, .int v1, .int v2, .int v3, .int v6, .int (prc I v6 v2), .int v6, .int v2, .int (prc I v6 v2), .int (1 : Int32)]) dX12_dearest_154 (by decide) rfl ?_
          exact V_wk (wk_eq (wk_eq (wk_eq (wk_eq (wk_eq (wk_eq (wk_eq (wk_eq (wk_j (wk_j (wk_nil))))))))))) (key2016 _ _ (by rw [if_neg c4021, if_pos c4022]) (by rw [if_neg c4021, if_pos c4022]))
        · refine V_iload_n dX12_dearest_98 rfl ?_
          refine V_iconst (v := (2 : Int32)) dX12_dearest_99 rfl ?_
          refine V_irem dX12_dearest_100 (by decide) ?_
          refine V_if_ne dX12_dearest_101 (fun c4023 => ?_) (fun c4023 => ?_)
          · refine V_iload dX12_dearest_114 rfl ?_
            refine V_iload dX12_dearest_116 rfl ?_
            refine V_icmp_ge dX12_dearest_118 (fun c4024 => ?_) (fun c4024 => ?_)
            · refine V_iconst (v := (0 : Int32)) dX12_dearest_125 rfl ?_
              refine U_istore (L2 := [.ref 68, .int v1, .int v2, .int v3, .int v4, .int v5, .int v6, .int v2, .int (prc I v6 v2), .int (0 : Int32)]) dX12_dearest_126 (by decide) rfl ?_
              refine V_iload dX12_dearest_128 rfl ?_
              refine V_if_eq dX12_dearest_130 (fun _ => ?_) (fun q => absurd q (by decide))
              refine V_iload dX12_dearest_138 rfl ?_
              refine U_istore (L2 := [.ref 68, .int v1, .int v2, .int v3, .int v4, .int v5, .int v6, .int v2, .int (prc I v6 v2), .int (0 : Int32)]) dX12_dearest_140 (by decide) rfl ?_
              refine V_iload dX12_dearest_142 rfl ?_
              refine V_if_eq dX12_dearest_144 (fun _ => ?_) (fun q => absurd q (by decide))
              refine V_iload dX12_dearest_152 rfl ?_
              refine U_istore (L2 := [.ref 68, .int v1, .int v2, .int v3, .int v4, .int v5, .int v6, .int v2, .int (prc I v6 v2), .int (0 : Int32)]) dX12_dearest_154 (by decide) rfl ?_
              exact V_wk (wk_eq (wk_eq (wk_eq (wk_eq (wk_eq (wk_eq (wk_eq (wk_eq (wk_j (wk_j (wk_nil))))))))))) (key2016 _ _ (by rw [if_neg c4021, if_neg c4022, if_pos c4023, if_pos c4024]) (by rw [if_neg c4021, if_neg c4022, if_pos c4023, if_pos c4024]))
            · refine V_iconst (v := (1 : Int32)) dX12_dearest_121 rfl ?_
              refine V_goto dX12_dearest_122 ?_
              refine U_istore (L2 := [.ref 68, .int v1, .int v2, .int v3, .int v4, .int v5, .int v6, .int v2, .int (prc I v6 v2), .int (1 : Int32)]) dX12_dearest_126 (by decide) rfl ?_
              refine V_iload dX12_dearest_128 rfl ?_
              refine V_if_eq dX12_dearest_130 (fun q => absurd q (by decide)) (fun _ => ?_)
              refine V_iload dX12_dearest_133 rfl ?_
              refine V_goto dX12_dearest_135 ?_
              refine U_istore (L2 := [.ref 68, .int v1, .int v2, .int v3, .int v6, .int v5, .int v6, .int v2, .int (prc I v6 v2), .int (1 : Int32)]) dX12_dearest_140 (by decide) rfl ?_
              refine V_iload dX12_dearest_142 rfl ?_
              refine V_if_eq dX12_dearest_144 (fun q => absurd q (by decide)) (fun _ => ?_)
              refine V_iload dX12_dearest_147 rfl ?_
              refine V_goto dX12_dearest_149 ?_
              refine U_istore (L2 := [.ref 68, .int v1, .int v2, .int v3, .int v6, .int (prc I v6 v2), .int v6, .int v2, .int (prc I v6 v2), .int (1 : Int32)]) dX12_dearest_154 (by decide) rfl ?_
              exact V_wk (wk_eq (wk_eq (wk_eq (wk_eq (wk_eq (wk_eq (wk_eq (wk_eq (wk_j (wk_j (wk_nil))))))))))) (key2016 _ _ (by rw [if_neg c4021, if_neg c4022, if_pos c4023, if_neg c4024]) (by rw [if_neg c4021, if_neg c4022, if_pos c4023, if_neg c4024]))
          · refine V_iload dX12_dearest_104 rfl ?_
            refine V_iload dX12_dearest_106 rfl ?_
            refine V_icmp_le dX12_dearest_108 (fun c4025 => ?_) (fun c4025 => ?_)
            · refine V_iconst (v := (0 : Int32)) dX12_dearest_125 rfl ?_
              refine U_istore (L2 := [.ref 68, .int v1, .int v2, .int v3, .int v4, .int v5, .int v6, .int v2, .int (prc I v6 v2), .int (0 : Int32)]) dX12_dearest_126 (by decide) rfl ?_
              refine V_iload dX12_dearest_128 rfl ?_
              refine V_if_eq dX12_dearest_130 (fun _ => ?_) (fun q => absurd q (by decide))
              refine V_iload dX12_dearest_138 rfl ?_
              refine U_istore (L2 := [.ref 68, .int v1, .int v2, .int v3, .int v4, .int v5, .int v6, .int v2, .int (prc I v6 v2), .int (0 : Int32)]) dX12_dearest_140 (by decide) rfl ?_
              refine V_iload dX12_dearest_142 rfl ?_
              refine V_if_eq dX12_dearest_144 (fun _ => ?_) (fun q => absurd q (by decide))
              refine V_iload dX12_dearest_152 rfl ?_
              refine U_istore (L2 := [.ref 68, .int v1, .int v2, .int v3, .int v4, .int v5, .int v6, .int v2, .int (prc I v6 v2), .int (0 : Int32)]) dX12_dearest_154 (by decide) rfl ?_
              exact V_wk (wk_eq (wk_eq (wk_eq (wk_eq (wk_eq (wk_eq (wk_eq (wk_eq (wk_j (wk_j (wk_nil))))))))))) (key2016 _ _ (by rw [if_neg c4021, if_neg c4022, if_neg (not_not_intro c4023), if_pos c4025]) (by rw [if_neg c4021, if_neg c4022, if_neg (not_not_intro c4023), if_pos c4025]))
            · refine V_goto dX12_dearest_111 ?_
              refine V_iconst (v := (1 : Int32)) dX12_dearest_121 rfl ?_
              refine V_goto dX12_dearest_122 ?_
              refine U_istore (L2 := [.ref 68, .int v1, .int v2, .int v3, .int v4, .int v5, .int v6, .int v2, .int (prc I v6 v2), .int (1 : Int32)]) dX12_dearest_126 (by decide) rfl ?_
              refine V_iload dX12_dearest_128 rfl ?_
              refine V_if_eq dX12_dearest_130 (fun q => absurd q (by decide)) (fun _ => ?_)
              refine V_iload dX12_dearest_133 rfl ?_
              refine V_goto dX12_dearest_135 ?_
              refine U_istore (L2 := [.ref 68, .int v1, .int v2, .int v3, .int v6, .int v5, .int v6, .int v2, .int (prc I v6 v2), .int (1 : Int32)]) dX12_dearest_140 (by decide) rfl ?_
              refine V_iload dX12_dearest_142 rfl ?_
              refine V_if_eq dX12_dearest_144 (fun q => absurd q (by decide)) (fun _ => ?_)
              refine V_iload dX12_dearest_147 rfl ?_
              refine V_goto dX12_dearest_149 ?_
              refine U_istore (L2 := [.ref 68, .int v1, .int v2, .int v3, .int v6, .int (prc I v6 v2), .int v6, .int v2, .int (prc I v6 v2), .int (1 : Int32)]) dX12_dearest_154 (by decide) rfl ?_
              exact V_wk (wk_eq (wk_eq (wk_eq (wk_eq (wk_eq (wk_eq (wk_eq (wk_eq (wk_j (wk_j (wk_nil))))))))))) (key2016 _ _ (by rw [if_neg c4021, if_neg c4022, if_neg (not_not_intro c4023), if_neg c4025]) (by rw [if_neg c4021, if_neg c4022, if_neg (not_not_intro c4023), if_neg c4025]))
/-- the dearest (cheapest) place among the first ones; L: what is known of each, one up -/
def drS (I : hI_) (L : Nat → Nat) (low : Bool) : Nat → Int32 × Int32
  | 0 => (-4, 0)
  | a + 1 => if L a = 0 then drS I L low a else if (drS I L low a).1 = -4 ∨ (if low then prc I (nI a) (nI (L a) - 1) < (drS I L low a).2 else (drS I L low a).2 < prc I (nI a) (nI (L a) - 1)) then (nI a, prc I (nI a) (nI (L a) - 1)) else drS I L low a
theorem drS_1 {I : hI_} {L : Nat → Nat} {low : Bool} : ∀ n, n ≤ 5 → (drS I L low n).1 = -4 ∨ ∃ x, x < n ∧ (drS I L low n).1 = nI x
  | 0, _ => Or.inl rfl
  | n + 1, hn => by
    have ih := drS_1 (I := I) (L := L) (low := low) n (by omega)
    have ih2 : (drS I L low n).1 = -4 ∨ ∃ x, x < n + 1 ∧ (drS I L low n).1 = nI x := by
      rcases ih with ih | ⟨x, hx, ih⟩
      · exact Or.inl ih
      · exact Or.inr ⟨x, by omega, ih⟩
    unfold drS
    by_cases h0 : L n = 0
    · rw [if_pos h0]; exact ih2
    · rw [if_neg h0]
      by_cases hc : (drS I L low n).1 = -4 ∨ (if low then prc I (nI n) (nI (L n) - 1) < (drS I L low n).2 else (drS I L low n).2 < prc I (nI n) (nI (L n) - 1))
      · rw [if_pos hc]; exact Or.inr ⟨n, by omega, rfl⟩
      · rw [if_neg hc]; exact ih2
theorem neg4_nI {x : Nat} (hx : x < 1000) : ¬ nI x = -4 := fun q => by
  have q2 : (nI x).toInt = (-4 : Int32).toInt := by rw [q]
  rw [nI_toInt (by omega)] at q2
  have : (-4 : Int32).toInt = -4 := rfl
  omega
theorem drS_neg {I : hI_} {L : Nat → Nat} {low : Bool} {n : Nat} (hn : n ≤ 5) : (drS I L low n).1 < 0 ↔ (drS I L low n).1 = -4 := by
  rcases drS_1 (I := I) (L := L) (low := low) n hn with h | ⟨x, hx, h⟩
  · rw [h]; decide
  · rw [h]
    exact ⟨fun q => absurd q (nI_pos (by omega)), fun q => absurd q (neg4_nI (by omega))⟩
theorem dearX_loop {E : aE} {P : Int32 → hI_ → hJ_ → Prop} {I : hI_} {J : hJ_} {L : Nat → Nat} {low : Bool} (h : Rel I) (hL : ∀ j, j < 5 → I 20 j = nI (L j) - 1) (hL2 : ∀ j, L j ≤ 10000) (k : P (drS I L low (nP I)).1 I J) : ∀ (m i : Nat), i + m = nP I → HX11_dearest_83 E P (b2i (low = true)) (drS I L low i).1 (drS I L low i).2 (nI i) I J
  | 0, i, hi => by
    have hP := Rel_P h
    have : i = nP I := by omega
    subst this
    exact wX11_dearest_83 ⟨fun _ => k, fun q => absurd (by rw [hP.1]; exact Int32.le_refl _) q⟩
  | m + 1, i, hi => by
    have hP := Rel_P h
    have vi : vp_in (nI i) 5 := vp_in_nI (by omega) (by omega)
    have hLi := hL2 i
    have ok : prOK I (nI i) := ⟨h, i, by omega, rfl⟩
    refine wX11_dearest_83 ⟨fun q => absurd q (by rw [hP.1]; exact nI_ge (by omega) (by omega)), fun _ => ⟨vi, fun _ => vi, fun _ => ok, ?_⟩⟩
    rw [nI_clamp (by omega), hL i (by omega), nI_1]
    have ih := dearX_loop (E := E) h hL hL2 k m (i + 1) (by omega)
    unfold drS at ih
    have hneg := drS_neg (I := I) (L := L) (low := low) (n := i) (by omega)
    generalize hs : drS I L low i = s at ih hneg ⊢
    generalize hv : prc I (nI i) (nI (L i) - 1) = v at ih ⊢
    by_cases h0 : L i = 0
    · rw [if_pos h0] at ih
      have c0 : ¬ (0 : Int32) ≤ nI (L i) - 1 := by rw [h0]; decide
      rw [if_neg c0, if_neg c0]; exact ih
    · rw [if_neg h0] at ih
      have c0 : (0 : Int32) ≤ nI (L i) - 1 := by
        rw [Int32.le_iff_toInt_le, nIm1 (by omega)]
        have z : (0 : Int32).toInt = 0 := rfl
        omega
      rw [if_pos c0, if_pos c0]
      by_cases c1 : s.1 < 0
      · rw [if_pos (Or.inl (hneg.mp c1))] at ih
        rw [if_pos c1, if_pos c1]; exact ih
      · rw [if_neg c1, if_neg c1]
        have c1' : ¬ s.1 = -4 := fun q => c1 (hneg.mpr q)
        cases low with
        | true =>
          rw [show b2i (true = true) = 1 from rfl] at ih ⊢
          rw [if_neg (show ¬ (1 : Int32) = 0 by decide), if_neg (show ¬ (1 : Int32) = 0 by decide)]
          simp only [if_true] at ih
          by_cases c2 : s.2 ≤ v
          · rw [if_neg (fun q => q.elim c1' (Int32.not_lt.mpr c2))] at ih
            rw [if_pos c2, if_pos c2]; exact ih
          · rw [if_pos (Or.inr (Int32.not_le.mp c2))] at ih
            rw [if_neg c2, if_neg c2]; exact ih
        | false =>
          rw [show b2i (false = true) = 0 from rfl] at ih ⊢
          rw [if_pos rfl, if_pos rfl]
          simp only [Bool.false_eq_true, if_false] at ih
          by_cases c2 : v ≤ s.2
          · rw [if_neg (fun q => q.elim c1' (Int32.not_lt.mpr c2))] at ih
            rw [if_pos c2, if_pos c2]; exact ih
          · rw [if_pos (Or.inr (Int32.not_le.mp c2))] at ih
            rw [if_neg c2, if_neg c2]; exact ih
theorem drS_ext {I I2 : hI_} {L : Nat → Nat} {low : Bool} (h : ∀ p t, prc I2 p t = prc I p t) : ∀ n, drS I2 L low n = drS I L low n
  | 0 => rfl
  | n + 1 => by
    unfold drS
    rw [drS_ext h n, h]
theorem par4 : ∀ w, w < 4 → ((¬ (nI w - nI w / 2 * 2) = 0) ↔ (w = 1 ∨ w = 3)) := by decide +kernel
theorem dearM_loop {E : aE} {P : Int32 → hI_ → hJ_ → Prop} {I0 : hI_} {J : hJ_} {p t w : Nat} {L : Nat → Nat} {low : Bool} (h : Rel I0) (hp : 2 ≤ w → p < 5) (ht : t ≤ 999) (hw4 : w < 4) (hlow : low = decide (w = 1 ∨ w = 3)) (hL1 : w < 2 → ∀ j, L j = t + 1) (hL2 : 2 ≤ w → ∀ j, L j = lat (wI I0) j p t) (k : ∀ I2, ag1 81 I0 I2 → P (drS I0 L low (nP I0)).1 I2 J) {pv : Int32} (hpv : 2 ≤ w → pv = nI p) : ∀ (m i : Nat) (I : hI_), i + m = nP I0 → ag1 81 I0 I → HX12_dearest_44 E P pv (nI t) (nI w) (drS I0 L low i).1 (drS I0 L low i).2 (nI i) I J
  | 0, i, I, hi, hag => by
    have hP := Rel_P h
    have : i = nP I0 := by omega
    subst this
    exact wX12_dearest_44 ⟨fun _ => k I hag, fun q => absurd (by rw [hag 73 (by omega), hP.2.1]; exact Int32.le_refl _) q⟩
  | m + 1, i, I, hi, hag => by
    have hP := Rel_P h
    have hM : agM I0 I := ag1_M rfl (by omega) hag
    have hR := Rel_agM hM h
    have hwM := wI_M hM
    have hLi : L i ≤ 10000 := by
      rcases Nat.lt_or_ge w 2 with q | q
      · rw [hL1 q]; omega
      · rw [hL2 q]; have := lat_le (w := wI I0) (a := i) (b := p) (T := t); omega
    -- one place more, with what is known told as the model does
    have one : ∀ (x : Int32) (I2 : hI_), ag1 81 I0 I2 → x = (if L i = 0 then (-4 : Int32) else nI (L i) - 1) → ((¬ (x = (-4 : Int32))) → prOK I2 (nI i)) ∧ HX12_dearest_44 E P pv (nI t) (nI w) (if x = (-4 : Int32) then (drS I0 L low i).1 else (if (drS I0 L low i).1 = (-4 : Int32) then nI i else (if ¬ (nI w - nI w / 2 * 2) = 0 then (if (drS I0 L low i).2 ≤ (prc I2 (nI i) x) then (drS I0 L low i).1 else nI i) else (if (prc I2 (nI i) x) ≤ (drS I0 L low i).2 then (drS I0 L low i).1 else nI i)))) (if x = (-4 : Int32) then (drS I0 L low i).2 else (if (drS I0 L low i).1 = (-4 : Int32) then (prc I2 (nI i) x) else (if ¬ (nI w - nI w / 2 * 2) = 0 then (if (drS I0 L low i).2 ≤ (prc I2 (nI i) x) then (drS I0 L low i).2 else (prc I2 (nI i) x)) else (if (prc I2 (nI i) x) ≤ (drS I0 L low i).2 then (drS I0 L low i).2 else (prc I2 (nI i) x))))) (nI (i + 1)) I2 J := fun x I2 hag2 hx => by
      have hM2 : agM I0 I2 := ag1_M rfl (by omega) hag2
      refine ⟨fun _ => prOK_M hM2 ⟨h, i, by omega, rfl⟩, ?_⟩
      have ih := dearM_loop (E := E) h hp ht hw4 hlow hL1 hL2 k hpv m (i + 1) I2 (by omega) hag2
      unfold drS at ih
      rw [prc_M hM2]
      generalize hs : drS I0 L low i = s at ih ⊢
      by_cases h0 : L i = 0
      · rw [if_pos h0] at ih hx
        rw [if_pos hx, if_pos hx]; exact ih
      · rw [if_neg h0] at ih hx
        have hn4 : ¬ x = -4 := fun q => by
          have q2 : x.toInt = (-4 : Int32).toInt := by rw [q]
          rw [hx, nIm1 (by omega)] at q2
          have : (-4 : Int32).toInt = -4 := rfl
          omega
        rw [if_neg hn4, if_neg hn4]
        rw [← hx] at ih
        generalize hv : prc I0 (nI i) x = v at ih ⊢
        by_cases c1 : s.1 = -4
        · rw [if_pos (Or.inl c1)] at ih
          rw [if_pos c1, if_pos c1]; exact ih
        · rw [if_neg c1, if_neg c1]
          have hpar := par4 w hw4
          cases low with
          | true =>
            have hq : w = 1 ∨ w = 3 := of_decide_eq_true hlow.symm
            rw [if_pos (hpar.mpr hq), if_pos (hpar.mpr hq)]
            simp only [if_true] at ih
            by_cases c2 : s.2 ≤ v
            · rw [if_neg (fun q => q.elim c1 (Int32.not_lt.mpr c2))] at ih
              rw [if_pos c2, if_pos c2]; exact ih
            · rw [if_pos (Or.inr (Int32.not_le.mp c2))] at ih
              rw [if_neg c2, if_neg c2]; exact ih
          | false =>
            have hq : ¬ (w = 1 ∨ w = 3) := of_decide_eq_false hlow.symm
            rw [if_neg (fun z => hq (hpar.mp z)), if_neg (fun z => hq (hpar.mp z))]
            simp only [Bool.false_eq_true, if_false] at ih
            by_cases c2 : v ≤ s.2
            · rw [if_neg (fun q => q.elim c1 (Int32.not_lt.mpr c2))] at ih
              rw [if_pos c2, if_pos c2]; exact ih
            · rw [if_pos (Or.inr (Int32.not_le.mp c2))] at ih
              rw [if_neg c2, if_neg c2]; exact ih
    refine wX12_dearest_44 ⟨fun q => absurd q (by rw [hag 73 (by omega), hP.2.1]; exact nI_ge (by omega) (by omega)), fun _ => ⟨fun c => ?_, fun c => ?_⟩⟩
    · have c : 2 ≤ w := (nI_leI (a := 2) (by omega) (by omega)).mp c
      rw [hpv c]
      refine tX12_latest hR (a := i) (b := p) (t := t) (by omega) (hp c) (by omega) (fun I2 hag2 => ?_)
      rw [hwM, nI_1]
      have := one _ I2 (ag1_tr hag hag2) (by rw [hL2 c])
      rw [hpv c] at this
      exact this
    · have c : w < 2 := Nat.lt_of_not_le (fun q => c (nI_le (a := 2) q (by omega)))
      rw [nI_1]
      exact one (nI t) I hag (by rw [hL1 c, if_neg (by omega), nI_pred])
theorem op_dearest {E : aE} {I : hI_} {J : hJ_} {P : hI_ → hJ_ → Prop} {p t q : Int32} (h : Rel I) (hP : ∀ I2 J2, Rel I2 → P I2 J2) : Op2 E mX11_dearest mX12_dearest [.int p, .int t, .int q] I J P := by
  have hp := Rel_P h
  have e := Rel_pl h
  have bad : ¬ ((0 ≤ t ∧ t ≤ 999) ∧ (0 ≤ q ∧ q ≤ 3) ∧ (q ≤ 1 ∨ (0 ≤ p ∧ p ≤ I 73 0 - 1))) → CallI E mX12_dearest [.ref 68, .int p, .int t, .int q] SH I J (fun r2 I2 J2 => (-1 : Int32) = r2 ∧ P I2 J2) := fun hb => wX12_dearest ⟨fun _ => ⟨rfl, hP I J h⟩, fun d1 => ⟨fun _ => ⟨rfl, hP I J h⟩, fun d2 => ⟨fun d3 => absurd ⟨d1, d2, Or.inl d3⟩ hb, fun _ => ⟨fun d4 => absurd ⟨d1, d2, Or.inr d4⟩ hb, fun _ => ⟨rfl, hP I J h⟩⟩⟩⟩⟩
  have q2 : q < 2 ↔ q ≤ 1 := by
    rw [Int32.lt_iff_toInt_lt, Int32.le_iff_toInt_le]
    have a : (2 : Int32).toInt = 2 := rfl
    have b : (1 : Int32).toInt = 1 := rfl
    omega
  refine wX11_dearest ⟨fun c1 => bad (fun z => c1 z.1), fun c1 => ⟨fun c2 => bad (fun z => c2 z.2.1), fun c2 => ?_⟩⟩
  obtain ⟨y, hy, rfl⟩ := in999 c1
  obtain ⟨w, hw, rfl⟩ := in_le (n := 3) rfl c2
  have hw2 : nI w < 2 ↔ w < 2 := nI_ltI (b := 2) (by omega) (by omega)
  have hb2 : b2i (nI w = 1 ∨ nI w = 3) = b2i (decide (w = 1 ∨ w = 3) = true) := b2i_congr (by
    rw [decide_eq_true_eq, show (1 : Int32) = nI 1 from rfl, show (3 : Int32) = nI 3 from rfl, nI_eq (by omega) (by omega), nI_eq (by omega) (by omega)])
  -- nothing is under way
  have once : w < 2 → CallV E mX2_gatherAtOnce [.ref 18, .int (nI y)] SH I J (fun I6 J7 => HX11_dearest_83 E (fun r I1 J1 => CallI E mX12_dearest [.ref 68, .int p, .int (nI y), .int (nI w)] SH I1 J1 (fun r2 I2 J2 => r = r2 ∧ P I2 J2)) (b2i (nI w = 1 ∨ nI w = 3)) (-4) 0 0 I6 J7) := fun hw1 => by
    refine wX2_gatherAtOnce ?_
    have hag : ag1 20 I (flI I 20 5 (nI y)) := fun a ha => by simp [flI, ha]
    have hX : agX I (flI I 20 5 (nI y)) := ag1_X rfl hag
    have hR := Rel_agX hX h
    rw [hb2]
    refine dearX_loop (L := fun _ => y + 1) hR (fun j hj => by rw [nI_pred]; simp [flI, hj]) (fun j => by omega) ?_ (nP (flI I 20 5 (nI y))) 0 (by omega)
    refine wX12_dearest ⟨fun d => absurd c1 d, fun _ => ⟨fun d => absurd c2 d, fun _ => ⟨fun _ => ?_, fun d => absurd (q2.mp (hw2.mpr hw1)) d⟩⟩⟩
    exact dearM_loop (p := 0) (L := fun _ => y + 1) hR (fun z => by omega) hy (by omega) rfl (fun _ _ => rfl) (fun z => by omega) (fun I2 hag2 => ⟨rfl, hP I2 J (Rel_agM (ag1_M rfl (by omega) hag2) hR)⟩) (fun z => by omega) (nP (flI I 20 5 (nI y))) 0 _ (by omega) ag1_rf
  have many : ¬ w < 2 → ∀ c3 : (0 ≤ p ∧ p ≤ I 3 6 - 1), CallV E mX2_gather [.ref 18, .int p, .int (nI y)] SH I J (fun I6 J7 => HX11_dearest_83 E (fun r I1 J1 => CallI E mX12_dearest [.ref 68, .int p, .int (nI y), .int (nI w)] SH I1 J1 (fun r2 I2 J2 => r = r2 ∧ P I2 J2)) (b2i (nI w = 1 ∨ nI w = 3)) (-4) 0 0 I6 J7) := fun hw1 c3 => by
    rw [e] at c3
    have c3' := c3
    rw [hp.2.1] at c3'
    obtain ⟨x, hx, rfl⟩ := in_lt (by omega) c3'
    rw [show nI y = nI (y + 1) - 1 from (nI_pred y).symm]
    refine tX2_gather h hx (by omega) (fun I2 hag hI2 => ?_)
    rw [nI_pred]
    have hX : agX I I2 := ag1_X rfl hag
    have hR := Rel_agX hX h
    have elt : ∀ j, lt1 (wI I) j x (y + 1) = lat (wI I2) j x y := fun j => by unfold lt1; rw [if_neg (by omega), wI_X hX]; rfl
    rw [hb2]
    refine dearX_loop (L := fun j => lat (wI I2) j x y) hR (fun j hj => by rw [hI2 j hj, elt]) (fun j => by have := lat_le (w := wI I2) (a := j) (b := x) (T := y); omega) ?_ (nP I2) 0 (by omega)
    refine wX12_dearest ⟨fun d => absurd c1 d, fun _ => ⟨fun d => absurd c2 d, fun _ => ⟨fun d => absurd (hw2.mp (q2.mpr d)) hw1, fun _ => ⟨fun _ => ?_, fun d => absurd (by rw [hag 73 (by omega)]; exact c3) d⟩⟩⟩⟩
    exact dearM_loop (p := x) (L := fun j => lat (wI I2) j x y) hR (fun _ => by omega) hy (by omega) rfl (fun z => absurd z hw1) (fun _ _ => rfl) (fun I3 hag3 => ⟨rfl, hP I3 J (Rel_agM (ag1_M rfl (by omega) hag3) hR)⟩) (fun _ => rfl) (nP I2) 0 _ (by omega) ag1_rf
  refine ⟨fun c3 => ⟨fun _ => once (hw2.mp c3), fun d => absurd c3 d⟩, fun c3 => ⟨fun c4 => ⟨fun d => absurd d c3, fun _ => many (fun z => c3 (hw2.mpr z)) c4⟩, fun c4 => bad (fun z => z.2.2.elim (fun z => c3 (q2.mpr z)) (fun z => c4 (by rw [e]; exact z)))⟩⟩
