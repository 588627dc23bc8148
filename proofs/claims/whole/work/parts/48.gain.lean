def unN (I : hI_) (c : Nat) : Nat := (cK I c 4).toInt.toNat
theorem un_ok {I : hI_} (h : Rel I) {c : Nat} (hc : c < nC I) : cK I c 4 = nI (unN I c) ∧ 1 ≤ unN I c ∧ unN I c ≤ 99 := by
  have hb := (cK_bet h hc).2.2.2.2.1
  refine ⟨ofT (by have := hb.1; omega), ?_, ?_⟩
  · unfold unN; have := hb.1; omega
  · unfold unN; have := hb.2; omega
noncomputable def lfN (I : hI_) (p t : Nat) (su : Int32) (j : Nat) : Nat := if j < nC I then (if cntB2 I p t su j = true then unN I j else 0) else 0
theorem lfN_le {I : hI_} (h : Rel I) {p t : Nat} {su : Int32} (j : Nat) : lfN I p t su j ≤ 99 := by
  unfold lfN
  by_cases z : j < nC I
  · rw [if_pos z]
    have := un_ok h z
    split <;> omega
  · rw [if_neg z]; omega
theorem fillX_loop {E : aE} {P : hI_ → hJ_ → Prop} {I0 : hI_} {J : hJ_} {p t : Nat} {su : Int32} (h : Rel I0) (ht : t ≤ 999) (k : ∀ I2, agX I0 I2 → (∀ j, j < nC I0 → I2 39 j = nI (lfN I0 p t su j)) → I2 36 5 = nI 0 → I2 36 6 = nI 0 → HX0_trade_80 E P 0 I2 J) : ∀ (m c : Nat) (I : hI_), c + m = nC I0 → agX I0 I → (∀ j, j < nC I0 → I 37 j = nI (opW I0 p su j) ∧ I 38 j = nI (clW I0 p su j) - 1) → (∀ j, j < c → I 39 j = nI (lfN I0 p t su j)) → I 36 5 = nI 0 → I 36 6 = nI 0 → HX0_trade_12 E P (nI t) (nI c) I J
  | 0, c, I, hc, hag, hO, hI, h5, h6 => by
    have hC := Rel_C h
    refine wX0_trade_12 ?_
    rw [hag 24 rfl, hC.1]
    exact ⟨fun _ => k I hag (fun j hj => hI j (by omega)) h5 h6, fun z => absurd (nI_le (by omega) (by omega)) z⟩
  | m + 1, c, I, hc, hag, hO, hI, h5, h6 => by
    have hC := Rel_C h
    have hR := Rel_agX hag h
    have vc : vp_in (nI c) 12 := vp_in_nI (by omega) (by omega)
    have hcc : c < nC I0 := by omega
    obtain ⟨o1, o2⟩ := hO c hcc
    have un := un_ok h hcc
    have e4 : rat I 24 25 (nI c) 4 = nI (unN I0 c) := by
      refine (((Rel_call hR (by rw [nC_X hag]; exact hcc)).1 4 (by omega)).1).trans ?_
      rw [← un.1]; exact cK_X hag c 4
    have ow : opW I0 p su c ≤ 10000 := by
      unfold opW opN; split
      · omega
      · exact arr_le
    have cw : clW I0 p su c ≤ 10000 := by
      unfold clW clN; split
      · omega
      · have := Nat.min_le_left (min 1000 (arr (wI I0) (qN I0 c) (bkN I0 c) p)) (if cK I0 c 5 = 1 then lat (wI I0) p (qN I0 c) (vN I0 c) else 1000)
        have := Nat.min_le_left 1000 (arr (wI I0) (qN I0 c) (bkN I0 c) p)
        omega
    refine wX0_trade_12 ?_
    rw [hag 24 rfl, hC.1, nI_clamp (by omega), o1, o2, e4, nI_1]
    refine ⟨fun z => absurd z (nI_ge (by omega) (by omega)), fun _ => ⟨vc, fun _ => vc, fun _ => (Rel_rows hR).2.1, vc, ?_⟩⟩
    have k1 : (nI t < nI (opW I0 p su c)) ↔ t < opW I0 p su c := by
      constructor
      · intro y
        rcases Nat.lt_or_ge t (opW I0 p su c) with q | q
        · exact q
        · exact absurd y (nI_nlt q (by omega))
      · intro y; exact nI_lt y (by omega)
    have k2 := lt_nIm (T := clW I0 p su c) (f := t) (by omega) (by omega)
    have key : ((¬ (nI t < nI (opW I0 p su c))) ∧ (¬ (nI (clW I0 p su c) - 1 < nI t))) ↔ cntB2 I0 p t su c = true := by
      rw [k1, k2]
      unfold cntB2
      rw [Bool.and_eq_true, Nat.ble_eq, Nat.blt_eq]
      omega
    have ev : (if ¬ ((¬ (nI t < nI (opW I0 p su c))) ∧ (¬ (nI (clW I0 p su c) - 1 < nI t))) then 0 else nI (unN I0 c)) = nI (lfN I0 p t su c) := by
      unfold lfN
      rw [if_pos hcc]
      by_cases z : cntB2 I0 p t su c = true
      · rw [if_pos z, if_neg (fun y => y (key.mpr z))]
      · rw [if_neg z, if_pos (fun y => z (key.mp y))]; rfl
    rw [ev]
    refine fillX_loop h ht k m (c + 1) _ (by omega) (agX_tr hag (agX_up rfl)) (fun j hj => ?_) (fun j hj => ?_) ?_ ?_
    · rw [upI_at, if_neg (by omega), upI_at, if_neg (by omega)]; exact hO j hj
    · rw [upI_at]
      by_cases e : j = c
      · rw [if_pos ⟨rfl, e⟩, e]
      · rw [if_neg (fun z => e z.2)]; exact hI j (by omega)
    · rw [upI_at, if_neg (by omega)]; exact h5
    · rw [upI_at, if_neg (by omega)]; exact h6
noncomputable def gnN (I : hI_) (p t : Nat) (su : Int32) : Nat × Nat := trF I (nC I) 12 (lfN I p t su) 0 0
theorem tX0_trade {E : aE} {P : hI_ → hJ_ → Prop} {I0 I : hI_} {J : hJ_} {p t : Nat} {su : Int32} (h : Rel I0) (ht : t ≤ 999) (hag : agX I0 I) (hO : ∀ j, j < nC I0 → I 37 j = nI (opW I0 p su j) ∧ I 38 j = nI (clW I0 p su j) - 1) (k : ∀ I2, agX I0 I2 → I2 36 5 = nI (gnN I0 p t su).1 → I2 36 6 = nI (gnN I0 p t su).2 → P I2 J) : CallV E mX0_trade [.ref 36, .int (nI t)] SH I J P := by
  refine wX0_trade (fillX_loop (p := p) (su := su) h ht (fun I2 a1 a2 a3 a4 => tradeX_loop h 12 0 (lfN I0 p t su) 0 0 I2 (by omega) a1 a2 (lfN_le h) a3 a4 k) (nC I0) 0 _ (by omega) (agX_tr hag (agX_tr (agX_up rfl) (agX_up rfl))) (fun j hj => ?_) (fun j hj => by omega) ?_ upI_same)
  · rw [upI_at, if_neg (by omega), upI_at, if_neg (by omega), upI_at, if_neg (by omega), upI_at, if_neg (by omega)]; exact hO j hj
  · rw [upI_at, if_neg (by omega)]; exact upI_same
theorem cntB2_e {I I2 : hI_} (h1 : wI I2 = wI I) (h2 : I2 82 = I 82) (p t : Nat) (su : Int32) (c : Nat) : cntB2 I2 p t su c = cntB2 I p t su c := by
  have ec : ∀ j, cK I2 c j = cK I c j := fun j => by unfold cK; rw [h2]
  unfold cntB2 opW clW skB opN clN qN mN bkN vN
  rw [h1, ec, ec, ec, ec, ec]
theorem fillM_loop {E : aE} {P : hI_ → hJ_ → Prop} {I0 : hI_} {J : hJ_} {p t : Nat} {su : Int32} (h : Rel I0) (hp : p < nP I0) (ht : t ≤ 999) (k : ∀ I2, agM I0 I2 → (∀ j, j < nC I0 → I2 87 j = nI (lfN I0 p t su j)) → I2 68 28 = nI 0 → I2 68 29 = nI 0 → HX12_layGain_65 E P 1 I2 J) : ∀ (m c : Nat) (I : hI_), c + m = nC I0 → agM I0 I → (∀ j, j < c → I 87 j = nI (lfN I0 p t su j)) → HX12_layGain_3 E P (nI p) (nI t) su (nI c) I J
  | 0, c, I, hc, hag, hI => by
    have hC := Rel_C h
    refine wX12_layGain_3 ?_
    rw [hag.1 82 rfl, hC.2.1]
    refine ⟨fun _ => k _ (agM_tr hag (agM_tr (agM_up rfl (by omega)) (agM_up rfl (by omega)))) (fun j hj => ?_) ?_ upI_same, fun z => absurd (nI_le (by omega) (by omega)) z⟩
    · rw [upI_at, if_neg (by omega), upI_at, if_neg (by omega)]; exact hI j (by omega)
    · rw [upI_at, if_neg (by omega)]; exact upI_same
  | m + 1, c, I, hc, hag, hI => by
    have hC := Rel_C h
    have hR := Rel_agM hag h
    have vc : vp_in (nI c) 12 := vp_in_nI (by omega) (by omega)
    have hcc : c < nC I0 := by omega
    have un := un_ok h hcc
    refine wX12_layGain_3 ?_
    rw [hag.1 82 rfl, hC.2.1]
    refine ⟨fun z => absurd z (nI_ge (by omega) (by omega)), fun _ => ?_⟩
    refine tX12_isOffer hR (by rw [nC_M hag]; exact hcc) (by rw [nP_M hag]; exact hp) ht (fun I3 hag3 => ⟨fun _ => inC_nI (j := 4) (by omega) (by omega), vc, ?_⟩)
    rw [cntB2_e (wI_M hag) (hag.1 82 rfl)]
    have e4 : its I3 (nI c) 4 = nI (unN I0 c) := by
      refine (its_cK (I := I3) (c := c) (j := 4) (by omega) (by omega)).trans ?_
      rw [← un.1]; unfold cK; rw [hag3 82 (by omega), hag.1 82 rfl]
    have ev : (if b2i (cntB2 I0 p t su c = true) = 0 then 0 else nI (unN I0 c)) = nI (lfN I0 p t su c) := by
      unfold lfN
      rw [if_pos hcc]
      by_cases z : cntB2 I0 p t su c = true
      · have : b2i (cntB2 I0 p t su c = true) = 1 := if_pos z
        rw [this, if_pos z, if_neg (by decide)]
      · have : b2i (cntB2 I0 p t su c = true) = 0 := if_neg z
        rw [this, if_neg z, if_pos rfl]; rfl
    rw [e4, ev, nI_1, nI_clamp (by omega)]
    refine fillM_loop h hp ht k m (c + 1) _ (by omega) (agM_tr hag (agM_tr (ag1_M rfl (by omega) hag3) (agM_up rfl (by omega)))) (fun j hj => ?_)
    rw [upI_at]
    by_cases e : j = c
    · rw [if_pos ⟨rfl, e⟩, e]
    · rw [if_neg (fun z => e z.2), hag3 87 (by omega)]; exact hI j (by omega)
theorem tX12_layGain {E : aE} {P : hI_ → hJ_ → Prop} {I : hI_} {J : hJ_} {p t : Nat} {su : Int32} (h : Rel I) (hp : p < nP I) (ht : t ≤ 999) (k : ∀ I2, agM I I2 → I2 68 28 = nI (gnN I p t su).1 → I2 68 29 = nI (gnN I p t su).2 → P I2 J) : CallV E mX12_layGain [.ref 68, .int (nI p), .int (nI t), .int su] SH I J P := by
  have hC := Rel_C h
  refine wX12_layGain (fillM_loop h hp ht (fun I2 a1 a2 a3 a4 => tradeM_loop h 12 (lfN I p t su) 0 0 I2 ?_ a1 a2 (lfN_le h) a3 a4 k) (nC I) 0 I (by omega) agM_rf (fun j hj => by omega))
  have := cntB_n (p := fun j => decide (0 < lfN I p t su j)) (nC I)
  unfold nzC
  omega
set_option maxHeartbeats 4000000 in
set_option maxRecDepth 20000 in
theorem wX11_gain {E : aE} {P : Int32 → hI_ → hJ_ → Prop} {I : hI_} {J : hJ_} {a0 : Int32} {a1 : Int32} {a2 : Int32} {a3 : Int32} (k : ((¬ (0 ≤ a0 ∧ a0 ≤ I 3 6 - 1) → P (-1 : Int32) I J) ∧ ((0 ≤ a0 ∧ a0 ≤ I 3 6 - 1) → ((¬ (0 ≤ a1 ∧ a1 ≤ 999) → P (-1 : Int32) I J) ∧ ((0 ≤ a1 ∧ a1 ≤ 999) → ((((0 : Int32) ≤ a3 ∧ a3 ≤ (1 : Int32)) → CallV E mX0_watch [.ref 36, .int a0, .int a2] SH I J (fun I5 J6 => CallV E mX0_trade [.ref 36, .int a1] SH I5 J6 (fun I8 J9 => P (if ¬ a3 = (0 : Int32) then (I8 36 6) else (I8 36 5)) I8 J9))) ∧ (¬ (((0 : Int32) ≤ a3 ∧ a3 ≤ (1 : Int32))) → P (-1 : Int32) I J))))))) : CallI E mX11_gain [.ref 0, .int a0, .int a1, .int a2, .int a3] SH I J P := by
  refine Call_of (L := [.ref 0, .int a0, .int a1, .int a2, .int a3]) ok_X11_gain.1 rfl rfl ?_
  refine V_aload_n dX11_gain_0 rfl ?_
  refine V_iload_n dX11_gain_1 rfl ?_
  refine U_callV1 [.int a0] dX11_gain_2 ov_X11_148 s_0 rfl ⟨rfl, rfl, rfl⟩ rfl rfl rfl (tX11_isPlace ?_)
  refine U_ifb_eq dX11_gain_5 (fun c1 => ?_) (fun c1 => ?_)
  · have k := k.1 c1
    refine V_iconst (v := (-1 : Int32)) dX11_gain_25 rfl ?_
    exact V_iret dX11_gain_26 ⟨_, rfl, rfl⟩ rfl rfl ⟨_, _, _, rfl, rfl, k⟩
  · have k := k.2 c1
    refine V_iload_n dX11_gain_8 rfl ?_
    refine U_callS1 [.int a1] dX11_gain_9 os_X11_159 ⟨rfl, rfl, rfl⟩ rfl rfl rfl (tX11_isMinute ?_)
    refine U_ifb_eq dX11_gain_12 (fun c2 => ?_) (fun c2 => ?_)
    · have k := k.1 c2
      refine V_iconst (v := (-1 : Int32)) dX11_gain_25 rfl ?_
      exact V_iret dX11_gain_26 ⟨_, rfl, rfl⟩ rfl rfl ⟨_, _, _, rfl, rfl, k⟩
    · have k := k.2 c2
      refine V_iload dX11_gain_15 rfl ?_
      refine V_iconst (v := (0 : Int32)) dX11_gain_17 rfl ?_
      refine V_iconst (v := (1 : Int32)) dX11_gain_18 rfl ?_
      refine U_callS1 [.int a3, .int (0 : Int32), .int (1 : Int32)] dX11_gain_19 os_X11_104 ⟨rfl, rfl, rfl⟩ rfl rfl rfl (tX11_within ?_)
      refine U_ifb_ne dX11_gain_22 (fun c3 => ?_) (fun c3 => ?_)
      · have k := k.1 c3
        refine V_aload_n dX11_gain_27 rfl ?_
        refine U_getR dX11_gain_28 fl_X11_69 s_0 rfl ?_
        refine V_iload_n dX11_gain_31 rfl ?_
        refine V_iload_n dX11_gain_32 rfl ?_
        refine U_callV0 [.int a0, .int a2] dX11_gain_33 ov_X11_249 s_36 rfl ⟨rfl, rfl, rfl⟩ rfl rfl rfl (CallV_mono k (fun I5 J6 k => ?_))
        refine V_aload_n dX11_gain_36 rfl ?_
        refine U_getR dX11_gain_37 fl_X11_69 s_0 rfl ?_
        refine V_iload_n dX11_gain_40 rfl ?_
        refine U_callV0 [.int a1] dX11_gain_41 ov_X11_253 s_36 rfl ⟨rfl, rfl, rfl⟩ rfl rfl rfl (CallV_mono k (fun I8 J9 k => ?_))
        refine V_iload dX11_gain_44 rfl ?_
        have key10 : ∀ (y2011 : Int32), y2011 = (if ¬ a3 = (0 : Int32) then (I8 36 6) else (I8 36 5)) → V E mX11_gain (kI SH P) 66 [.ref 0, .int a0, .int a1, .int a2, .int a3] [.int y2011] (SH, I8, J9) (0, 0) := by
          intro y2011 ey2011
          subst ey2011
          exact V_iret dX11_gain_66 ⟨_, rfl, rfl⟩ rfl rfl ⟨_, _, _, rfl, rfl, k⟩
        refine V_if_ne dX11_gain_46 (fun c2012 => ?_) (fun c2012 => ?_)
        · refine V_aload_n dX11_gain_59 rfl ?_
          refine U_getR dX11_gain_60 fl_X11_69 s_0 rfl ?_
          refine U_getI dX11_gain_63 fl_X11_259 s_36 rfl ?_
          exact key10 _ (by rw [if_pos c2012])
        · refine V_aload_n dX11_gain_49 rfl ?_
          refine U_getR dX11_gain_50 fl_X11_69 s_0 rfl ?_
          refine U_getI dX11_gain_53 fl_X11_256 s_36 rfl ?_
          refine V_goto dX11_gain_56 ?_
          exact key10 _ (by rw [if_neg (not_not_intro c2012)])
      · have k := k.2 c3
        refine V_iconst (v := (-1 : Int32)) dX11_gain_25 rfl ?_
        exact V_iret dX11_gain_26 ⟨_, rfl, rfl⟩ rfl rfl ⟨_, _, _, rfl, rfl, k⟩
set_option maxHeartbeats 4000000 in
set_option maxRecDepth 20000 in
theorem wX12_gain {E : aE} {P : Int32 → hI_ → hJ_ → Prop} {I : hI_} {J : hJ_} {a0 : Int32} {a1 : Int32} {a2 : Int32} {a3 : Int32} (k : ((¬ (0 ≤ a0 ∧ a0 ≤ I 73 0 - 1) → P (-1 : Int32) I J) ∧ ((0 ≤ a0 ∧ a0 ≤ I 73 0 - 1) → ((¬ (0 ≤ a1 ∧ a1 ≤ 999) → P (-1 : Int32) I J) ∧ ((0 ≤ a1 ∧ a1 ≤ 999) → ((((0 : Int32) ≤ a3 ∧ a3 ≤ (1 : Int32)) → CallV E mX12_layGain [.ref 68, .int a0, .int a1, .int a2] SH I J (fun I5 J6 => P (if ¬ a3 = (0 : Int32) then (I5 68 29) else (I5 68 28)) I5 J6)) ∧ (¬ (((0 : Int32) ≤ a3 ∧ a3 ≤ (1 : Int32))) → P (-1 : Int32) I J))))))) : CallI E mX12_gain [.ref 68, .int a0, .int a1, .int a2, .int a3] SH I J P := by
  refine Call_of (L := [.ref 68, .int a0, .int a1, .int a2, .int a3]) ok_X12_gain.1 rfl rfl ?_
  refine V_aload_n dX12_gain_0 rfl ?_
  refine V_iload_n dX12_gain_1 rfl ?_
  refine U_callV1 [.int a0] dX12_gain_2 ov_X12_167 s_68 rfl ⟨rfl, rfl, rfl⟩ rfl rfl rfl (tX12_isPlace ?_)
  refine U_ifb_eq dX12_gain_5 (fun c1 => ?_) (fun c1 => ?_)
  · have k := k.1 c1
    refine V_iconst (v := (-1 : Int32)) dX12_gain_26 rfl ?_
    exact V_iret dX12_gain_27 ⟨_, rfl, rfl⟩ rfl rfl ⟨_, _, _, rfl, rfl, k⟩
  · have k := k.2 c1
    refine V_iload_n dX12_gain_8 rfl ?_
    refine U_callS1 [.int a1] dX12_gain_9 os_X12_179 ⟨rfl, rfl, rfl⟩ rfl rfl rfl (tX12_isMinute ?_)
    refine U_ifb_eq dX12_gain_12 (fun c2 => ?_) (fun c2 => ?_)
    · have k := k.1 c2
      refine V_iconst (v := (-1 : Int32)) dX12_gain_26 rfl ?_
      exact V_iret dX12_gain_27 ⟨_, rfl, rfl⟩ rfl rfl ⟨_, _, _, rfl, rfl, k⟩
    · have k := k.2 c2
      refine V_iload dX12_gain_15 rfl ?_
      refine V_i2l dX12_gain_17 ?_
      refine V_lconst (v := (0 : Int64)) dX12_gain_18 rfl ?_
      refine V_lconst (v := (1 : Int64)) dX12_gain_19 rfl ?_
      refine U_callS1 [.long a3.toInt64, .long (0 : Int64), .long (1 : Int64)] dX12_gain_20 os_X12_91 ⟨rfl, rfl, rfl⟩ rfl rfl rfl (tX12_in32 (v := a3) (lo := (0 : Int32)) (hi := (1 : Int32)) rfl (by decide) (by decide) ?_)
      refine U_ifb_ne dX12_gain_23 (fun c3 => ?_) (fun c3 => ?_)
      · have k := k.1 c3
        refine V_aload_n dX12_gain_28 rfl ?_
        refine V_iload_n dX12_gain_29 rfl ?_
        refine V_iload_n dX12_gain_30 rfl ?_
        refine V_iload_n dX12_gain_31 rfl ?_
        refine U_callV0 [.int a0, .int a1, .int a2] dX12_gain_32 ov_X12_267 s_68 rfl ⟨rfl, rfl, rfl⟩ rfl rfl rfl (CallV_mono k (fun I5 J6 k => ?_))
        refine V_iload dX12_gain_35 rfl ?_
        have key7 : ∀ (y2008 : Int32), y2008 = (if ¬ a3 = (0 : Int32) then (I5 68 29) else (I5 68 28)) → V E mX12_gain (kI SH P) 51 [.ref 68, .int a0, .int a1, .int a2, .int a3] [.int y2008] (SH, I5, J6) (0, 0) := by
          intro y2008 ey2008
          subst ey2008
          exact V_iret dX12_gain_51 ⟨_, rfl, rfl⟩ rfl rfl ⟨_, _, _, rfl, rfl, k⟩
        refine V_if_ne dX12_gain_37 (fun c2009 => ?_) (fun c2009 => ?_)
        · refine V_aload_n dX12_gain_47 rfl ?_
          refine U_getI dX12_gain_48 fl_X12_261 s_68 rfl ?_
          exact key7 _ (by rw [if_pos c2009])
        · refine V_aload_n dX12_gain_40 rfl ?_
          refine U_getI dX12_gain_41 fl_X12_258 s_68 rfl ?_
          refine V_goto dX12_gain_44 ?_
          exact key7 _ (by rw [if_neg (not_not_intro c2009)])
      · have k := k.2 c3
        refine V_iconst (v := (-1 : Int32)) dX12_gain_26 rfl ?_
        exact V_iret dX12_gain_27 ⟨_, rfl, rfl⟩ rfl rfl ⟨_, _, _, rfl, rfl, k⟩
theorem gnN_X {I I2 : hI_} (h : agX I I2) (p t : Nat) (su : Int32) : gnN I2 p t su = gnN I p t su := by
  have e82 := h 82 rfl
  have el : lfN I2 p t su = lfN I p t su := by
    funext j
    unfold lfN unN
    rw [nC_X h, cntB2_e (wI_X h) e82, cK_X h]
  have ed : ∀ L, trD I2 L (nC I) = trD I L (nC I) := fun L => by
    unfold trD
    rw [bsN_e e82, bsN_e e82]
    cases bsN I L 1 (nC I) with
    | none => rfl
    | some x =>
      cases bsN I L 0 (nC I) with
      | none => rfl
      | some y => dsimp only; rw [pcN_e e82, pcN_e e82]
  have ef : ∀ f L br un, trF I2 (nC I) f L br un = trF I (nC I) f L br un := by
    intro f
    induction f with
    | zero => intro L br un; rfl
    | succ f ih =>
      intro L br un
      cases hd : trD I L (nC I) with
      | none => rw [trF_n hd, trF_n ((ed L).trans hd)]
      | some q =>
        obtain ⟨x, y⟩ := q
        rw [trF_s hd, trF_s ((ed L).trans hd), ih, pcN_e e82, pcN_e e82]
  unfold gnN
  rw [nC_X h, el, ef]
theorem op_gain {E : aE} {I : hI_} {J : hJ_} {P : hI_ → hJ_ → Prop} {a0 a1 a2 a3 : Int32} (h : Rel I) (hP : ∀ I2 J2, Rel I2 → P I2 J2) : Op2 E mX11_gain mX12_gain [.int a0, .int a1, .int a2, .int a3] I J P := by
  have hp := Rel_P h
  have e := Rel_pl h
  have kI := hP I J h
  refine wX11_gain ⟨fun c1 => wX12_gain ⟨fun _ => ⟨rfl, kI⟩, fun d => absurd (by rw [e]; exact d) c1⟩, fun c1 => ⟨fun c2 => wX12_gain ⟨fun _ => ⟨rfl, kI⟩, fun _ => ⟨fun _ => ⟨rfl, kI⟩, fun d => absurd d c2⟩⟩, fun c2 => ⟨fun c3 => ?_, fun c3 => wX12_gain ⟨fun _ => ⟨rfl, kI⟩, fun _ => ⟨fun _ => ⟨rfl, kI⟩, fun _ => ⟨fun d => absurd d c3, fun _ => ⟨rfl, kI⟩⟩⟩⟩⟩⟩⟩
  rw [e] at c1
  have c1' := c1
  rw [hp.2.1] at c1'
  obtain ⟨x, hx, rfl⟩ := in_lt (by omega) c1'
  obtain ⟨t, ht, rfl⟩ := in999 c2
  refine tX0_watch h hx (fun I2 hag hO => ?_)
  refine tX0_trade (p := x) (su := a2) h ht (agS_X hag) hO (fun I3 hag3 g1 g2 => ?_)
  have hR := Rel_agX hag3 h
  rw [g1, g2]
  refine wX12_gain ⟨fun d => absurd (by rw [hag3 73 rfl]; exact c1) d, fun _ => ⟨fun d => absurd c2 d, fun _ => ⟨fun _ => ?_, fun d => absurd c3 d⟩⟩⟩
  refine tX12_layGain hR (by rw [nP_X hag3]; exact hx) ht (fun I4 hag4 q1 q2 => ⟨?_, hP I4 J (Rel_agM hag4 hR)⟩)
  rw [q1, q2, gnN_X hag3]
