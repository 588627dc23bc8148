/-! how long a book waits -/
noncomputable def wv (w : Wld) (a t p : Nat) : Nat := if 10000 ≤ arr w a t p then 10000 else arr w a t p - t
noncomputable def wt (w : Wld) (t p : Nat) : Nat → Nat
  | 0 => 0
  | n + 1 => max (wt w t p n) (wv w n t p)
theorem wv_le {w : Wld} {a t p : Nat} : wv w a t p ≤ 10000 := by
  unfold wv
  have := @arr_le w a t p
  split <;> omega
theorem wt_le {w : Wld} {t p : Nat} : ∀ n, wt w t p n ≤ 10000
  | 0 => Nat.zero_le _
  | n + 1 => Nat.max_le.mpr ⟨wt_le n, wv_le⟩
theorem nI_sub {a b : Nat} (h : b ≤ a) : nI a - nI b = nI (a - b) := by
  have : nI a = nI (a - b) + nI b := by rw [nI_add, show a - b + b = a by omega]
  rw [this, Int32.add_sub_cancel]
def HX9_look_10 (E : aE) (P : hI_ → hJ_ → Prop) (v1 : Int32) (v2 : Int32) (I : hI_) (J : hJ_) : Prop := V E mX9_look (kV SH P) 10 [.ref 40, .int v1, .int v2, .retAddr 0, .retAddr 0] [] (SH, I, J) (0, 0)
def HX9_look_32 (E : aE) (P : hI_ → hJ_ → Prop) (v1 : Int32) (v2 : Int32) (v3 : Int32) (I : hI_) (J : hJ_) : Prop := V E mX9_look (kV SH P) 32 [.ref 40, .int v1, .int v2, .int v3, .retAddr 0] [] (SH, I, J) (0, 0)
set_option maxHeartbeats 4000000 in
set_option maxRecDepth 20000 in
theorem wX9_look {E : aE} {P : hI_ → hJ_ → Prop} {I : hI_} {J : hJ_} {a0 : Int32} (k : HX9_look_10 E P a0 (0 : Int32) (flI I 41 5 (0 : Int32)) J) : CallV E mX9_look [.ref 40, .int a0] SH I J P := by
  refine Call_of (L := [.ref 40, .int a0, .retAddr 0, .retAddr 0, .retAddr 0]) ok_X9_look.1 rfl rfl ?_
  refine V_aload_n dX9_look_0 rfl ?_
  refine U_getR dX9_look_1 fl_X9_9 s_40 rfl ?_
  refine V_iconst (v := (0 : Int32)) dX9_look_4 rfl ?_
  refine U_callS0 [.ref 41, .int (0 : Int32)] dX9_look_5 os_X9_23 ⟨rfl, rfl, rfl⟩ rfl rfl rfl (tfillI s_41 (by decide) ?_)
  refine V_iconst (v := (0 : Int32)) dX9_look_8 rfl ?_
  refine U_istore_n (L2 := [.ref 40, .int a0, .int (0 : Int32), .retAddr 0, .retAddr 0]) dX9_look_9 (by decide) rfl ?_
  exact k
set_option maxHeartbeats 4000000 in
set_option maxRecDepth 20000 in
theorem wX9_look_10 {E : aE} {P : hI_ → hJ_ → Prop} {I : hI_} {J : hJ_} {v1 : Int32} {v2 : Int32} (k : (((I 3 6) ≤ v2 → P I J) ∧ (¬ ((I 3 6) ≤ v2) → CallV E mX2_spread [.ref 18, .int v2, .int v1] SH I J (fun I3 J4 => HX9_look_32 E P v1 v2 (0 : Int32) I3 J4)))) : HX9_look_10 E P v1 v2 I J := by
  show V E mX9_look (kV SH P) 10 [.ref 40, .int v1, .int v2, .retAddr 0, .retAddr 0] [] (SH, I, J) (0, 0)
  refine V_iload_n dX9_look_10 rfl ?_
  refine V_aload_n dX9_look_11 rfl ?_
  refine U_getR dX9_look_12 fl_X9_15 s_40 rfl ?_
  refine U_getI dX9_look_15 fl_X9_29 s_3 rfl ?_
  refine V_icmp_ge dX9_look_18 (fun c1 => ?_) (fun c1 => ?_)
  · have k := k.1 c1
    exact V_vret dX9_look_99 rfl rfl rfl ⟨_, _, rfl, k⟩
  · have k := k.2 c1
    refine V_aload_n dX9_look_21 rfl ?_
    refine U_getR dX9_look_22 fl_X9_19 s_40 rfl ?_
    refine V_iload_n dX9_look_25 rfl ?_
    refine V_iload_n dX9_look_26 rfl ?_
    refine U_callV0 [.int v2, .int v1] dX9_look_27 ov_X9_35 s_18 rfl ⟨rfl, rfl, rfl⟩ rfl rfl rfl (CallV_mono k (fun I3 J4 k => ?_))
    refine V_iconst (v := (0 : Int32)) dX9_look_30 rfl ?_
    refine U_istore_n (L2 := [.ref 40, .int v1, .int v2, .int (0 : Int32), .retAddr 0]) dX9_look_31 (by decide) rfl ?_
    exact k
set_option maxHeartbeats 4000000 in
set_option maxRecDepth 20000 in
theorem wX9_look_32 {E : aE} {P : hI_ → hJ_ → Prop} {I : hI_} {J : hJ_} {v1 : Int32} {v2 : Int32} {v3 : Int32} (k : (((I 3 6) ≤ v3 → HX9_look_10 E P v1 (v2 + (1 : Int32)) I J) ∧ (¬ ((I 3 6) ≤ v3) → (vp_in v3 5) ∧ (vp_in v3 5) ∧ (vp_in v3 5) ∧ HX9_look_32 E P v1 v2 (v3 + (1 : Int32)) (upI I 41 v3.toNatClampNeg (jmax (I 41 v3.toNatClampNeg) (if (I 19 v3.toNatClampNeg) < (10000 : Int32) then ((I 19 v3.toNatClampNeg) - v1) else (10000 : Int32)))) J))) : HX9_look_32 E P v1 v2 v3 I J := by
  show V E mX9_look (kV SH P) 32 [.ref 40, .int v1, .int v2, .int v3, .retAddr 0] [] (SH, I, J) (0, 0)
  refine V_iload_n dX9_look_32 rfl ?_
  refine V_aload_n dX9_look_33 rfl ?_
  refine U_getR dX9_look_34 fl_X9_15 s_40 rfl ?_
  refine U_getI dX9_look_37 fl_X9_29 s_3 rfl ?_
  refine V_icmp_ge dX9_look_40 (fun c1 => ?_) (fun c1 => ?_)
  · have k := k.1 c1
    refine U_iinc (v := v2 + (1 : Int32)) (L2 := [.ref 40, .int v1, .int (v2 + (1 : Int32)), .int v3, .retAddr 0]) dX9_look_93 (by decide) rfl rfl rfl ?_
    refine V_goto dX9_look_96 ?_
    exact V_wk (wk_eq (wk_eq (wk_eq (wk_j (wk_j (wk_nil)))))) k
  · have k := k.2 c1
    refine V_aload_n dX9_look_43 rfl ?_
    refine U_getR dX9_look_44 fl_X9_19 s_40 rfl ?_
    refine U_getR dX9_look_47 fl_X9_41 s_18 rfl ?_
    refine V_iload_n dX9_look_50 rfl ?_
    obtain ⟨hb2, k⟩ := k
    refine U_iald dX9_look_51 s_19 hb2 ?_
    refine U_istore (L2 := [.ref 40, .int v1, .int v2, .int v3, .int (I 19 v3.toNatClampNeg)]) dX9_look_52 (by decide) rfl ?_
    refine V_aload_n dX9_look_54 rfl ?_
    refine U_getR dX9_look_55 fl_X9_9 s_40 rfl ?_
    refine V_iload_n dX9_look_58 rfl ?_
    refine V_aload_n dX9_look_59 rfl ?_
    refine U_getR dX9_look_60 fl_X9_9 s_40 rfl ?_
    refine V_iload_n dX9_look_63 rfl ?_
    obtain ⟨hb3, k⟩ := k
    refine U_iald dX9_look_64 s_41 hb3 ?_
    refine V_iload dX9_look_65 rfl ?_
    refine V_sipush (v := (10000 : Int32)) dX9_look_67 rfl ?_
    have key4 : ∀ (y2005 : Int32), y2005 = (if (I 19 v3.toNatClampNeg) < (10000 : Int32) then ((I 19 v3.toNatClampNeg) - v1) else (10000 : Int32)) → V E mX9_look (kV SH P) 83 [.ref 40, .int v1, .int v2, .int v3, .int (I 19 v3.toNatClampNeg)] [.int y2005, .int (I 41 v3.toNatClampNeg), .int v3, .ref 41] (SH, I, J) (0, 0) := by
      intro y2005 ey2005
      subst ey2005
      refine V_mmax dX9_look_83 om_X9_44 rfl ?_
      obtain ⟨hb2006, k⟩ := k
      refine U_iast dX9_look_86 s_41 hb2006 ?_
      refine U_iinc (v := v3 + (1 : Int32)) (L2 := [.ref 40, .int v1, .int v2, .int (v3 + (1 : Int32)), .int (I 19 v3.toNatClampNeg)]) dX9_look_87 (by decide) rfl rfl rfl ?_
      refine V_goto dX9_look_90 ?_
      exact V_wk (wk_eq (wk_eq (wk_eq (wk_eq (wk_j (wk_nil)))))) k
    refine V_icmp_lt dX9_look_70 (fun c2007 => ?_) (fun c2007 => ?_)
    · refine V_iload dX9_look_79 rfl ?_
      refine V_iload_n dX9_look_81 rfl ?_
      refine V_isub dX9_look_82 ?_
      exact key4 _ (by rw [if_pos c2007])
    · refine V_sipush (v := (10000 : Int32)) dX9_look_73 rfl ?_
      refine V_goto dX9_look_76 ?_
      exact key4 _ (by rw [if_neg c2007])
theorem look_in {E : aE} {P : hI_ → hJ_ → Prop} {I0 : hI_} {J : hJ_} {a t : Nat} {L : Nat → Nat} (h : Rel I0) (ht : t ≤ 999) (hL : ∀ j, L j ≤ 10000) (h19 : ∀ j, j < 5 → I0 19 j = nI (arr (wI I0) a t j)) (k : ∀ I2, ag1 41 I0 I2 → (∀ j, j < nP I0 → I2 41 j = nI (max (L j) (wv (wI I0) a t j))) → HX9_look_10 E P (nI t) (nI (a + 1)) I2 J) : ∀ (m p : Nat) (I : hI_), p + m = nP I0 → ag1 41 I0 I → (∀ j, j < nP I0 → I 41 j = nI (if j < p then max (L j) (wv (wI I0) a t j) else L j)) → HX9_look_32 E P (nI t) (nI a) (nI p) I J
  | 0, p, I, hp, hag, hI => by
    have hP := Rel_P h
    refine wX9_look_32 ?_
    rw [hag 3 (by omega), hP.1, nI_1]
    refine ⟨fun _ => k I hag (fun j hj => ?_), fun z => absurd (nI_le (by omega) (by omega)) z⟩
    rw [hI j hj, if_pos (by omega)]
  | m + 1, p, I, hp, hag, hI => by
    have hP := Rel_P h
    have v5 : vp_in (nI p) 5 := vp_in_nI (by omega) (by omega)
    refine wX9_look_32 ?_
    rw [hag 3 (by omega), hP.1, nI_1 p, nI_clamp (by omega), hI p (by omega), if_neg (by omega), hag 19 (by omega), h19 p (by omega)]
    refine ⟨fun z => absurd z (nI_ge (by omega) (by omega)), fun _ => ⟨v5, v5, v5, ?_⟩⟩
    have ha := @arr_le (wI I0) a t p
    have hl := @arr_late (wI I0) a t p (by omega)
    have ev : (if nI (arr (wI I0) a t p) < (10000 : Int32) then nI (arr (wI I0) a t p) - nI t else 10000) = nI (wv (wI I0) a t p) := by
      unfold wv
      by_cases z : 10000 ≤ arr (wI I0) a t p
      · rw [if_pos z, if_neg (show ¬ nI (arr (wI I0) a t p) < (10000 : Int32) from nI_nlt (b := 10000) z (by omega))]; rfl
      · rw [if_neg z, if_pos (show nI (arr (wI I0) a t p) < (10000 : Int32) from nI_lt (b := 10000) (by omega) (by omega)), nI_sub hl]
    have hw := @wv_le (wI I0) a t p
    have hLp := hL p
    rw [ev, jmax_nI (by omega) (by omega)]
    refine look_in h ht hL h19 k m (p + 1) _ (by omega) (ag1_tr hag ag1_up) (fun j hj => ?_)
    rw [upI_at]
    by_cases e : j = p
    · rw [if_pos ⟨rfl, e⟩, e, if_pos (by omega)]
    · rw [if_neg (fun z => e z.2), hI j hj]
      by_cases e2 : j < p
      · rw [if_pos e2, if_pos (by omega)]
      · rw [if_neg e2, if_neg (by omega)]
def ag2 (c d : Nat) (I I2 : hI_) : Prop := ∀ a, a ≠ c → a ≠ d → I2 a = I a
theorem ag2_X {c d : Nat} {I I2 : hI_} (h1 : scX c = true) (h2 : scX d = true) (h : ag2 c d I I2) : agX I I2 := fun a ha => h a (fun e => by rw [e, h1] at ha; cases ha) (fun e => by rw [e, h2] at ha; cases ha)
theorem look_out {E : aE} {P : hI_ → hJ_ → Prop} {I0 : hI_} {J : hJ_} {t : Nat} (h : Rel I0) (ht : t ≤ 999) (k : ∀ I2, ag2 19 41 I0 I2 → (∀ j, j < nP I0 → I2 41 j = nI (wt (wI I0) t j (nP I0))) → P I2 J) : ∀ (m a : Nat) (I : hI_), a + m = nP I0 → ag2 19 41 I0 I → (∀ j, j < nP I0 → I 41 j = nI (wt (wI I0) t j a)) → HX9_look_10 E P (nI t) (nI a) I J
  | 0, a, I, ha, hag, hI => by
    have hP := Rel_P h
    refine wX9_look_10 ?_
    rw [hag 3 (by omega) (by omega), hP.1]
    have e : a = nP I0 := by omega
    rw [e] at hI
    exact ⟨fun _ => k I hag hI, fun z => absurd (nI_le (by omega) (by omega)) z⟩
  | m + 1, a, I, ha, hag, hI => by
    have hP := Rel_P h
    have hX := ag2_X rfl rfl hag
    have hR := Rel_agX hX h
    have eP : nP I = nP I0 := nP_X hX
    have eW : wI I = wI I0 := wI_X hX
    refine wX9_look_10 ?_
    rw [hag 3 (by omega) (by omega), hP.1]
    refine ⟨fun z => absurd z (nI_ge (by omega) (by omega)), fun _ => ?_⟩
    refine tX2_spread hR (by omega) (by omega) (fun I2 hag2 hI2 => ?_)
    have hX2 := agX_tr hX (ag1_X rfl hag2)
    have hR2 := Rel_agX hX2 h
    have eP2 : nP I2 = nP I0 := nP_X hX2
    have eW2 : wI I2 = wI I0 := wI_X hX2
    rw [eW] at hI2
    refine look_in (I0 := I2) (L := fun j => wt (wI I0) t j a) hR2 ht (fun j => wt_le a) (fun j hj => by rw [eW2]; exact hI2 j hj) (fun I3 hag3 hI3 => ?_) (nP I2) 0 I2 (by omega) ag1_rf (fun j hj => ?_)
    · rw [eP2, eW2] at hI3
      refine look_out h ht k m (a + 1) I3 (by omega) (fun c e1 e2 => ?_) hI3
      rw [hag3 c e2, hag2 c e1, hag c e1 e2]
    · rw [if_neg (by omega), hag2 41 (by omega)]; exact hI j (by omega)
theorem tX9_look {E : aE} {P : hI_ → hJ_ → Prop} {I : hI_} {J : hJ_} {t : Nat} (h : Rel I) (ht : t ≤ 999) (k : ∀ I2, ag2 19 41 I I2 → (∀ j, j < nP I → I2 41 j = nI (wt (wI I) t j (nP I))) → P I2 J) : CallV E mX9_look [.ref 40, .int (nI t)] SH I J P := by
  have hP := Rel_P h
  refine wX9_look (look_out h ht k (nP I) 0 _ (by omega) (fun a e1 e2 => ?_) (fun j hj => ?_))
  · funext j; rw [flI_at, if_neg (fun z => e2 z.1)]
  · rw [flI_at, if_pos ⟨rfl, by omega⟩]; rfl
def HX12_waitOf_5 (E : aE) (P : Int32 → hI_ → hJ_ → Prop) (v1 : Int32) (v2 : Int32) (v3 : Int32) (v4 : Int32) (I : hI_) (J : hJ_) : Prop := V E mX12_waitOf (kI SH P) 5 [.ref 68, .int v1, .int v2, .int v3, .int v4, .retAddr 0] [] (SH, I, J) (0, 0)
set_option maxHeartbeats 4000000 in
set_option maxRecDepth 20000 in
theorem wX12_waitOf {E : aE} {P : Int32 → hI_ → hJ_ → Prop} {I : hI_} {J : hJ_} {a0 : Int32} {a1 : Int32} (k : HX12_waitOf_5 E P a0 a1 (0 : Int32) (0 : Int32) I J) : CallI E mX12_waitOf [.ref 68, .int a0, .int a1] SH I J P := by
  refine Call_of (L := [.ref 68, .int a0, .int a1, .retAddr 0, .retAddr 0, .retAddr 0]) ok_X12_waitOf.1 rfl rfl ?_
  refine V_iconst (v := (0 : Int32)) dX12_waitOf_0 rfl ?_
  refine U_istore_n (L2 := [.ref 68, .int a0, .int a1, .int (0 : Int32), .retAddr 0, .retAddr 0]) dX12_waitOf_1 (by decide) rfl ?_
  refine V_iconst (v := (0 : Int32)) dX12_waitOf_2 rfl ?_
  refine U_istore (L2 := [.ref 68, .int a0, .int a1, .int (0 : Int32), .int (0 : Int32), .retAddr 0]) dX12_waitOf_3 (by decide) rfl ?_
  exact k
set_option maxHeartbeats 4000000 in
set_option maxRecDepth 20000 in
theorem wX12_waitOf_5 {E : aE} {P : Int32 → hI_ → hJ_ → Prop} {I : hI_} {J : hJ_} {v1 : Int32} {v2 : Int32} {v3 : Int32} {v4 : Int32} (k : (((I 73 0) ≤ v4 → P v3 I J) ∧ (¬ ((I 73 0) ≤ v4) → CallI E mX12_news [.ref 68, .int v4, .int v1, .int v2] SH I J (fun x2 I3 J4 => HX12_waitOf_5 E P v1 v2 (if x2 < (10000 : Int32) then (if (10000 : Int32) ≤ v3 then v3 else (if (x2 - v2) ≤ v3 then v3 else (x2 - v2))) else (10000 : Int32)) (v4 + (1 : Int32)) I3 J4)))) : HX12_waitOf_5 E P v1 v2 v3 v4 I J := by
  show V E mX12_waitOf (kI SH P) 5 [.ref 68, .int v1, .int v2, .int v3, .int v4, .retAddr 0] [] (SH, I, J) (0, 0)
  refine V_iload dX12_waitOf_5 rfl ?_
  refine V_aload_n dX12_waitOf_7 rfl ?_
  refine U_getR dX12_waitOf_8 fl_X12_22 s_68 rfl ?_
  refine V_iconst (v := (0 : Int32)) dX12_waitOf_11 rfl ?_
  refine U_ialdx (x := I 73 0) dX12_waitOf_12 s_73 (by unfold vp_in; decide) rfl ?_
  refine V_icmp_ge dX12_waitOf_13 (fun c1 => ?_) (fun c1 => ?_)
  · have k := k.1 c1
    refine V_iload_n dX12_waitOf_70 rfl ?_
    exact V_iret dX12_waitOf_71 ⟨_, rfl, rfl⟩ rfl rfl ⟨_, _, _, rfl, rfl, k⟩
  · have k := k.2 c1
    refine V_aload_n dX12_waitOf_16 rfl ?_
    refine V_iload dX12_waitOf_17 rfl ?_
    refine V_iload_n dX12_waitOf_19 rfl ?_
    refine V_iload_n dX12_waitOf_20 rfl ?_
    refine U_callV1 [.int v4, .int v1, .int v2] dX12_waitOf_21 ov_X12_182 s_68 rfl ⟨rfl, rfl, rfl⟩ rfl rfl rfl (CallI_mono k (fun x2 I3 J4 k => ?_))
    refine U_istore (L2 := [.ref 68, .int v1, .int v2, .int v3, .int v4, .int x2]) dX12_waitOf_24 (by decide) rfl ?_
    refine V_iload dX12_waitOf_26 rfl ?_
    refine V_sipush (v := (10000 : Int32)) dX12_waitOf_28 rfl ?_
    have key5 : ∀ (y2006 : Int32), y2006 = (if x2 < (10000 : Int32) then (if (10000 : Int32) ≤ v3 then v3 else (if (x2 - v2) ≤ v3 then v3 else (x2 - v2))) else (10000 : Int32)) → V E mX12_waitOf (kI SH P) 63 [.ref 68, .int v1, .int v2, .int v3, .int v4, .int x2] [.int y2006] (SH, I3, J4) (0, 0) := by
      intro y2006 ey2006
      subst ey2006
      refine U_istore_n (L2 := [.ref 68, .int v1, .int v2, .int (if x2 < (10000 : Int32) then (if (10000 : Int32) ≤ v3 then v3 else (if (x2 - v2) ≤ v3 then v3 else (x2 - v2))) else (10000 : Int32)), .int v4, .int x2]) dX12_waitOf_63 (by decide) rfl ?_
      refine U_iinc (v := v4 + (1 : Int32)) (L2 := [.ref 68, .int v1, .int v2, .int (if x2 < (10000 : Int32) then (if (10000 : Int32) ≤ v3 then v3 else (if (x2 - v2) ≤ v3 then v3 else (x2 - v2))) else (10000 : Int32)), .int (v4 + (1 : Int32)), .int x2]) dX12_waitOf_64 (by decide) rfl rfl rfl ?_
      refine V_goto dX12_waitOf_67 ?_
      exact V_wk (wk_eq (wk_eq (wk_eq (wk_eq (wk_eq (wk_j (wk_nil))))))) k
    refine V_icmp_lt dX12_waitOf_31 (fun c2007 => ?_) (fun c2007 => ?_)
    · refine V_iload_n dX12_waitOf_40 rfl ?_
      refine V_sipush (v := (10000 : Int32)) dX12_waitOf_41 rfl ?_
      refine V_icmp_ge dX12_waitOf_44 (fun c2008 => ?_) (fun c2008 => ?_)
      · refine V_iload_n dX12_waitOf_62 rfl ?_
        exact key5 _ (by rw [if_pos c2007, if_pos c2008])
      · refine V_iload dX12_waitOf_47 rfl ?_
        refine V_iload_n dX12_waitOf_49 rfl ?_
        refine V_isub dX12_waitOf_50 ?_
        refine V_iload_n dX12_waitOf_51 rfl ?_
        refine V_icmp_le dX12_waitOf_52 (fun c2009 => ?_) (fun c2009 => ?_)
        · refine V_iload_n dX12_waitOf_62 rfl ?_
          exact key5 _ (by rw [if_pos c2007, if_neg c2008, if_pos c2009])
        · refine V_iload dX12_waitOf_55 rfl ?_
          refine V_iload_n dX12_waitOf_57 rfl ?_
          refine V_isub dX12_waitOf_58 ?_
          refine V_goto dX12_waitOf_59 ?_
          exact key5 _ (by rw [if_pos c2007, if_neg c2008, if_neg c2009])
    · refine V_sipush (v := (10000 : Int32)) dX12_waitOf_34 rfl ?_
      refine V_goto dX12_waitOf_37 ?_
      exact key5 _ (by rw [if_neg c2007])
theorem waitM_loop {E : aE} {P : Int32 → hI_ → hJ_ → Prop} {I0 : hI_} {J : hJ_} {t p : Nat} (h : Rel I0) (ht : t ≤ 999) (hp : p < 5) (k : ∀ I2, ag1 81 I0 I2 → P (nI (wt (wI I0) t p (nP I0))) I2 J) : ∀ (m a : Nat) (I : hI_), a + m = nP I0 → ag1 81 I0 I → HX12_waitOf_5 E P (nI p) (nI t) (nI (wt (wI I0) t p a)) (nI a) I J
  | 0, a, I, ha, hag => by
    have hP := Rel_P h
    have e : a = nP I0 := by omega
    refine wX12_waitOf_5 ?_
    rw [hag 73 (by omega), hP.2.1, e]
    exact ⟨fun _ => k I hag, fun z => absurd (nI_le (by omega) (by omega)) z⟩
  | m + 1, a, I, ha, hag => by
    have hP := Rel_P h
    have hM := ag1_M rfl (by omega) hag
    have hR := Rel_agM hM h
    refine wX12_waitOf_5 ?_
    rw [hag 73 (by omega), hP.2.1]
    refine ⟨fun z => absurd z (nI_ge (by omega) (by omega)), fun _ => ?_⟩
    refine tX12_news hR (by omega) hp (by omega) (fun I2 hag2 => ?_)
    rw [wI_M hM, nI_1]
    have ha1 := @arr_le (wI I0) a t p
    have hl := @arr_late (wI I0) a t p (by omega)
    have hw := @wt_le (wI I0) t p a
    have ev : (if nI (arr (wI I0) a t p) < (10000 : Int32) then (if (10000 : Int32) ≤ nI (wt (wI I0) t p a) then nI (wt (wI I0) t p a) else (if nI (arr (wI I0) a t p) - nI t ≤ nI (wt (wI I0) t p a) then nI (wt (wI I0) t p a) else nI (arr (wI I0) a t p) - nI t)) else 10000) = nI (wt (wI I0) t p (a + 1)) := by
      have e1 : wt (wI I0) t p (a + 1) = max (wt (wI I0) t p a) (wv (wI I0) a t p) := rfl
      rw [e1, nI_sub hl]
      unfold wv
      by_cases z : 10000 ≤ arr (wI I0) a t p
      · rw [if_pos z, if_neg (show ¬ nI (arr (wI I0) a t p) < (10000 : Int32) from nI_nlt (b := 10000) z (by omega)), Nat.max_eq_right (by omega)]; rfl
      · rw [if_neg z, if_pos (show nI (arr (wI I0) a t p) < (10000 : Int32) from nI_lt (b := 10000) (by omega) (by omega))]
        by_cases z2 : 10000 ≤ wt (wI I0) t p a
        · rw [if_pos (show (10000 : Int32) ≤ nI (wt (wI I0) t p a) from nI_le (a := 10000) z2 (by omega)), Nat.max_eq_left (by omega)]
        · rw [if_neg (show ¬ (10000 : Int32) ≤ nI (wt (wI I0) t p a) from nI_ge (b := 10000) (by omega) (by omega))]
          by_cases z3 : arr (wI I0) a t p - t ≤ wt (wI I0) t p a
          · rw [if_pos (nI_le z3 (by omega)), Nat.max_eq_left z3]
          · rw [if_neg (nI_ge (by omega) (by omega)), Nat.max_eq_right (by omega)]
    rw [ev]
    exact waitM_loop h ht hp k m (a + 1) I2 (by omega) (ag1_tr hag hag2)
theorem tX12_waitOf {E : aE} {P : Int32 → hI_ → hJ_ → Prop} {I : hI_} {J : hJ_} {t p : Nat} (h : Rel I) (ht : t ≤ 999) (hp : p < 5) (k : ∀ I2, ag1 81 I I2 → P (nI (wt (wI I) t p (nP I))) I2 J) : CallI E mX12_waitOf [.ref 68, .int (nI p), .int (nI t)] SH I J P := wX12_waitOf (waitM_loop h ht hp k (nP I) 0 I (by omega) ag1_rf)
set_option maxHeartbeats 4000000 in
set_option maxRecDepth 20000 in
theorem wX11_waits {E : aE} {P : Int32 → hI_ → hJ_ → Prop} {I : hI_} {J : hJ_} {a0 : Int32} {a1 : Int32} (k : ((¬ (0 ≤ a0 ∧ a0 ≤ I 3 6 - 1) → P (-1 : Int32) I J) ∧ ((0 ≤ a0 ∧ a0 ≤ I 3 6 - 1) → (((0 ≤ a1 ∧ a1 ≤ 999) → CallV E mX9_look [.ref 40, .int a1] SH I J (fun I4 J5 => (vp_in a0 5) ∧ P (orN (I4 41 a0.toNatClampNeg)) I4 J5)) ∧ (¬ ((0 ≤ a1 ∧ a1 ≤ 999)) → P (-1 : Int32) I J))))) : CallI E mX11_waits [.ref 0, .int a0, .int a1] SH I J P := by
  refine Call_of (L := [.ref 0, .int a0, .int a1]) ok_X11_waits.1 rfl rfl ?_
  refine V_aload_n dX11_waits_0 rfl ?_
  refine V_iload_n dX11_waits_1 rfl ?_
  refine U_callV1 [.int a0] dX11_waits_2 ov_X11_148 s_0 rfl ⟨rfl, rfl, rfl⟩ rfl rfl rfl (tX11_isPlace ?_)
  refine U_ifb_eq dX11_waits_5 (fun c1 => ?_) (fun c1 => ?_)
  · have k := k.1 c1
    refine V_iconst (v := (-1 : Int32)) dX11_waits_15 rfl ?_
    exact V_iret dX11_waits_16 ⟨_, rfl, rfl⟩ rfl rfl ⟨_, _, _, rfl, rfl, k⟩
  · have k := k.2 c1
    refine V_iload_n dX11_waits_8 rfl ?_
    refine U_callS1 [.int a1] dX11_waits_9 os_X11_159 ⟨rfl, rfl, rfl⟩ rfl rfl rfl (tX11_isMinute ?_)
    refine U_ifb_ne dX11_waits_12 (fun c2 => ?_) (fun c2 => ?_)
    · have k := k.1 c2
      refine V_aload_n dX11_waits_17 rfl ?_
      refine U_getR dX11_waits_18 fl_X11_78 s_0 rfl ?_
      refine V_iload_n dX11_waits_21 rfl ?_
      refine U_callV0 [.int a1] dX11_waits_22 ov_X11_278 s_40 rfl ⟨rfl, rfl, rfl⟩ rfl rfl rfl (CallV_mono k (fun I4 J5 k => ?_))
      refine V_aload_n dX11_waits_25 rfl ?_
      refine U_getR dX11_waits_26 fl_X11_78 s_0 rfl ?_
      refine U_getR dX11_waits_29 fl_X11_281 s_40 rfl ?_
      refine V_iload_n dX11_waits_32 rfl ?_
      obtain ⟨hb6, k⟩ := k
      refine U_iald dX11_waits_33 s_41 hb6 ?_
      refine U_callS1 [.int (I4 41 a0.toNatClampNeg)] dX11_waits_34 os_X11_166 ⟨rfl, rfl, rfl⟩ rfl rfl rfl (tX11_orNone ?_)
      exact V_iret dX11_waits_37 ⟨_, rfl, rfl⟩ rfl rfl ⟨_, _, _, rfl, rfl, k⟩
    · have k := k.2 c2
      refine V_iconst (v := (-1 : Int32)) dX11_waits_15 rfl ?_
      exact V_iret dX11_waits_16 ⟨_, rfl, rfl⟩ rfl rfl ⟨_, _, _, rfl, rfl, k⟩
set_option maxHeartbeats 4000000 in
set_option maxRecDepth 20000 in
theorem wX12_waits {E : aE} {P : Int32 → hI_ → hJ_ → Prop} {I : hI_} {J : hJ_} {a0 : Int32} {a1 : Int32} (k : ((¬ (0 ≤ a0 ∧ a0 ≤ I 73 0 - 1) → P (-1 : Int32) I J) ∧ ((0 ≤ a0 ∧ a0 ≤ I 73 0 - 1) → ((¬ (0 ≤ a1 ∧ a1 ≤ 999) → P (-1 : Int32) I J) ∧ ((0 ≤ a1 ∧ a1 ≤ 999) → CallI E mX12_waitOf [.ref 68, .int a0, .int a1] SH I J (fun x3 I4 J5 => P (orN x3) I4 J5)))))) : CallI E mX12_waits [.ref 68, .int a0, .int a1] SH I J P := by
  refine Call_of (L := [.ref 68, .int a0, .int a1]) ok_X12_waits.1 rfl rfl ?_
  refine V_aload_n dX12_waits_0 rfl ?_
  refine V_iload_n dX12_waits_1 rfl ?_
  refine U_callV1 [.int a0] dX12_waits_2 ov_X12_167 s_68 rfl ⟨rfl, rfl, rfl⟩ rfl rfl rfl (tX12_isPlace ?_)
  refine U_ifb_eq dX12_waits_5 (fun c1 => ?_) (fun c1 => ?_)
  · have k := k.1 c1
    refine V_iconst (v := (-1 : Int32)) dX12_waits_27 rfl ?_
    exact V_iret dX12_waits_28 ⟨_, rfl, rfl⟩ rfl rfl ⟨_, _, _, rfl, rfl, k⟩
  · have k := k.2 c1
    refine V_iload_n dX12_waits_8 rfl ?_
    refine U_callS1 [.int a1] dX12_waits_9 os_X12_179 ⟨rfl, rfl, rfl⟩ rfl rfl rfl (tX12_isMinute ?_)
    refine U_ifb_eq dX12_waits_12 (fun c2 => ?_) (fun c2 => ?_)
    · have k := k.1 c2
      refine V_iconst (v := (-1 : Int32)) dX12_waits_27 rfl ?_
      exact V_iret dX12_waits_28 ⟨_, rfl, rfl⟩ rfl rfl ⟨_, _, _, rfl, rfl, k⟩
    · have k := k.2 c2
      refine V_aload_n dX12_waits_15 rfl ?_
      refine V_iload_n dX12_waits_16 rfl ?_
      refine V_iload_n dX12_waits_17 rfl ?_
      refine U_callV1 [.int a0, .int a1] dX12_waits_18 ov_X12_275 s_68 rfl ⟨rfl, rfl, rfl⟩ rfl rfl rfl (CallI_mono k (fun x3 I4 J5 k => ?_))
      refine U_callS1 [.int x3] dX12_waits_21 os_X12_185 ⟨rfl, rfl, rfl⟩ rfl rfl rfl (tX12_orNone ?_)
      refine V_goto dX12_waits_24 ?_
      exact V_iret dX12_waits_28 ⟨_, rfl, rfl⟩ rfl rfl ⟨_, _, _, rfl, rfl, k⟩
theorem op_waits {E : aE} {I : hI_} {J : hJ_} {P : hI_ → hJ_ → Prop} {a0 a1 : Int32} (h : Rel I) (hP : ∀ I2 J2, Rel I2 → P I2 J2) : Op2 E mX11_waits mX12_waits [.int a0, .int a1] I J P := by
  have hp := Rel_P h
  have e := Rel_pl h
  have kI := hP I J h
  refine wX11_waits ⟨fun c1 => wX12_waits ⟨fun _ => ⟨rfl, kI⟩, fun d => absurd (by rw [e]; exact d) c1⟩, fun c1 => ⟨fun c2 => ?_, fun c2 => wX12_waits ⟨fun _ => ⟨rfl, kI⟩, fun _ => ⟨fun _ => ⟨rfl, kI⟩, fun d => absurd d c2⟩⟩⟩⟩
  rw [e] at c1
  have c1' := c1
  rw [hp.2.1] at c1'
  obtain ⟨x, hx, rfl⟩ := in_lt (by omega) c1'
  obtain ⟨t, ht, rfl⟩ := in999 c2
  refine tX9_look h ht (fun I2 hag hI2 => ⟨vp_in_nI (by omega) (by omega), ?_⟩)
  have hX := ag2_X rfl rfl hag
  have hR := Rel_agX hX h
  rw [nI_clamp (by omega), hI2 x hx]
  refine wX12_waits ⟨fun d => absurd (by rw [hX 73 rfl]; exact c1) d, fun _ => ⟨fun d => absurd c2 d, fun _ => ?_⟩⟩
  refine tX12_waitOf hR ht (by omega) (fun I3 hag3 => ⟨?_, hP I3 J (Rel_ag81 hag3 hR)⟩)
  rw [wI_X hX, nP_X hX]
def HX11_book_37 (E : aE) (P : Int32 → hI_ → hJ_ → Prop) (v2 : Int32) (v3 : Int32) (v4 : Int32) (v5 : Int32) (I : hI_) (J : hJ_) : Prop := V E mX11_book (kI SH P) 37 [.ref 0, .retAddr 0, .int v2, .int v3, .int v4, .int v5] [] (SH, I, J) (0, 0)
set_option maxHeartbeats 4000000 in
set_option maxRecDepth 20000 in
theorem wX11_book {E : aE} {P : Int32 → hI_ → hJ_ → Prop} {I : hI_} {J : hJ_} {a0 : Int32} {a1 : Int32} (k : ((¬ (0 ≤ a0 ∧ a0 ≤ 999) → P (-1 : Int32) I J) ∧ ((0 ≤ a0 ∧ a0 ≤ 999) → ((((0 : Int32) ≤ a1 ∧ a1 ≤ (1 : Int32)) → CallV E mX9_look [.ref 40, .int a0] SH I J (fun I4 J5 => HX11_book_37 E P a1 (-4 : Int32) (10000 : Int32) (0 : Int32) I4 J5)) ∧ (¬ (((0 : Int32) ≤ a1 ∧ a1 ≤ (1 : Int32))) → P (-1 : Int32) I J))))) : CallI E mX11_book [.ref 0, .int a0, .int a1] SH I J P := by
  refine Call_of (L := [.ref 0, .int a0, .int a1, .retAddr 0, .retAddr 0, .retAddr 0]) ok_X11_book.1 rfl rfl ?_
  refine V_iload_n dX11_book_0 rfl ?_
  refine U_callS1 [.int a0] dX11_book_1 os_X11_159 ⟨rfl, rfl, rfl⟩ rfl rfl rfl (tX11_isMinute ?_)
  refine U_ifb_eq dX11_book_4 (fun c1 => ?_) (fun c1 => ?_)
  · have k := k.1 c1
    refine V_iconst (v := (-1 : Int32)) dX11_book_16 rfl ?_
    exact V_iret dX11_book_17 ⟨_, rfl, rfl⟩ rfl rfl ⟨_, _, _, rfl, rfl, k⟩
  · have k := k.2 c1
    refine V_iload_n dX11_book_7 rfl ?_
    refine V_iconst (v := (0 : Int32)) dX11_book_8 rfl ?_
    refine V_iconst (v := (1 : Int32)) dX11_book_9 rfl ?_
    refine U_callS1 [.int a1, .int (0 : Int32), .int (1 : Int32)] dX11_book_10 os_X11_104 ⟨rfl, rfl, rfl⟩ rfl rfl rfl (tX11_within ?_)
    refine U_ifb_ne dX11_book_13 (fun c2 => ?_) (fun c2 => ?_)
    · have k := k.1 c2
      refine V_aload_n dX11_book_18 rfl ?_
      refine U_getR dX11_book_19 fl_X11_78 s_0 rfl ?_
      refine V_iload_n dX11_book_22 rfl ?_
      refine U_callV0 [.int a0] dX11_book_23 ov_X11_278 s_40 rfl ⟨rfl, rfl, rfl⟩ rfl rfl rfl (CallV_mono k (fun I4 J5 k => ?_))
      refine V_bipush (v := (-4 : Int32)) dX11_book_26 rfl ?_
      refine U_istore_n (L2 := [.ref 0, .int a0, .int a1, .int (-4 : Int32), .retAddr 0, .retAddr 0]) dX11_book_28 (by decide) rfl ?_
      refine V_sipush (v := (10000 : Int32)) dX11_book_29 rfl ?_
      refine U_istore (L2 := [.ref 0, .int a0, .int a1, .int (-4 : Int32), .int (10000 : Int32), .retAddr 0]) dX11_book_32 (by decide) rfl ?_
      refine V_iconst (v := (0 : Int32)) dX11_book_34 rfl ?_
      refine U_istore (L2 := [.ref 0, .int a0, .int a1, .int (-4 : Int32), .int (10000 : Int32), .int (0 : Int32)]) dX11_book_35 (by decide) rfl ?_
      exact V_wk (wk_eq (wk_j (wk_eq (wk_eq (wk_eq (wk_eq (wk_nil))))))) k
    · have k := k.2 c2
      refine V_iconst (v := (-1 : Int32)) dX11_book_16 rfl ?_
      exact V_iret dX11_book_17 ⟨_, rfl, rfl⟩ rfl rfl ⟨_, _, _, rfl, rfl, k⟩
set_option maxHeartbeats 4000000 in
set_option maxRecDepth 20000 in
theorem wX11_book_37 {E : aE} {P : Int32 → hI_ → hJ_ → Prop} {I : hI_} {J : hJ_} {v2 : Int32} {v3 : Int32} {v4 : Int32} {v5 : Int32} (k : (((I 3 6) ≤ v5 → P (if ¬ v2 = (0 : Int32) then (orN v4) else v3) I J) ∧ (¬ ((I 3 6) ≤ v5) → (vp_in v5 5) ∧ ((¬ (v4 ≤ (I 41 v5.toNatClampNeg))) → vp_in v5 5) ∧ HX11_book_37 E P v2 (if v4 ≤ (I 41 v5.toNatClampNeg) then v3 else v5) (if v4 ≤ (I 41 v5.toNatClampNeg) then v4 else (I 41 v5.toNatClampNeg)) (v5 + (1 : Int32)) I J))) : HX11_book_37 E P v2 v3 v4 v5 I J := by
  show V E mX11_book (kI SH P) 37 [.ref 0, .retAddr 0, .int v2, .int v3, .int v4, .int v5] [] (SH, I, J) (0, 0)
  refine V_iload dX11_book_37 rfl ?_
  refine V_aload_n dX11_book_39 rfl ?_
  refine U_getR dX11_book_40 fl_X11_19 s_0 rfl ?_
  refine U_getI dX11_book_43 fl_X11_129 s_3 rfl ?_
  refine V_icmp_ge dX11_book_46 (fun c1 => ?_) (fun c1 => ?_)
  · have k := k.1 c1
    refine V_iload_n dX11_book_85 rfl ?_
    have key2 : ∀ (y2003 : Int32), y2003 = (if ¬ v2 = (0 : Int32) then (orN v4) else v3) → V E mX11_book (kI SH P) 98 [.ref 0, .retAddr 0, .int v2, .int v3, .int v4, .int v5] [.int y2003] (SH, I, J) (0, 0) := by
      intro y2003 ey2003
      subst ey2003
      exact V_iret dX11_book_98 ⟨_, rfl, rfl⟩ rfl rfl ⟨_, _, _, rfl, rfl, k⟩
    refine V_if_ne dX11_book_86 (fun c2004 => ?_) (fun c2004 => ?_)
    · refine V_iload dX11_book_93 rfl ?_
      refine U_callS1 [.int v4] dX11_book_95 os_X11_166 ⟨rfl, rfl, rfl⟩ rfl rfl rfl (tX11_orNone ?_)
      exact key2 _ (by rw [if_pos c2004])
    · refine V_iload_n dX11_book_89 rfl ?_
      refine V_goto dX11_book_90 ?_
      exact key2 _ (by rw [if_neg (not_not_intro c2004)])
  · have k := k.2 c1
    refine V_aload_n dX11_book_49 rfl ?_
    refine U_getR dX11_book_50 fl_X11_78 s_0 rfl ?_
    refine U_getR dX11_book_53 fl_X11_281 s_40 rfl ?_
    refine V_iload dX11_book_56 rfl ?_
    obtain ⟨hb2005, k⟩ := k
    refine U_iald dX11_book_58 s_41 hb2005 ?_
    refine V_iload dX11_book_59 rfl ?_
    obtain ⟨hc4010, k⟩ := k
    have key2006 : ∀ (y4008 : Int32) (y4009 : Int32), y4008 = (if v4 ≤ (I 41 v5.toNatClampNeg) then v3 else v5) → y4009 = (if v4 ≤ (I 41 v5.toNatClampNeg) then v4 else (I 41 v5.toNatClampNeg)) → V E mX11_book (kI SH P) 79 [.ref 0, .retAddr 0, .int v2, .int y4008, .int y4009, .int v5] [] (SH, I, J) (0, 0) := by
      intro y4008 y4009 ey4008 ey4009
      subst ey4008
      subst ey4009
      refine U_iinc (v := v5 + (1 : Int32)) (L2 := [.ref 0, .retAddr 0, .int v2, .int (if v4 ≤ (I 41 v5.toNatClampNeg) then v3 else v5), .int (if v4 ≤ (I 41 v5.toNatClampNeg) then v4 else (I 41 v5.toNatClampNeg)), .int (v5 + (1 : Int32))]) dX11_book_79 (by decide) rfl rfl rfl ?_
      refine V_goto dX11_book_82 ?_
      exact k
    refine V_icmp_ge dX11_book_61 (fun c4011 => ?_) (fun c4011 => ?_)
    · exact key2006 _ _ (by rw [if_pos c4011]) (by rw [if_pos c4011])
    · refine V_iload dX11_book_64 rfl ?_
      refine U_istore_n (L2 := [.ref 0, .retAddr 0, .int v2, .int v5, .int v4, .int v5]) dX11_book_66 (by decide) rfl ?_
      refine V_aload_n dX11_book_67 rfl ?_
      refine U_getR dX11_book_68 fl_X11_78 s_0 rfl ?_
      refine U_getR dX11_book_71 fl_X11_281 s_40 rfl ?_
      refine V_iload dX11_book_74 rfl ?_
      have hb4007 := hc4010 c4011
      refine U_iald dX11_book_76 s_41 hb4007 ?_
      refine U_istore (L2 := [.ref 0, .retAddr 0, .int v2, .int v5, .int (I 41 v5.toNatClampNeg), .int v5]) dX11_book_77 (by decide) rfl ?_
      exact key2006 _ _ (by rw [if_neg c4011]) (by rw [if_neg c4011])
def HX12_book_30 (E : aE) (P : Int32 → hI_ → hJ_ → Prop) (v1 : Int32) (v2 : Int32) (v3 : Int32) (v4 : Int32) (v5 : Int32) (I : hI_) (J : hJ_) : Prop := V E mX12_book (kI SH P) 30 [.ref 68, .int v1, .int v2, .int v3, .int v4, .int v5, .retAddr 0] [] (SH, I, J) (0, 0)
set_option maxHeartbeats 4000000 in
set_option maxRecDepth 20000 in
theorem wX12_book {E : aE} {P : Int32 → hI_ → hJ_ → Prop} {I : hI_} {J : hJ_} {a0 : Int32} {a1 : Int32} (k : ((¬ (0 ≤ a0 ∧ a0 ≤ 999) → P (-1 : Int32) I J) ∧ ((0 ≤ a0 ∧ a0 ≤ 999) → ((((0 : Int32) ≤ a1 ∧ a1 ≤ (1 : Int32)) → HX12_book_30 E P a0 a1 (-4 : Int32) (10000 : Int32) (0 : Int32) I J) ∧ (¬ (((0 : Int32) ≤ a1 ∧ a1 ≤ (1 : Int32))) → P (-1 : Int32) I J))))) : CallI E mX12_book [.ref 68, .int a0, .int a1] SH I J P := by
  refine Call_of (L := [.ref 68, .int a0, .int a1, .retAddr 0, .retAddr 0, .retAddr 0, .retAddr 0]) ok_X12_book.1 rfl rfl ?_
  refine V_iload_n dX12_book_0 rfl ?_
  refine U_callS1 [.int a0] dX12_book_1 os_X12_179 ⟨rfl, rfl, rfl⟩ rfl rfl rfl (tX12_isMinute ?_)
  refine U_ifb_eq dX12_book_4 (fun c1 => ?_) (fun c1 => ?_)
  · have k := k.1 c1
    refine V_iconst (v := (-1 : Int32)) dX12_book_17 rfl ?_
    exact V_iret dX12_book_18 ⟨_, rfl, rfl⟩ rfl rfl ⟨_, _, _, rfl, rfl, k⟩
  · have k := k.2 c1
    refine V_iload_n dX12_book_7 rfl ?_
    refine V_i2l dX12_book_8 ?_
    refine V_lconst (v := (0 : Int64)) dX12_book_9 rfl ?_
    refine V_lconst (v := (1 : Int64)) dX12_book_10 rfl ?_
    refine U_callS1 [.long a1.toInt64, .long (0 : Int64), .long (1 : Int64)] dX12_book_11 os_X12_91 ⟨rfl, rfl, rfl⟩ rfl rfl rfl (tX12_in32 (v := a1) (lo := (0 : Int32)) (hi := (1 : Int32)) rfl (by decide) (by decide) ?_)
    refine U_ifb_ne dX12_book_14 (fun c2 => ?_) (fun c2 => ?_)
    · have k := k.1 c2
      refine V_bipush (v := (-4 : Int32)) dX12_book_19 rfl ?_
      refine U_istore_n (L2 := [.ref 68, .int a0, .int a1, .int (-4 : Int32), .retAddr 0, .retAddr 0, .retAddr 0]) dX12_book_21 (by decide) rfl ?_
      refine V_sipush (v := (10000 : Int32)) dX12_book_22 rfl ?_
      refine U_istore (L2 := [.ref 68, .int a0, .int a1, .int (-4 : Int32), .int (10000 : Int32), .retAddr 0, .retAddr 0]) dX12_book_25 (by decide) rfl ?_
      refine V_iconst (v := (0 : Int32)) dX12_book_27 rfl ?_
      refine U_istore (L2 := [.ref 68, .int a0, .int a1, .int (-4 : Int32), .int (10000 : Int32), .int (0 : Int32), .retAddr 0]) dX12_book_28 (by decide) rfl ?_
      exact k
    · have k := k.2 c2
      refine V_iconst (v := (-1 : Int32)) dX12_book_17 rfl ?_
      exact V_iret dX12_book_18 ⟨_, rfl, rfl⟩ rfl rfl ⟨_, _, _, rfl, rfl, k⟩
set_option maxHeartbeats 4000000 in
set_option maxRecDepth 20000 in
theorem wX12_book_30 {E : aE} {P : Int32 → hI_ → hJ_ → Prop} {I : hI_} {J : hJ_} {v1 : Int32} {v2 : Int32} {v3 : Int32} {v4 : Int32} {v5 : Int32} (k : (((I 73 0) ≤ v5 → P (if ¬ v2 = (0 : Int32) then (orN v4) else v3) I J) ∧ (¬ ((I 73 0) ≤ v5) → CallI E mX12_waitOf [.ref 68, .int v5, .int v1] SH I J (fun x2005 I2006 J2007 => HX12_book_30 E P v1 v2 (if v4 ≤ x2005 then v3 else v5) (if v4 ≤ x2005 then v4 else x2005) (v5 + (1 : Int32)) I2006 J2007)))) : HX12_book_30 E P v1 v2 v3 v4 v5 I J := by
  show V E mX12_book (kI SH P) 30 [.ref 68, .int v1, .int v2, .int v3, .int v4, .int v5, .retAddr 0] [] (SH, I, J) (0, 0)
  refine V_iload dX12_book_30 rfl ?_
  refine V_aload_n dX12_book_32 rfl ?_
  refine U_getR dX12_book_33 fl_X12_22 s_68 rfl ?_
  refine V_iconst (v := (0 : Int32)) dX12_book_36 rfl ?_
  refine U_ialdx (x := I 73 0) dX12_book_37 s_73 (by unfold vp_in; decide) rfl ?_
  refine V_icmp_ge dX12_book_38 (fun c1 => ?_) (fun c1 => ?_)
  · have k := k.1 c1
    refine V_iload_n dX12_book_86 rfl ?_
    have key2 : ∀ (y2003 : Int32), y2003 = (if ¬ v2 = (0 : Int32) then (orN v4) else v3) → V E mX12_book (kI SH P) 99 [.ref 68, .int v1, .int v2, .int v3, .int v4, .int v5, .retAddr 0] [.int y2003] (SH, I, J) (0, 0) := by
      intro y2003 ey2003
      subst ey2003
      exact V_iret dX12_book_99 ⟨_, rfl, rfl⟩ rfl rfl ⟨_, _, _, rfl, rfl, k⟩
    refine V_if_ne dX12_book_87 (fun c2004 => ?_) (fun c2004 => ?_)
    · refine V_iload dX12_book_94 rfl ?_
      refine U_callS1 [.int v4] dX12_book_96 os_X12_185 ⟨rfl, rfl, rfl⟩ rfl rfl rfl (tX12_orNone ?_)
      exact key2 _ (by rw [if_pos c2004])
    · refine V_iload_n dX12_book_90 rfl ?_
      refine V_goto dX12_book_91 ?_
      exact key2 _ (by rw [if_neg (not_not_intro c2004)])
  · have k := k.2 c1
    refine V_aload_n dX12_book_41 rfl ?_
    refine V_iload dX12_book_42 rfl ?_
    refine V_iload_n dX12_book_44 rfl ?_
    refine U_callV1 [.int v5, .int v1] dX12_book_45 ov_X12_275 s_68 rfl ⟨rfl, rfl, rfl⟩ rfl rfl rfl (CallI_mono k (fun x2005 I2006 J2007 k => ?_))
    refine U_istore (L2 := [.ref 68, .int v1, .int v2, .int v3, .int v4, .int v5, .int x2005]) dX12_book_48 (by decide) rfl ?_
    refine V_iload dX12_book_50 rfl ?_
    refine V_iload dX12_book_52 rfl ?_
    have key2008 : ∀ (y4009 : Int32), y4009 = (if v4 ≤ x2005 then v3 else v5) → V E mX12_book (kI SH P) 63 [.ref 68, .int v1, .int v2, .int v3, .int v4, .int v5, .int x2005] [.int y4009] (SH, I2006, J2007) (0, 0) := by
      intro y4009 ey4009
      subst ey4009
      refine U_istore_n (L2 := [.ref 68, .int v1, .int v2, .int (if v4 ≤ x2005 then v3 else v5), .int v4, .int v5, .int x2005]) dX12_book_63 (by decide) rfl ?_
      refine V_iload dX12_book_64 rfl ?_
      refine V_iload dX12_book_66 rfl ?_
      have key4010 : ∀ (y6011 : Int32), y6011 = (if v4 ≤ x2005 then v4 else x2005) → V E mX12_book (kI SH P) 78 [.ref 68, .int v1, .int v2, .int (if v4 ≤ x2005 then v3 else v5), .int v4, .int v5, .int x2005] [.int y6011] (SH, I2006, J2007) (0, 0) := by
        intro y6011 ey6011
        subst ey6011
        refine U_istore (L2 := [.ref 68, .int v1, .int v2, .int (if v4 ≤ x2005 then v3 else v5), .int (if v4 ≤ x2005 then v4 else x2005), .int v5, .int x2005]) dX12_book_78 (by decide) rfl ?_
        refine U_iinc (v := v5 + (1 : Int32)) (L2 := [.ref 68, .int v1, .int v2, .int (if v4 ≤ x2005 then v3 else v5), .int (if v4 ≤ x2005 then v4 else x2005), .int (v5 + (1 : Int32)), .int x2005]) dX12_book_80 (by decide) rfl rfl rfl ?_
        refine V_goto dX12_book_83 ?_
        exact V_wk (wk_eq (wk_eq (wk_eq (wk_eq (wk_eq (wk_eq (wk_j (wk_nil)))))))) k
      refine V_icmp_ge dX12_book_68 (fun c6012 => ?_) (fun c6012 => ?_)
      · refine V_iload dX12_book_76 rfl ?_
        exact key4010 _ (by rw [if_pos c6012])
      · refine V_iload dX12_book_71 rfl ?_
        refine V_goto dX12_book_73 ?_
        exact key4010 _ (by rw [if_neg c6012])
    refine V_icmp_ge dX12_book_54 (fun c6013 => ?_) (fun c6013 => ?_)
    · refine V_iload_n dX12_book_62 rfl ?_
      exact key2008 _ (by rw [if_pos c6013])
    · refine V_iload dX12_book_57 rfl ?_
      refine V_goto dX12_book_59 ?_
      exact key2008 _ (by rw [if_neg c6013])
noncomputable def bkS (w : Wld) (t n : Nat) : Nat → Int32 × Int32
  | 0 => (-4, 10000)
  | p + 1 => if (bkS w t n p).2 ≤ nI (wt w t p n) then bkS w t n p else (nI p, nI (wt w t p n))
theorem bookX_loop {E : aE} {P : Int32 → hI_ → hJ_ → Prop} {I : hI_} {J : hJ_} {t : Nat} {q : Int32} (h : Rel I) (hI : ∀ j, j < nP I → I 41 j = nI (wt (wI I) t j (nP I))) (k : P (if ¬ q = 0 then orN (bkS (wI I) t (nP I) (nP I)).2 else (bkS (wI I) t (nP I) (nP I)).1) I J) : ∀ (m p : Nat), p + m = nP I → HX11_book_37 E P q (bkS (wI I) t (nP I) p).1 (bkS (wI I) t (nP I) p).2 (nI p) I J
  | 0, p, hp => by
    have hP := Rel_P h
    have e : p = nP I := by omega
    refine wX11_book_37 ?_
    rw [hP.1, e]
    exact ⟨fun _ => k, fun z => absurd (nI_le (by omega) (by omega)) z⟩
  | m + 1, p, hp => by
    have hP := Rel_P h
    have v5 : vp_in (nI p) 5 := vp_in_nI (by omega) (by omega)
    refine wX11_book_37 ?_
    rw [hP.1, nI_clamp (by omega), hI p (by omega), nI_1]
    refine ⟨fun z => absurd z (nI_ge (by omega) (by omega)), fun _ => ⟨v5, fun _ => v5, ?_⟩⟩
    have := bookX_loop (E := E) h hI k m (p + 1) (by omega)
    have e1 : bkS (wI I) t (nP I) (p + 1) = if (bkS (wI I) t (nP I) p).2 ≤ nI (wt (wI I) t p (nP I)) then bkS (wI I) t (nP I) p else (nI p, nI (wt (wI I) t p (nP I))) := rfl
    rw [e1] at this
    by_cases z : (bkS (wI I) t (nP I) p).2 ≤ nI (wt (wI I) t p (nP I))
    · rw [if_pos z] at this
      rw [if_pos z, if_pos z]; exact this
    · rw [if_neg z] at this
      rw [if_neg z, if_neg z]; exact this
theorem bookM_loop {E : aE} {P : Int32 → hI_ → hJ_ → Prop} {I0 : hI_} {J : hJ_} {t : Nat} {q : Int32} (h : Rel I0) (ht : t ≤ 999) (k : ∀ I2, ag1 81 I0 I2 → P (if ¬ q = 0 then orN (bkS (wI I0) t (nP I0) (nP I0)).2 else (bkS (wI I0) t (nP I0) (nP I0)).1) I2 J) : ∀ (m p : Nat) (I : hI_), p + m = nP I0 → ag1 81 I0 I → HX12_book_30 E P (nI t) q (bkS (wI I0) t (nP I0) p).1 (bkS (wI I0) t (nP I0) p).2 (nI p) I J
  | 0, p, I, hp, hag => by
    have hP := Rel_P h
    have e : p = nP I0 := by omega
    refine wX12_book_30 ?_
    rw [hag 73 (by omega), hP.2.1, e]
    exact ⟨fun _ => k I hag, fun z => absurd (nI_le (by omega) (by omega)) z⟩
  | m + 1, p, I, hp, hag => by
    have hP := Rel_P h
    have hM := ag1_M rfl (by omega) hag
    have hR := Rel_agM hM h
    refine wX12_book_30 ?_
    rw [hag 73 (by omega), hP.2.1]
    refine ⟨fun z => absurd z (nI_ge (by omega) (by omega)), fun _ => ?_⟩
    refine tX12_waitOf hR ht (by omega) (fun I2 hag2 => ?_)
    rw [wI_M hM, nP_M hM, nI_1]
    have := bookM_loop (E := E) h ht k m (p + 1) I2 (by omega) (ag1_tr hag hag2)
    have e1 : bkS (wI I0) t (nP I0) (p + 1) = if (bkS (wI I0) t (nP I0) p).2 ≤ nI (wt (wI I0) t p (nP I0)) then bkS (wI I0) t (nP I0) p else (nI p, nI (wt (wI I0) t p (nP I0))) := rfl
    rw [e1] at this
    by_cases z : (bkS (wI I0) t (nP I0) p).2 ≤ nI (wt (wI I0) t p (nP I0))
    · rw [if_pos z] at this
      rw [if_pos z, if_pos z]; exact this
    · rw [if_neg z] at this
      rw [if_neg z, if_neg z]; exact this
theorem op_book {E : aE} {I : hI_} {J : hJ_} {P : hI_ → hJ_ → Prop} {a0 a1 : Int32} (h : Rel I) (hP : ∀ I2 J2, Rel I2 → P I2 J2) : Op2 E mX11_book mX12_book [.int a0, .int a1] I J P := by
  have kI := hP I J h
  refine wX11_book ⟨fun c1 => wX12_book ⟨fun _ => ⟨rfl, kI⟩, fun d => absurd d c1⟩, fun c1 => ⟨fun c2 => ?_, fun c2 => wX12_book ⟨fun _ => ⟨rfl, kI⟩, fun _ => ⟨fun d => absurd d c2, fun _ => ⟨rfl, kI⟩⟩⟩⟩⟩
  obtain ⟨t, ht, rfl⟩ := in999 c1
  refine tX9_look h ht (fun I2 hag hI2 => ?_)
  have hX := ag2_X rfl rfl hag
  have hR := Rel_agX hX h
  rw [← nP_X hX, ← wI_X hX] at hI2
  refine bookX_loop hR hI2 ?_ (nP I2) 0 (by omega)
  refine wX12_book ⟨fun d => absurd c1 d, fun _ => ⟨fun _ => ?_, fun d => absurd c2 d⟩⟩
  exact bookM_loop hR ht (fun I3 hag3 => ⟨rfl, hP I3 J (Rel_ag81 hag3 hR)⟩) (nP I2) 0 I2 (by omega) ag1_rf
