def qN (I : hI_) (c : Nat) : Nat := (cK I c 0).toInt.toNat
theorem cK_q {I : hI_} (h : Rel I) {c : Nat} (hc : c < nC I) : cK I c 0 = nI (qN I c) ∧ qN I c < nP I := by
  have hb := (cK_bet h hc).1
  exact ⟨ofT hb.1, by unfold qN; have := hb.1; have := hb.2; omega⟩
theorem bkN_le {I : hI_} (h : Rel I) {c : Nat} (hc : c < nC I) : bkN I c ≤ 10000 := by
  rcases cK_back h hc with ⟨h1, -⟩ | ⟨-, h1, -⟩ <;> omega
set_option maxHeartbeats 4000000 in
set_option maxRecDepth 20000 in
theorem wX12_seenBy {E : aE} {P : Int32 → hI_ → hJ_ → Prop} {I : hI_} {J : hJ_} {a0 : Int32} {a1 : Int32} {a2 : Int32} (k : (inC a0 (0 : Int32)) ∧ ((¬ a2 = (0 : Int32)) → inC a0 7) ∧ ((a2 = (0 : Int32)) → inC a0 (1 : Int32)) ∧ CallI E mX12_news [.ref 68, .int (its I a0 (0 : Int32)), .int a1, .int (if ¬ a2 = (0 : Int32) then (tbk I a0) else (its I a0 (1 : Int32)))] SH I J (fun x2008 I2009 J2010 => P x2008 I2009 J2010)) : CallI E mX12_seenBy [.ref 68, .int a0, .int a1, .int a2] SH I J P := by
  refine Call_of (L := [.ref 68, .int a0, .int a1, .int a2]) ok_X12_seenBy.1 rfl rfl ?_
  refine V_aload_n dX12_seenBy_0 rfl ?_
  refine V_aload_n dX12_seenBy_1 rfl ?_
  refine V_iload_n dX12_seenBy_2 rfl ?_
  refine V_iconst (v := (0 : Int32)) dX12_seenBy_3 rfl ?_
  obtain ⟨hp1, k⟩ := k
  refine U_callV1 [.int a0, .int (0 : Int32)] dX12_seenBy_4 ov_X12_202 s_68 rfl ⟨rfl, rfl, rfl⟩ rfl rfl rfl (tX12_its hp1 ?_)
  refine V_iload_n dX12_seenBy_7 rfl ?_
  refine V_iload_n dX12_seenBy_8 rfl ?_
  obtain ⟨hc2006, hc2007, k⟩ := k
  have key2 : ∀ (y2005 : Int32), y2005 = (if ¬ a2 = (0 : Int32) then (tbk I a0) else (its I a0 (1 : Int32))) → V E mX12_seenBy (kI SH P) 26 [.ref 68, .int a0, .int a1, .int a2] [.int y2005, .int a1, .int (its I a0 (0 : Int32)), .ref 68] (SH, I, J) (0, 0) := by
    intro y2005 ey2005
    subst ey2005
    refine U_callV1 [.int (its I a0 (0 : Int32)), .int a1, .int (if ¬ a2 = (0 : Int32) then (tbk I a0) else (its I a0 (1 : Int32)))] dX12_seenBy_26 ov_X12_182 s_68 rfl ⟨rfl, rfl, rfl⟩ rfl rfl rfl (CallI_mono k (fun x2008 I2009 J2010 k => ?_))
    exact V_iret dX12_seenBy_29 ⟨_, rfl, rfl⟩ rfl rfl ⟨_, _, _, rfl, rfl, k⟩
  refine V_if_ne dX12_seenBy_9 (fun c2011 => ?_) (fun c2011 => ?_)
  · refine V_aload_n dX12_seenBy_21 rfl ?_
    refine V_iload_n dX12_seenBy_22 rfl ?_
    have hp1003 := hc2006 c2011
    refine U_callV1 [.int a0] dX12_seenBy_23 ov_X12_210 s_68 rfl ⟨rfl, rfl, rfl⟩ rfl rfl rfl (tX12_takenBack hp1003 ?_)
    exact key2 _ (by rw [if_pos c2011])
  · refine V_aload_n dX12_seenBy_12 rfl ?_
    refine V_iload_n dX12_seenBy_13 rfl ?_
    refine V_iconst (v := (1 : Int32)) dX12_seenBy_14 rfl ?_
    have hp2004 := hc2007 c2011
    refine U_callV1 [.int a0, .int (1 : Int32)] dX12_seenBy_15 ov_X12_202 s_68 rfl ⟨rfl, rfl, rfl⟩ rfl rfl rfl (tX12_its hp2004 ?_)
    refine V_goto dX12_seenBy_18 ?_
    exact key2 _ (by rw [if_neg (not_not_intro c2011)])
theorem tX12_seenBy {E : aE} {P : Int32 → hI_ → hJ_ → Prop} {I : hI_} {J : hJ_} {c p : Nat} {q : Int32} (h : Rel I) (hc : c < nC I) (hp : p < 5) (k : ∀ I2, ag1 81 I I2 → P (nI (arr (wI I) (qN I c) (if q = 0 then mN I c else bkN I c) p)) I2 J) : CallI E mX12_seenBy [.ref 68, .int (nI c), .int (nI p), .int q] SH I J P := by
  have hC := (Rel_C h).2.2
  have hP := (Rel_P h).2.2
  have i : ∀ j, j < 8 → inC (nI c) (nI j) := fun j hj => inC_nI (by omega) hj
  have e0 : its I (nI c) 0 = cK I c 0 := its_cK (j := 0) (by omega) (by omega)
  have e1 : its I (nI c) 1 = cK I c 1 := its_cK (j := 1) (by omega) (by omega)
  have hq := cK_q h hc
  have hm := cK_min h hc
  have hb := bkN_le h hc
  refine wX12_seenBy ⟨i 0 (by omega), fun _ => i 7 (by omega), fun _ => i 1 (by omega), ?_⟩
  have et : (if ¬ q = 0 then tbk I (nI c) else its I (nI c) 1) = nI (if q = 0 then mN I c else bkN I c) := by
    rw [tbk_N h hc, e1, hm.1]
    by_cases z : q = 0
    · rw [if_neg (fun w => w z), if_pos z]
    · rw [if_pos z, if_neg z]
  rw [e0, hq.1, et]
  exact tX12_news h (by omega) hp (by split <;> omega) k
set_option maxHeartbeats 4000000 in
set_option maxRecDepth 20000 in
theorem wX11_seen {E : aE} {P : Int32 → hI_ → hJ_ → Prop} {I : hI_} {J : hJ_} {a0 : Int32} {a1 : Int32} {a2 : Int32} (k : ((¬ (0 ≤ a0 ∧ a0 ≤ I 24 3 - 1) → P (-1 : Int32) I J) ∧ ((0 ≤ a0 ∧ a0 ≤ I 24 3 - 1) → ((¬ (0 ≤ a1 ∧ a1 ≤ I 3 6 - 1) → P (-1 : Int32) I J) ∧ ((0 ≤ a1 ∧ a1 ≤ I 3 6 - 1) → ((((0 : Int32) ≤ a2 ∧ a2 ≤ (1 : Int32)) → (rok I 24 8 12) ∧ (((0 : Int32) ≤ (rat I 24 25 a0 (if ¬ a2 = (0 : Int32) then (7 : Int32) else (1 : Int32))) → (rok I 24 8 12) ∧ CallI E mX2_arrival [.ref 18, .int (rat I 24 25 a0 (0 : Int32)), .int a1, .int (rat I 24 25 a0 (if ¬ a2 = (0 : Int32) then (7 : Int32) else (1 : Int32)))] SH I J (fun x2009 I2010 J2011 => P (orN x2009) I2010 J2011)) ∧ (¬ ((0 : Int32) ≤ (rat I 24 25 a0 (if ¬ a2 = (0 : Int32) then (7 : Int32) else (1 : Int32)))) → P (-4 : Int32) I J))) ∧ (¬ (((0 : Int32) ≤ a2 ∧ a2 ≤ (1 : Int32))) → P (-1 : Int32) I J))))))) : CallI E mX11_seen [.ref 0, .int a0, .int a1, .int a2] SH I J P := by
  refine Call_of (L := [.ref 0, .int a0, .int a1, .int a2, .retAddr 0]) ok_X11_seen.1 rfl rfl ?_
  refine V_aload_n dX11_seen_0 rfl ?_
  refine V_iload_n dX11_seen_1 rfl ?_
  refine U_callV1 [.int a0] dX11_seen_2 ov_X11_206 s_0 rfl ⟨rfl, rfl, rfl⟩ rfl rfl rfl (tX11_isCall ?_)
  refine U_ifb_eq dX11_seen_5 (fun c1 => ?_) (fun c1 => ?_)
  · have k := k.1 c1
    refine V_iconst (v := (-1 : Int32)) dX11_seen_25 rfl ?_
    exact V_iret dX11_seen_26 ⟨_, rfl, rfl⟩ rfl rfl ⟨_, _, _, rfl, rfl, k⟩
  · have k := k.2 c1
    refine V_aload_n dX11_seen_8 rfl ?_
    refine V_iload_n dX11_seen_9 rfl ?_
    refine U_callV1 [.int a1] dX11_seen_10 ov_X11_148 s_0 rfl ⟨rfl, rfl, rfl⟩ rfl rfl rfl (tX11_isPlace ?_)
    refine U_ifb_eq dX11_seen_13 (fun c2 => ?_) (fun c2 => ?_)
    · have k := k.1 c2
      refine V_iconst (v := (-1 : Int32)) dX11_seen_25 rfl ?_
      exact V_iret dX11_seen_26 ⟨_, rfl, rfl⟩ rfl rfl ⟨_, _, _, rfl, rfl, k⟩
    · have k := k.2 c2
      refine V_iload_n dX11_seen_16 rfl ?_
      refine V_iconst (v := (0 : Int32)) dX11_seen_17 rfl ?_
      refine V_iconst (v := (1 : Int32)) dX11_seen_18 rfl ?_
      refine U_callS1 [.int a2, .int (0 : Int32), .int (1 : Int32)] dX11_seen_19 os_X11_104 ⟨rfl, rfl, rfl⟩ rfl rfl rfl (tX11_within ?_)
      refine U_ifb_ne dX11_seen_22 (fun c3 => ?_) (fun c3 => ?_)
      · have k := k.1 c3
        refine V_aload_n dX11_seen_27 rfl ?_
        refine U_getR dX11_seen_28 fl_X11_47 s_0 rfl ?_
        refine U_getR dX11_seen_31 fl_X11_203 s_21 rfl ?_
        refine V_iload_n dX11_seen_34 rfl ?_
        refine V_iload_n dX11_seen_35 rfl ?_
        have key4 : ∀ (y2005 : Int32), y2005 = (if ¬ a2 = (0 : Int32) then (7 : Int32) else (1 : Int32)) → V E mX11_seen (kI SH P) 45 [.ref 0, .int a0, .int a1, .int a2, .retAddr 0] [.int y2005, .int a0, .ref 24] (SH, I, J) (0, 0) := by
          intro y2005 ey2005
          subst ey2005
          obtain ⟨hp2006, k⟩ := k
          refine U_callV1 [.int a0, .int (if ¬ a2 = (0 : Int32) then (7 : Int32) else (1 : Int32))] dX11_seen_45 ov_X11_209 s_24 rfl ⟨rfl, rfl, rfl⟩ rfl rfl rfl (tX5_at s_24 s_25 (by decide) hp2006 ?_)
          refine U_istore (L2 := [.ref 0, .int a0, .int a1, .int a2, .int (rat I 24 25 a0 (if ¬ a2 = (0 : Int32) then (7 : Int32) else (1 : Int32)))]) dX11_seen_48 (by decide) rfl ?_
          refine V_iload dX11_seen_50 rfl ?_
          refine V_if_ge dX11_seen_52 (fun c2007 => ?_) (fun c2007 => ?_)
          · have k := k.1 c2007
            refine V_aload_n dX11_seen_60 rfl ?_
            refine U_getR dX11_seen_61 fl_X11_40 s_0 rfl ?_
            refine V_aload_n dX11_seen_64 rfl ?_
            refine U_getR dX11_seen_65 fl_X11_47 s_0 rfl ?_
            refine U_getR dX11_seen_68 fl_X11_203 s_21 rfl ?_
            refine V_iload_n dX11_seen_71 rfl ?_
            refine V_iconst (v := (0 : Int32)) dX11_seen_72 rfl ?_
            obtain ⟨hp2008, k⟩ := k
            refine U_callV1 [.int a0, .int (0 : Int32)] dX11_seen_73 ov_X11_209 s_24 rfl ⟨rfl, rfl, rfl⟩ rfl rfl rfl (tX5_at s_24 s_25 (by decide) hp2008 ?_)
            refine V_iload_n dX11_seen_76 rfl ?_
            refine V_iload dX11_seen_77 rfl ?_
            refine U_callV1 [.int (rat I 24 25 a0 (0 : Int32)), .int a1, .int (rat I 24 25 a0 (if ¬ a2 = (0 : Int32) then (7 : Int32) else (1 : Int32)))] dX11_seen_79 ov_X11_162 s_18 rfl ⟨rfl, rfl, rfl⟩ rfl rfl rfl (CallI_mono k (fun x2009 I2010 J2011 k => ?_))
            refine U_callS1 [.int x2009] dX11_seen_82 os_X11_166 ⟨rfl, rfl, rfl⟩ rfl rfl rfl (tX11_orNone ?_)
            exact V_iret dX11_seen_85 ⟨_, rfl, rfl⟩ rfl rfl ⟨_, _, _, rfl, rfl, k⟩
          · have k := k.2 c2007
            refine V_bipush (v := (-4 : Int32)) dX11_seen_55 rfl ?_
            refine V_goto dX11_seen_57 ?_
            exact V_iret dX11_seen_85 ⟨_, rfl, rfl⟩ rfl rfl ⟨_, _, _, rfl, rfl, k⟩
        refine V_if_ne dX11_seen_36 (fun c2012 => ?_) (fun c2012 => ?_)
        · refine V_bipush (v := (7 : Int32)) dX11_seen_43 rfl ?_
          exact key4 _ (by rw [if_pos c2012])
        · refine V_iconst (v := (1 : Int32)) dX11_seen_39 rfl ?_
          refine V_goto dX11_seen_40 ?_
          exact key4 _ (by rw [if_neg (not_not_intro c2012)])
      · have k := k.2 c3
        refine V_iconst (v := (-1 : Int32)) dX11_seen_25 rfl ?_
        exact V_iret dX11_seen_26 ⟨_, rfl, rfl⟩ rfl rfl ⟨_, _, _, rfl, rfl, k⟩
set_option maxHeartbeats 4000000 in
set_option maxRecDepth 20000 in
theorem wX12_seen {E : aE} {P : Int32 → hI_ → hJ_ → Prop} {I : hI_} {J : hJ_} {a0 : Int32} {a1 : Int32} {a2 : Int32} (k : ((¬ (0 ≤ a0 ∧ a0 ≤ I 82 281 - 1) → P (-1 : Int32) I J) ∧ ((0 ≤ a0 ∧ a0 ≤ I 82 281 - 1) → ((¬ (0 ≤ a1 ∧ a1 ≤ I 73 0 - 1) → P (-1 : Int32) I J) ∧ ((0 ≤ a1 ∧ a1 ≤ I 73 0 - 1) → ((¬ ((0 : Int32) ≤ a2 ∧ a2 ≤ (1 : Int32)) → P (-1 : Int32) I J) ∧ (((0 : Int32) ≤ a2 ∧ a2 ≤ (1 : Int32)) → CallI E mX12_seenBy [.ref 68, .int a0, .int a1, .int a2] SH I J (fun x4 I5 J6 => P (orN x4) I5 J6)))))))) : CallI E mX12_seen [.ref 68, .int a0, .int a1, .int a2] SH I J P := by
  refine Call_of (L := [.ref 68, .int a0, .int a1, .int a2]) ok_X12_seen.1 rfl rfl ?_
  refine V_aload_n dX12_seen_0 rfl ?_
  refine V_iload_n dX12_seen_1 rfl ?_
  refine U_callV1 [.int a0] dX12_seen_2 ov_X12_207 s_68 rfl ⟨rfl, rfl, rfl⟩ rfl rfl rfl (tX12_isCall ?_)
  refine U_ifb_eq dX12_seen_5 (fun c1 => ?_) (fun c1 => ?_)
  · have k := k.1 c1
    refine V_iconst (v := (-1 : Int32)) dX12_seen_39 rfl ?_
    exact V_iret dX12_seen_40 ⟨_, rfl, rfl⟩ rfl rfl ⟨_, _, _, rfl, rfl, k⟩
  · have k := k.2 c1
    refine V_aload_n dX12_seen_8 rfl ?_
    refine V_iload_n dX12_seen_9 rfl ?_
    refine U_callV1 [.int a1] dX12_seen_10 ov_X12_167 s_68 rfl ⟨rfl, rfl, rfl⟩ rfl rfl rfl (tX12_isPlace ?_)
    refine U_ifb_eq dX12_seen_13 (fun c2 => ?_) (fun c2 => ?_)
    · have k := k.1 c2
      refine V_iconst (v := (-1 : Int32)) dX12_seen_39 rfl ?_
      exact V_iret dX12_seen_40 ⟨_, rfl, rfl⟩ rfl rfl ⟨_, _, _, rfl, rfl, k⟩
    · have k := k.2 c2
      refine V_iload_n dX12_seen_16 rfl ?_
      refine V_i2l dX12_seen_17 ?_
      refine V_lconst (v := (0 : Int64)) dX12_seen_18 rfl ?_
      refine V_lconst (v := (1 : Int64)) dX12_seen_19 rfl ?_
      refine U_callS1 [.long a2.toInt64, .long (0 : Int64), .long (1 : Int64)] dX12_seen_20 os_X12_91 ⟨rfl, rfl, rfl⟩ rfl rfl rfl (tX12_in32 (v := a2) (lo := (0 : Int32)) (hi := (1 : Int32)) rfl (by decide) (by decide) ?_)
      refine U_ifb_eq dX12_seen_23 (fun c3 => ?_) (fun c3 => ?_)
      · have k := k.1 c3
        refine V_iconst (v := (-1 : Int32)) dX12_seen_39 rfl ?_
        exact V_iret dX12_seen_40 ⟨_, rfl, rfl⟩ rfl rfl ⟨_, _, _, rfl, rfl, k⟩
      · have k := k.2 c3
        refine V_aload_n dX12_seen_26 rfl ?_
        refine V_iload_n dX12_seen_27 rfl ?_
        refine V_iload_n dX12_seen_28 rfl ?_
        refine V_iload_n dX12_seen_29 rfl ?_
        refine U_callV1 [.int a0, .int a1, .int a2] dX12_seen_30 ov_X12_231 s_68 rfl ⟨rfl, rfl, rfl⟩ rfl rfl rfl (CallI_mono k (fun x4 I5 J6 k => ?_))
        refine U_callS1 [.int x4] dX12_seen_33 os_X12_185 ⟨rfl, rfl, rfl⟩ rfl rfl rfl (tX12_orNone ?_)
        refine V_goto dX12_seen_36 ?_
        exact V_iret dX12_seen_40 ⟨_, rfl, rfl⟩ rfl rfl ⟨_, _, _, rfl, rfl, k⟩
theorem op_seen {E : aE} {I : hI_} {J : hJ_} {P : hI_ → hJ_ → Prop} {c p q : Int32} (h : Rel I) (hP : ∀ I2 J2, Rel I2 → P I2 J2) : Op2 E mX11_seen mX12_seen [.int c, .int p, .int q] I J P := by
  have hp := Rel_P h
  have hC := Rel_C h
  have e := Rel_pl h
  have ec := Rel_nc h
  have hr := (Rel_rows h).2.1
  have bad : ¬ ((0 ≤ c ∧ c ≤ I 82 281 - 1) ∧ (0 ≤ p ∧ p ≤ I 73 0 - 1) ∧ (0 ≤ q ∧ q ≤ 1)) → CallI E mX12_seen [.ref 68, .int c, .int p, .int q] SH I J (fun r2 I2 J2 => (-1 : Int32) = r2 ∧ P I2 J2) := fun hb => wX12_seen ⟨fun _ => ⟨rfl, hP I J h⟩, fun d1 => ⟨fun _ => ⟨rfl, hP I J h⟩, fun d2 => ⟨fun _ => ⟨rfl, hP I J h⟩, fun d3 => absurd ⟨d1, d2, d3⟩ hb⟩⟩⟩
  refine wX11_seen ⟨fun c1 => bad (fun z => c1 (by rw [ec]; exact z.1)), fun c1 => ⟨fun c2 => bad (fun z => c2 (by rw [e]; exact z.2.1)), fun c2 => ⟨fun c3 => ⟨hr, ?_⟩, fun c3 => bad (fun z => c3 z.2.2)⟩⟩⟩
  rw [ec] at c1
  rw [e] at c2
  have c1' := c1
  have c2' := c2
  rw [hC.2.1] at c1'
  rw [hp.2.1] at c2'
  obtain ⟨x, hx, rfl⟩ := in_lt (by omega) c1'
  obtain ⟨y, hy, rfl⟩ := in_lt (by omega) c2'
  have e0 : rat I 24 25 (nI x) 0 = cK I x 0 := ((Rel_call h hx).1 0 (by omega)).1
  have e1 : rat I 24 25 (nI x) 1 = cK I x 1 := ((Rel_call h hx).1 1 (by omega)).1
  have hq := cK_q h hx
  have hm := cK_min h hx
  -- the model's answer, wherever the class has left its own cells
  have hM : ∀ (v : Int32) (I2 : hI_), agX I I2 → v = orN (nI (arr (wI I) (qN I x) (if q = 0 then mN I x else bkN I x) y)) → CallI E mX12_seen [.ref 68, .int (nI x), .int (nI y), .int q] SH I2 J (fun r2 I3 J3 => v = r2 ∧ P I3 J3) := fun v I2 hX hv => by
    have hR := Rel_agX hX h
    have e73 : I2 73 = I 73 := hX 73 rfl
    have e82 : I2 82 = I 82 := hX 82 rfl
    refine wX12_seen ⟨fun d => absurd (by rw [e82]; exact c1) d, fun _ => ⟨fun d => absurd (by rw [e73]; exact c2) d, fun _ => ⟨fun d => absurd c3 d, fun _ => ?_⟩⟩⟩
    refine tX12_seenBy hR (by rw [nC_X hX]; exact hx) (by omega) (fun I3 hag3 => ⟨?_, hP I3 J (Rel_agM (ag1_M rfl (by omega) hag3) hR)⟩)
    rw [hv, wI_X hX]
    unfold qN mN bkN
    rw [cK_X hX, cK_X hX, cK_X hX]
  -- arrivals in the class
  have hA : ∀ t : Nat, t ≤ 10000 → t = (if q = 0 then mN I x else bkN I x) → CallI E mX2_arrival [.ref 18, .int (nI (qN I x)), .int (nI y), .int (nI t)] SH I J (fun r I1 J1 => CallI E mX12_seen [.ref 68, .int (nI x), .int (nI y), .int q] SH I1 J1 (fun r2 I2 J2 => orN r = r2 ∧ P I2 J2)) := fun t ht et => by
    refine tX2_arrival h hq.2 hy ht (fun I2 hag => hM _ I2 (ag1_X rfl hag) ?_)
    rw [et]
  rw [e0, hq.1]
  by_cases z : q = 0
  · rw [if_neg (fun w => w z), e1, hm.1]
    exact ⟨fun _ => ⟨hr, hA (mN I x) (by omega) (by rw [if_pos z])⟩, fun w => absurd (nI_pos' (by omega)) w⟩
  · rw [if_pos z]
    rcases cK_back h hx with ⟨b1, -, b3⟩ | ⟨b0, b1, -, b3⟩
    · rw [b3]
      refine ⟨fun w => absurd w (by decide), fun _ => hM _ I agX_rf ?_⟩
      rw [if_neg z, b1, arr_never (Nat.le_refl _)]
      rfl
    · rw [b3]
      exact ⟨fun _ => ⟨hr, hA (bkN I x) (by omega) (by rw [if_neg z])⟩, fun w => absurd (nI_pos' (by omega)) w⟩
set_option maxHeartbeats 4000000 in
set_option maxRecDepth 20000 in
theorem wX11_takeBack {E : aE} {P : Int32 → hI_ → hJ_ → Prop} {I : hI_} {J : hJ_} {a0 : Int32} {a1 : Int32} (k : (((0 ≤ a0 ∧ a0 ≤ I 24 3 - 1) → ((a1 = (-4 : Int32) → (rok I 24 8 12) ∧ (rok I 24 8 12) ∧ P (rat I 24 25 a0 (7 : Int32)) (rput I 24 25 a0 (7 : Int32) a1) J) ∧ (¬ (a1 = (-4 : Int32)) → (rok I 24 8 12) ∧ ((((rat I 24 25 a0 (1 : Int32)) ≤ a1 ∧ a1 ≤ (999 : Int32)) → (rok I 24 8 12) ∧ (rok I 24 8 12) ∧ P (rat I 24 25 a0 (7 : Int32)) (rput I 24 25 a0 (7 : Int32) a1) J) ∧ (¬ (((rat I 24 25 a0 (1 : Int32)) ≤ a1 ∧ a1 ≤ (999 : Int32))) → P (-1 : Int32) I J))))) ∧ (¬ ((0 ≤ a0 ∧ a0 ≤ I 24 3 - 1)) → P (-1 : Int32) I J))) : CallI E mX11_takeBack [.ref 0, .int a0, .int a1] SH I J P := by
  refine Call_of (L := [.ref 0, .int a0, .int a1, .retAddr 0]) ok_X11_takeBack.1 rfl rfl ?_
  refine V_aload_n dX11_takeBack_0 rfl ?_
  refine V_iload_n dX11_takeBack_1 rfl ?_
  refine U_callV1 [.int a0] dX11_takeBack_2 ov_X11_206 s_0 rfl ⟨rfl, rfl, rfl⟩ rfl rfl rfl (tX11_isCall ?_)
  refine U_ifb_ne dX11_takeBack_5 (fun c1 => ?_) (fun c1 => ?_)
  · have k := k.1 c1
    refine V_iload_n dX11_takeBack_10 rfl ?_
    refine V_bipush (v := (-4 : Int32)) dX11_takeBack_11 rfl ?_
    refine V_icmp_eq dX11_takeBack_13 (fun c2 => ?_) (fun c2 => ?_)
    · have k := k.1 c2
      refine V_aload_n dX11_takeBack_40 rfl ?_
      refine U_getR dX11_takeBack_41 fl_X11_47 s_0 rfl ?_
      refine U_getR dX11_takeBack_44 fl_X11_203 s_21 rfl ?_
      refine V_iload_n dX11_takeBack_47 rfl ?_
      refine V_bipush (v := (7 : Int32)) dX11_takeBack_48 rfl ?_
      obtain ⟨hp3, k⟩ := k
      refine U_callV1 [.int a0, .int (7 : Int32)] dX11_takeBack_50 ov_X11_209 s_24 rfl ⟨rfl, rfl, rfl⟩ rfl rfl rfl (tX5_at s_24 s_25 (by decide) hp3 ?_)
      refine U_istore_n (L2 := [.ref 0, .int a0, .int a1, .int (rat I 24 25 a0 (7 : Int32))]) dX11_takeBack_53 (by decide) rfl ?_
      refine V_aload_n dX11_takeBack_54 rfl ?_
      refine U_getR dX11_takeBack_55 fl_X11_47 s_0 rfl ?_
      refine U_getR dX11_takeBack_58 fl_X11_203 s_21 rfl ?_
      refine V_iload_n dX11_takeBack_61 rfl ?_
      refine V_bipush (v := (7 : Int32)) dX11_takeBack_62 rfl ?_
      refine V_iload_n dX11_takeBack_64 rfl ?_
      obtain ⟨hp4, k⟩ := k
      refine U_callV0 [.int a0, .int (7 : Int32), .int a1] dX11_takeBack_65 ov_X11_185 s_24 rfl ⟨rfl, rfl, rfl⟩ rfl rfl rfl (tX5_put s_24 s_25 (by decide) hp4 ?_)
      refine V_iload_n dX11_takeBack_68 rfl ?_
      exact V_iret dX11_takeBack_69 ⟨_, rfl, rfl⟩ rfl rfl ⟨_, _, _, rfl, rfl, k⟩
    · have k := k.2 c2
      refine V_iload_n dX11_takeBack_16 rfl ?_
      refine V_aload_n dX11_takeBack_17 rfl ?_
      refine U_getR dX11_takeBack_18 fl_X11_47 s_0 rfl ?_
      refine U_getR dX11_takeBack_21 fl_X11_203 s_21 rfl ?_
      refine V_iload_n dX11_takeBack_24 rfl ?_
      refine V_iconst (v := (1 : Int32)) dX11_takeBack_25 rfl ?_
      obtain ⟨hp5, k⟩ := k
      refine U_callV1 [.int a0, .int (1 : Int32)] dX11_takeBack_26 ov_X11_209 s_24 rfl ⟨rfl, rfl, rfl⟩ rfl rfl rfl (tX5_at s_24 s_25 (by decide) hp5 ?_)
      refine V_sipush (v := (999 : Int32)) dX11_takeBack_29 rfl ?_
      refine U_callS1 [.int a1, .int (rat I 24 25 a0 (1 : Int32)), .int (999 : Int32)] dX11_takeBack_32 os_X11_104 ⟨rfl, rfl, rfl⟩ rfl rfl rfl (tX11_within ?_)
      refine U_ifb_ne dX11_takeBack_35 (fun c6 => ?_) (fun c6 => ?_)
      · have k := k.1 c6
        refine V_aload_n dX11_takeBack_40 rfl ?_
        refine U_getR dX11_takeBack_41 fl_X11_47 s_0 rfl ?_
        refine U_getR dX11_takeBack_44 fl_X11_203 s_21 rfl ?_
        refine V_iload_n dX11_takeBack_47 rfl ?_
        refine V_bipush (v := (7 : Int32)) dX11_takeBack_48 rfl ?_
        obtain ⟨hp7, k⟩ := k
        refine U_callV1 [.int a0, .int (7 : Int32)] dX11_takeBack_50 ov_X11_209 s_24 rfl ⟨rfl, rfl, rfl⟩ rfl rfl rfl (tX5_at s_24 s_25 (by decide) hp7 ?_)
        refine U_istore_n (L2 := [.ref 0, .int a0, .int a1, .int (rat I 24 25 a0 (7 : Int32))]) dX11_takeBack_53 (by decide) rfl ?_
        refine V_aload_n dX11_takeBack_54 rfl ?_
        refine U_getR dX11_takeBack_55 fl_X11_47 s_0 rfl ?_
        refine U_getR dX11_takeBack_58 fl_X11_203 s_21 rfl ?_
        refine V_iload_n dX11_takeBack_61 rfl ?_
        refine V_bipush (v := (7 : Int32)) dX11_takeBack_62 rfl ?_
        refine V_iload_n dX11_takeBack_64 rfl ?_
        obtain ⟨hp8, k⟩ := k
        refine U_callV0 [.int a0, .int (7 : Int32), .int a1] dX11_takeBack_65 ov_X11_185 s_24 rfl ⟨rfl, rfl, rfl⟩ rfl rfl rfl (tX5_put s_24 s_25 (by decide) hp8 ?_)
        refine V_iload_n dX11_takeBack_68 rfl ?_
        exact V_iret dX11_takeBack_69 ⟨_, rfl, rfl⟩ rfl rfl ⟨_, _, _, rfl, rfl, k⟩
      · have k := k.2 c6
        refine V_iconst (v := (-1 : Int32)) dX11_takeBack_38 rfl ?_
        exact V_iret dX11_takeBack_39 ⟨_, rfl, rfl⟩ rfl rfl ⟨_, _, _, rfl, rfl, k⟩
  · have k := k.2 c1
    refine V_iconst (v := (-1 : Int32)) dX11_takeBack_8 rfl ?_
    exact V_iret dX11_takeBack_9 ⟨_, rfl, rfl⟩ rfl rfl ⟨_, _, _, rfl, rfl, k⟩
set_option maxHeartbeats 4000000 in
set_option maxRecDepth 20000 in
theorem wX12_takeBack {E : aE} {P : Int32 → hI_ → hJ_ → Prop} {I : hI_} {J : hJ_} {a0 : Int32} {a1 : Int32} (k : ((¬ (0 ≤ a0 ∧ a0 ≤ I 82 281 - 1) → P (-1 : Int32) I J) ∧ ((0 ≤ a0 ∧ a0 ≤ I 82 281 - 1) → ((a1 = (-4 : Int32) → (inC a0 7) ∧ (vp_in (((72 : Int32) + ((8 : Int32) * a0)) + (7 : Int32)) 900) ∧ P (orN (tbk I a0)) (upI I 82 ((((72 : Int32) + ((8 : Int32) * a0)) + (7 : Int32)).toNatClampNeg) (if ¬ a1 = (-4 : Int32) then (a1 + (1 : Int32)) else (0 : Int32))) J) ∧ (¬ (a1 = (-4 : Int32)) → (inC a0 (1 : Int32)) ∧ ((((its I a0 (1 : Int32)) ≤ a1 ∧ a1 ≤ (999 : Int32)) → (inC a0 7) ∧ (vp_in (((72 : Int32) + ((8 : Int32) * a0)) + (7 : Int32)) 900) ∧ P (orN (tbk I a0)) (upI I 82 ((((72 : Int32) + ((8 : Int32) * a0)) + (7 : Int32)).toNatClampNeg) (if ¬ a1 = (-4 : Int32) then (a1 + (1 : Int32)) else (0 : Int32))) J) ∧ (¬ (((its I a0 (1 : Int32)) ≤ a1 ∧ a1 ≤ (999 : Int32))) → P (-1 : Int32) I J))))))) : CallI E mX12_takeBack [.ref 68, .int a0, .int a1] SH I J P := by
  refine Call_of (L := [.ref 68, .int a0, .int a1, .retAddr 0]) ok_X12_takeBack.1 rfl rfl ?_
  refine V_aload_n dX12_takeBack_0 rfl ?_
  refine V_iload_n dX12_takeBack_1 rfl ?_
  refine U_callV1 [.int a0] dX12_takeBack_2 ov_X12_207 s_68 rfl ⟨rfl, rfl, rfl⟩ rfl rfl rfl (tX12_isCall ?_)
  refine U_ifb_eq dX12_takeBack_5 (fun c1 => ?_) (fun c1 => ?_)
  · have k := k.1 c1
    refine V_iconst (v := (-1 : Int32)) dX12_takeBack_32 rfl ?_
    exact V_iret dX12_takeBack_33 ⟨_, rfl, rfl⟩ rfl rfl ⟨_, _, _, rfl, rfl, k⟩
  · have k := k.2 c1
    refine V_iload_n dX12_takeBack_8 rfl ?_
    refine V_bipush (v := (-4 : Int32)) dX12_takeBack_9 rfl ?_
    refine V_icmp_eq dX12_takeBack_11 (fun c2 => ?_) (fun c2 => ?_)
    · have k := k.1 c2
      refine V_aload_n dX12_takeBack_34 rfl ?_
      refine V_iload_n dX12_takeBack_35 rfl ?_
      obtain ⟨hp3, k⟩ := k
      refine U_callV1 [.int a0] dX12_takeBack_36 ov_X12_210 s_68 rfl ⟨rfl, rfl, rfl⟩ rfl rfl rfl (tX12_takenBack hp3 ?_)
      refine U_callS1 [.int (tbk I a0)] dX12_takeBack_39 os_X12_185 ⟨rfl, rfl, rfl⟩ rfl rfl rfl (tX12_orNone ?_)
      refine U_istore_n (L2 := [.ref 68, .int a0, .int a1, .int (orN (tbk I a0))]) dX12_takeBack_42 (by decide) rfl ?_
      refine V_aload_n dX12_takeBack_43 rfl ?_
      refine U_getR dX12_takeBack_44 fl_X12_49 s_68 rfl ?_
      refine V_bipush (v := (72 : Int32)) dX12_takeBack_47 rfl ?_
      refine V_bipush (v := (8 : Int32)) dX12_takeBack_49 rfl ?_
      refine V_iload_n dX12_takeBack_51 rfl ?_
      refine V_imul dX12_takeBack_52 ?_
      refine V_iadd dX12_takeBack_53 ?_
      refine V_bipush (v := (7 : Int32)) dX12_takeBack_54 rfl ?_
      refine V_iadd dX12_takeBack_56 ?_
      refine V_iload_n dX12_takeBack_57 rfl ?_
      refine V_bipush (v := (-4 : Int32)) dX12_takeBack_58 rfl ?_
      have key4 : ∀ (y2005 : Int32), y2005 = (if ¬ a1 = (-4 : Int32) then (a1 + (1 : Int32)) else (0 : Int32)) → V E mX12_takeBack (kI SH P) 70 [.ref 68, .int a0, .int a1, .int (orN (tbk I a0))] [.int y2005, .int (((72 : Int32) + ((8 : Int32) * a0)) + (7 : Int32)), .ref 82] (SH, I, J) (0, 0) := by
        intro y2005 ey2005
        subst ey2005
        obtain ⟨hb2006, k⟩ := k
        refine U_iast dX12_takeBack_70 s_82 hb2006 ?_
        refine V_iload_n dX12_takeBack_71 rfl ?_
        exact V_iret dX12_takeBack_72 ⟨_, rfl, rfl⟩ rfl rfl ⟨_, _, _, rfl, rfl, k⟩
      refine V_icmp_ne dX12_takeBack_60 (fun c2007 => ?_) (fun c2007 => ?_)
      · refine V_iload_n dX12_takeBack_67 rfl ?_
        refine V_iconst (v := (1 : Int32)) dX12_takeBack_68 rfl ?_
        refine V_iadd dX12_takeBack_69 ?_
        exact key4 _ (by rw [if_pos c2007])
      · refine V_iconst (v := (0 : Int32)) dX12_takeBack_63 rfl ?_
        refine V_goto dX12_takeBack_64 ?_
        exact key4 _ (by rw [if_neg (not_not_intro c2007)])
    · have k := k.2 c2
      refine V_iload_n dX12_takeBack_14 rfl ?_
      refine V_i2l dX12_takeBack_15 ?_
      refine V_aload_n dX12_takeBack_16 rfl ?_
      refine V_iload_n dX12_takeBack_17 rfl ?_
      refine V_iconst (v := (1 : Int32)) dX12_takeBack_18 rfl ?_
      obtain ⟨hp2008, k⟩ := k
      refine U_callV1 [.int a0, .int (1 : Int32)] dX12_takeBack_19 ov_X12_202 s_68 rfl ⟨rfl, rfl, rfl⟩ rfl rfl rfl (tX12_its hp2008 ?_)
      refine V_i2l dX12_takeBack_22 ?_
      refine V_ldc2_w (v := (999 : Int64)) dX12_takeBack_23 (gt_6 19 rfl rfl) ?_
      refine U_callS1 [.long a1.toInt64, .long ((its I a0 (1 : Int32)).toInt64), .long (999 : Int64)] dX12_takeBack_26 os_X12_91 ⟨rfl, rfl, rfl⟩ rfl rfl rfl (tX12_in32 (v := a1) (lo := (its I a0 (1 : Int32))) (hi := (999 : Int32)) rfl rfl (by decide) ?_)
      refine U_ifb_ne dX12_takeBack_29 (fun c2009 => ?_) (fun c2009 => ?_)
      · have k := k.1 c2009
        refine V_aload_n dX12_takeBack_34 rfl ?_
        refine V_iload_n dX12_takeBack_35 rfl ?_
        obtain ⟨hp2010, k⟩ := k
        refine U_callV1 [.int a0] dX12_takeBack_36 ov_X12_210 s_68 rfl ⟨rfl, rfl, rfl⟩ rfl rfl rfl (tX12_takenBack hp2010 ?_)
        refine U_callS1 [.int (tbk I a0)] dX12_takeBack_39 os_X12_185 ⟨rfl, rfl, rfl⟩ rfl rfl rfl (tX12_orNone ?_)
        refine U_istore_n (L2 := [.ref 68, .int a0, .int a1, .int (orN (tbk I a0))]) dX12_takeBack_42 (by decide) rfl ?_
        refine V_aload_n dX12_takeBack_43 rfl ?_
        refine U_getR dX12_takeBack_44 fl_X12_49 s_68 rfl ?_
        refine V_bipush (v := (72 : Int32)) dX12_takeBack_47 rfl ?_
        refine V_bipush (v := (8 : Int32)) dX12_takeBack_49 rfl ?_
        refine V_iload_n dX12_takeBack_51 rfl ?_
        refine V_imul dX12_takeBack_52 ?_
        refine V_iadd dX12_takeBack_53 ?_
        refine V_bipush (v := (7 : Int32)) dX12_takeBack_54 rfl ?_
        refine V_iadd dX12_takeBack_56 ?_
        refine V_iload_n dX12_takeBack_57 rfl ?_
        refine V_bipush (v := (-4 : Int32)) dX12_takeBack_58 rfl ?_
        have key2011 : ∀ (y4012 : Int32), y4012 = (if ¬ a1 = (-4 : Int32) then (a1 + (1 : Int32)) else (0 : Int32)) → V E mX12_takeBack (kI SH P) 70 [.ref 68, .int a0, .int a1, .int (orN (tbk I a0))] [.int y4012, .int (((72 : Int32) + ((8 : Int32) * a0)) + (7 : Int32)), .ref 82] (SH, I, J) (0, 0) := by
          intro y4012 ey4012
          subst ey4012
          obtain ⟨hb4013, k⟩ := k
          refine U_iast dX12_takeBack_70 s_82 hb4013 ?_
          refine V_iload_n dX12_takeBack_71 rfl ?_
          exact V_iret dX12_takeBack_72 ⟨_, rfl, rfl⟩ rfl rfl ⟨_, _, _, rfl, rfl, k⟩
        refine V_icmp_ne dX12_takeBack_60 (fun c4014 => ?_) (fun c4014 => ?_)
        · refine V_iload_n dX12_takeBack_67 rfl ?_
          refine V_iconst (v := (1 : Int32)) dX12_takeBack_68 rfl ?_
          refine V_iadd dX12_takeBack_69 ?_
          exact key2011 _ (by rw [if_pos c4014])
        · refine V_iconst (v := (0 : Int32)) dX12_takeBack_63 rfl ?_
          refine V_goto dX12_takeBack_64 ?_
          exact key2011 _ (by rw [if_neg (not_not_intro c4014)])
      · have k := k.2 c2009
        refine V_iconst (v := (-1 : Int32)) dX12_takeBack_32 rfl ?_
        exact V_iret dX12_takeBack_33 ⟨_, rfl, rfl⟩ rfl rfl ⟨_, _, _, rfl, rfl, k⟩
theorem m8_nI (k : Nat) : (72 : Int32) + 8 * nI k = nI (72 + 8 * k) := by rw [show (8 : Int32) = nI 8 from rfl, show (72 : Int32) = nI 72 from rfl, pk_mul, nI_add]
/-- one call's taking back is changed, in both -/
theorem Rel_back {I : hI_} (h : Rel I) {c : Nat} (hc : c < nC I) {v : Int32} (hv : (v = -4 ∨ bet (mN I c) v 999)) : Rel (upI (upI I 25 (8 * c + 7) v) 82 (72 + 8 * c + 7) (if v = -4 then 0 else v + 1)) := by
  have hC := (Rel_C h).2.2
  obtain ⟨l1, l2, l3⟩ := h.2.2.2.1
  obtain ⟨c1, c2⟩ := l2
  obtain ⟨d1, d2⟩ := l3
  obtain ⟨s1, s2⟩ := l1
  have hCt : (I 24 3).toInt ≤ 12 := (lt_of_rok h.2.2.1.2.1).2
  have hDt : (I 26 3).toInt ≤ 24 := (lt_of_rok h.2.2.1.2.2.1).2
  have hSt : (I 22 3).toInt ≤ 24 := (lt_of_rok h.2.2.1.1).2
  generalize hI2 : upI (upI I 25 (8 * c + 7) v) 82 (72 + 8 * c + 7) (if v = -4 then 0 else v + 1) = I2
  have ho : ∀ a, a ≠ 25 → a ≠ 82 → I2 a = I a := fun a q1 q2 => by
    funext j; rw [← hI2, upI_at, upI_at, if_neg (fun z => q2 z.1), if_neg (fun z => q1 z.1)]
  have s82 : ∀ j, j ≠ 72 + 8 * c + 7 → I2 82 j = I 82 j := fun j q => by
    rw [← hI2, upI_at, if_neg (fun z => q z.2), upI_at, if_neg (by omega)]
  have s25 : ∀ j, j ≠ 8 * c + 7 → I2 25 j = I 25 j := fun j q => by
    rw [← hI2, upI_at, if_neg (by omega), upI_at, if_neg (fun z => q z.2)]
  have e82 : I2 82 (72 + 8 * c + 7) = (if v = -4 then 0 else v + 1) := by rw [← hI2]; exact upI_same
  have e25 : I2 25 (8 * c + 7) = v := by rw [← hI2, upI_at, if_neg (by omega)]; exact upI_same
  have hm := (cK_min h hc).1
  refine Rel_upd h (fun a q1 q2 _ => ho a (by omega) q2) (fun j hj => s82 j (by omega)) ?_ ?_
  · rw [ho 22 (by omega) (by omega), ho 24 (by omega) (by omega), ho 26 (by omega) (by omega)]
    exact ⟨h.2.2.1.1, h.2.2.1.2.1, h.2.2.1.2.2.1⟩
  · rw [ho 22 (by omega) (by omega), ho 23 (by omega) (by omega), ho 24 (by omega) (by omega), ho 26 (by omega) (by omega), ho 27 (by omega) (by omega)]
    refine ⟨⟨?_, fun k hk => ?_⟩, ⟨?_, fun d hd => ?_⟩, ?_, fun d hd => ?_⟩
    · rw [s82 (0 + 280) (by omega)]; exact s1
    · have := s2 k hk
      rw [s82 (0 + 3 * k) (by omega), s82 (0 + 3 * k + 1) (by omega), s82 (0 + 3 * k + 2) (by omega)]; exact this
    · rw [s82 (0 + 281) (by omega)]; exact c1
    · obtain ⟨g1, g2, g3⟩ := c2 d hd
      refine ⟨fun j hj => ?_, ?_, ?_⟩
      · rw [s82 _ (by omega), s25 _ (by omega)]; exact g1 j hj
      · unfold callB at g2 ⊢
        have t0 : I2 25 (8 * d) = I 25 (8 * d) := s25 _ (by omega)
        rw [t0, s25 (8 * d + 1) (by omega), s25 (8 * d + 2) (by omega), s25 (8 * d + 3) (by omega), s25 (8 * d + 4) (by omega), s25 (8 * d + 5) (by omega), s25 (8 * d + 6) (by omega)]
        exact g2
      · rw [s25 (8 * d + 1) (by omega)]
        by_cases e : d = c
        · subst e
          simp only [Nat.zero_add]
          rw [e25, e82]
          rcases hv with hv | hv
          · exact Or.inl ⟨hv, by rw [if_pos hv]⟩
          · right
            have hm1 : (I 25 (8 * d + 1)).toInt = mN I d := by
              have q1 := g1 1 (by omega)
              simp only [Nat.zero_add] at q1
              have q2 : I 82 (72 + 8 * d + 1) = nI (mN I d) := hm
              rw [q1, q2, nI_toInt (by have := (cK_min h hc).2; omega)]
            refine ⟨by rw [hm1]; exact hv, ?_⟩
            rw [if_neg (fun z => by rw [z] at hv; have := hv.1; have : (-4 : Int32).toInt = -4 := rfl; omega)]
        · rw [s25 _ (by omega), s82 _ (by omega)]; exact g3
    · rw [s82 (0 + 282) (by omega)]; exact d1
    · obtain ⟨g1, p, c', m, q, t, g2⟩ := d2 d hd
      refine ⟨fun j hj => ?_, p, c', m, q, t, ?_⟩
      · rw [s82 _ (by omega)]; exact g1 j hj
      · have t0 : I2 25 (8 * c') = I 25 (8 * c') := s25 _ (by omega)
        rw [t0, s25 (8 * c' + 1) (by omega)]; exact g2
theorem op_takeBack {E : aE} {I : hI_} {J : hJ_} {P : hI_ → hJ_ → Prop} {c t : Int32} (h : Rel I) (hP : ∀ I2 J2, Rel I2 → P I2 J2) : Op2 E mX11_takeBack mX12_takeBack [.int c, .int t] I J P := by
  have hC := Rel_C h
  have ec := Rel_nc h
  have hr := (Rel_rows h).2.1
  -- both change it
  have go : ∀ x : Nat, x < nC I → c = nI x → (t = -4 ∨ (cK I x 1 ≤ t ∧ t ≤ 999)) → (0 ≤ c ∧ c ≤ I 82 281 - 1) → CallI E mX12_takeBack [.ref 68, .int c, .int t] SH (rput I 24 25 c 7 t) J (fun r2 I2 J2 => rat I 24 25 c 7 = r2 ∧ P I2 J2) := fun x hx hcx hg c1 => by
    subst hcx
    have i : ∀ j, j < 8 → inC (nI x) (nI j) := fun j hj => inC_nI (by omega) hj
    have hm := cK_min h hx
    have ep : rput I 24 25 (nI x) 7 t = upI I 25 (8 * x + 7) t := by
      have := rput_nI (I := I) (a := 24) (b := 25) (k := x) (j := 7) (w := 8) (m := 12) (v := t) hr (by rw [hC.1, nI_toInt (by omega)]; omega) (by omega) (by omega) (by omega) (by omega)
      rw [Nat.mul_comm x 8] at this
      exact this
    rw [ep]
    have e82 : (upI I 25 (8 * x + 7) t) 82 = I 82 := rfl
    have e1 : its (upI I 25 (8 * x + 7) t) (nI x) 1 = cK I x 1 := its_cK (j := 1) (by omega) (by omega)
    have eb : orN (tbk (upI I 25 (8 * x + 7) t) (nI x)) = rat I 24 25 (nI x) 7 := by
      have : tbk (upI I 25 (8 * x + 7) t) (nI x) = tbk I (nI x) := rfl
      rw [this, tbk_N h hx]
      rcases cK_back h hx with ⟨b1, -, b3⟩ | ⟨b0, b1, -, b3⟩
      · rw [b1, b3]; rfl
      · rw [b3]
        unfold orN
        rw [if_neg (show ¬ (10000 : Int32) ≤ nI (bkN I x) from nI_ge (b := 10000) (by omega) (by omega))]
    have ev : (if ¬ t = (-4 : Int32) then t + 1 else 0) = (if t = -4 then 0 else t + 1) := by
      by_cases z : t = -4
      · rw [if_neg (fun w => w z), if_pos z]
      · rw [if_pos z, if_neg z]
    have a7 : nI (72 + 8 * x) + 7 = nI (72 + 8 * x + 7) := nI_add _ 7
    have fin : (rat I 24 25 (nI x) 7 = orN (tbk (upI I 25 (8 * x + 7) t) (nI x)) ∧ P (upI (upI I 25 (8 * x + 7) t) 82 ((72 + 8 * nI x + 7).toNatClampNeg) (if ¬ t = (-4 : Int32) then t + 1 else 0)) J) := by
      refine ⟨eb.symm, hP _ _ ?_⟩
      rw [m8_nI, a7, nI_clamp (by omega), ev]
      refine Rel_back h hx ?_
      rcases hg with hg | hg
      · exact Or.inl hg
      · right
        have := bet_of (a := (mN I x : Int)) (b := 999) hg (by rw [hm.1, nI_toInt (by omega)]) rfl
        exact this
    have v7 : vp_in (72 + 8 * nI x + 7) 900 := by rw [m8_nI, a7]; exact vp_in_nI (by omega) (by omega)
    refine wX12_takeBack ⟨fun d => absurd (by rw [e82]; exact c1) d, fun _ => ⟨fun _ => ⟨i 7 (by omega), v7, fin⟩, fun d => ⟨i 1 (by omega), fun _ => ⟨i 7 (by omega), v7, fin⟩, fun d2 => ?_⟩⟩⟩
    rw [e1] at d2
    rcases hg with hg | hg
    · exact absurd hg d
    · exact absurd hg d2
  refine wX11_takeBack ⟨fun c1 => ?_, fun c1 => ?_⟩
  · rw [ec] at c1
    have c1' := c1
    rw [hC.2.1] at c1'
    obtain ⟨x, hx, hcx⟩ := in_lt (by omega) c1'
    have e1 : rat I 24 25 c 1 = cK I x 1 := by rw [hcx]; exact ((Rel_call h hx).1 1 (by omega)).1
    refine ⟨fun d => ⟨hr, hr, go x hx hcx (Or.inl d) c1⟩, fun d => ⟨hr, fun d2 => ⟨hr, hr, go x hx hcx (Or.inr (by rw [← e1]; exact d2)) c1⟩, fun d2 => ?_⟩⟩
    have e1' : its I c 1 = cK I x 1 := by rw [hcx]; exact its_cK (j := 1) (by omega) (by omega)
    have i1 : inC c 1 := by rw [hcx]; exact inC_nI (j := 1) (by omega) (by omega)
    refine wX12_takeBack ⟨fun d3 => absurd c1 d3, fun _ => ⟨fun d3 => absurd d3 d, fun _ => ⟨i1, fun d3 => ?_, fun _ => ⟨rfl, hP I J h⟩⟩⟩⟩
    rw [e1'] at d3
    rw [e1] at d2
    exact absurd d3 d2
  · rw [ec] at c1
    exact wX12_takeBack ⟨fun _ => ⟨rfl, hP I J h⟩, fun d => absurd d c1⟩
