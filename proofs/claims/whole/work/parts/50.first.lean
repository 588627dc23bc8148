def HX0_firstFrom_6 (E : aE) (P : Int32 → hI_ → hJ_ → Prop) (v1 : Int32) (v2 : Int32) (v3 : Int32) (I : hI_) (J : hJ_) : Prop := V E mX0_firstFrom (kI SH P) 6 [.ref 36, .int v1, .int v2, .int v3, .retAddr 0, .retAddr 0, .retAddr 0] [] (SH, I, J) (0, 0)
def HX0_firstFrom_20 (E : aE) (P : Int32 → hI_ → hJ_ → Prop) (v1 : Int32) (v2 : Int32) (v3 : Int32) (v4 : Int32) (I : hI_) (J : hJ_) : Prop := V E mX0_firstFrom (kI SH P) 20 [.ref 36, .int v1, .int v2, .int v3, .int v4, .retAddr 0, .retAddr 0] [] (SH, I, J) (0, 0)
set_option maxHeartbeats 4000000 in
set_option maxRecDepth 20000 in
theorem wX0_firstFrom {E : aE} {P : Int32 → hI_ → hJ_ → Prop} {I : hI_} {J : hJ_} {a0 : Int32} (k : HX0_firstFrom_6 E P a0 (10000 : Int32) (0 : Int32) I J) : CallI E mX0_firstFrom [.ref 36, .int a0] SH I J P := by
  refine Call_of (L := [.ref 36, .int a0, .retAddr 0, .retAddr 0, .retAddr 0, .retAddr 0, .retAddr 0]) ok_X0_firstFrom.1 rfl rfl ?_
  refine V_sipush (v := (10000 : Int32)) dX0_firstFrom_0 rfl ?_
  refine U_istore_n (L2 := [.ref 36, .int a0, .int (10000 : Int32), .retAddr 0, .retAddr 0, .retAddr 0, .retAddr 0]) dX0_firstFrom_3 (by decide) rfl ?_
  refine V_iconst (v := (0 : Int32)) dX0_firstFrom_4 rfl ?_
  refine U_istore_n (L2 := [.ref 36, .int a0, .int (10000 : Int32), .int (0 : Int32), .retAddr 0, .retAddr 0, .retAddr 0]) dX0_firstFrom_5 (by decide) rfl ?_
  exact k
set_option maxHeartbeats 4000000 in
set_option maxRecDepth 20000 in
theorem wX0_firstFrom_6 {E : aE} {P : Int32 → hI_ → hJ_ → Prop} {I : hI_} {J : hJ_} {v1 : Int32} {v2 : Int32} {v3 : Int32} (k : (((I 24 3) ≤ v3 → P (if ¬ v2 = (10000 : Int32) then v2 else (-4 : Int32)) I J) ∧ (¬ ((I 24 3) ≤ v3) → HX0_firstFrom_20 E P v1 v2 v3 (0 : Int32) I J))) : HX0_firstFrom_6 E P v1 v2 v3 I J := by
  show V E mX0_firstFrom (kI SH P) 6 [.ref 36, .int v1, .int v2, .int v3, .retAddr 0, .retAddr 0, .retAddr 0] [] (SH, I, J) (0, 0)
  refine V_iload_n dX0_firstFrom_6 rfl ?_
  refine V_aload_n dX0_firstFrom_7 rfl ?_
  refine U_getR dX0_firstFrom_8 fl_X0_31 s_36 rfl ?_
  refine U_getI dX0_firstFrom_11 fl_X0_32 s_24 rfl ?_
  refine V_icmp_ge dX0_firstFrom_14 (fun c1 => ?_) (fun c1 => ?_)
  · have k := k.1 c1
    refine V_iload_n dX0_firstFrom_148 rfl ?_
    refine V_sipush (v := (10000 : Int32)) dX0_firstFrom_149 rfl ?_
    have key2 : ∀ (y2003 : Int32), y2003 = (if ¬ v2 = (10000 : Int32) then v2 else (-4 : Int32)) → V E mX0_firstFrom (kI SH P) 161 [.ref 36, .int v1, .int v2, .int v3, .retAddr 0, .retAddr 0, .retAddr 0] [.int y2003] (SH, I, J) (0, 0) := by
      intro y2003 ey2003
      subst ey2003
      exact V_iret dX0_firstFrom_161 ⟨_, rfl, rfl⟩ rfl rfl ⟨_, _, _, rfl, rfl, k⟩
    refine V_icmp_ne dX0_firstFrom_152 (fun c2004 => ?_) (fun c2004 => ?_)
    · refine V_iload_n dX0_firstFrom_160 rfl ?_
      exact key2 _ (by rw [if_pos c2004])
    · refine V_bipush (v := (-4 : Int32)) dX0_firstFrom_155 rfl ?_
      refine V_goto dX0_firstFrom_157 ?_
      exact key2 _ (by rw [if_neg (not_not_intro c2004)])
  · have k := k.2 c1
    refine V_iconst (v := (0 : Int32)) dX0_firstFrom_17 rfl ?_
    refine U_istore (L2 := [.ref 36, .int v1, .int v2, .int v3, .int (0 : Int32), .retAddr 0, .retAddr 0]) dX0_firstFrom_18 (by decide) rfl ?_
    exact k
set_option maxHeartbeats 4000000 in
set_option maxRecDepth 20000 in
theorem wX0_firstFrom_20 {E : aE} {P : Int32 → hI_ → hJ_ → Prop} {I : hI_} {J : hJ_} {v1 : Int32} {v2 : Int32} {v3 : Int32} {v4 : Int32} (k : (((I 24 3) ≤ v4 → HX0_firstFrom_6 E P v1 v2 (v3 + (1 : Int32)) I J) ∧ (¬ ((I 24 3) ≤ v4) → (rok I 24 8 12) ∧ ((¬ (rat I 24 25 v3 (2 : Int32)) = (1 : Int32) → HX0_firstFrom_20 E P v1 v2 v3 (v4 + (1 : Int32)) I J) ∧ ((rat I 24 25 v3 (2 : Int32)) = (1 : Int32) → (rok I 24 8 12) ∧ ((¬ (rat I 24 25 v4 (2 : Int32)) = (0 : Int32) → HX0_firstFrom_20 E P v1 v2 v3 (v4 + (1 : Int32)) I J) ∧ ((rat I 24 25 v4 (2 : Int32)) = (0 : Int32) → CallI E mX0_margin [.ref 36, .int v3, .int v4] SH I J (fun x6 I7 J8 => ((¬ (x6 ≤ (0 : Int32))) → vp_in v3 12) ∧ ((¬ (x6 ≤ (0 : Int32))) → vp_in v4 12) ∧ ((¬ (x6 ≤ (0 : Int32))) → vp_in v3 12) ∧ ((¬ (x6 ≤ (0 : Int32))) → (¬ ((I7 38 v3.toNatClampNeg) < (jmax v1 (jmax (I7 37 v3.toNatClampNeg) (I7 37 v4.toNatClampNeg))))) → vp_in v4 12) ∧ HX0_firstFrom_20 E P v1 (if x6 ≤ (0 : Int32) then v2 else (if (I7 38 v3.toNatClampNeg) < (jmax v1 (jmax (I7 37 v3.toNatClampNeg) (I7 37 v4.toNatClampNeg))) then v2 else (if (I7 38 v4.toNatClampNeg) < (jmax v1 (jmax (I7 37 v3.toNatClampNeg) (I7 37 v4.toNatClampNeg))) then v2 else (jmin v2 (jmax v1 (jmax (I7 37 v3.toNatClampNeg) (I7 37 v4.toNatClampNeg))))))) v3 (v4 + (1 : Int32)) I7 J8)))))))) : HX0_firstFrom_20 E P v1 v2 v3 v4 I J := by
  show V E mX0_firstFrom (kI SH P) 20 [.ref 36, .int v1, .int v2, .int v3, .int v4, .retAddr 0, .retAddr 0] [] (SH, I, J) (0, 0)
  refine V_iload dX0_firstFrom_20 rfl ?_
  refine V_aload_n dX0_firstFrom_22 rfl ?_
  refine U_getR dX0_firstFrom_23 fl_X0_31 s_36 rfl ?_
  refine U_getI dX0_firstFrom_26 fl_X0_32 s_24 rfl ?_
  refine V_icmp_ge dX0_firstFrom_29 (fun c1 => ?_) (fun c1 => ?_)
  · have k := k.1 c1
    refine U_iinc (v := v3 + (1 : Int32)) (L2 := [.ref 36, .int v1, .int v2, .int (v3 + (1 : Int32)), .int v4, .retAddr 0, .retAddr 0]) dX0_firstFrom_142 (by decide) rfl rfl rfl ?_
    refine V_goto dX0_firstFrom_145 ?_
    exact V_wk (wk_eq (wk_eq (wk_eq (wk_eq (wk_j (wk_j (wk_j (wk_nil)))))))) k
  · have k := k.2 c1
    refine V_aload_n dX0_firstFrom_32 rfl ?_
    refine U_getR dX0_firstFrom_33 fl_X0_31 s_36 rfl ?_
    refine V_iload_n dX0_firstFrom_36 rfl ?_
    refine V_iconst (v := (2 : Int32)) dX0_firstFrom_37 rfl ?_
    obtain ⟨hp2, k⟩ := k
    refine U_callV1 [.int v3, .int (2 : Int32)] dX0_firstFrom_38 ov_X0_38 s_24 rfl ⟨rfl, rfl, rfl⟩ rfl rfl rfl (tX5_at s_24 s_25 (by decide) hp2 ?_)
    refine V_iconst (v := (1 : Int32)) dX0_firstFrom_41 rfl ?_
    refine V_icmp_ne dX0_firstFrom_42 (fun c3 => ?_) (fun c3 => ?_)
    · have k := k.1 c3
      refine U_iinc (v := v4 + (1 : Int32)) (L2 := [.ref 36, .int v1, .int v2, .int v3, .int (v4 + (1 : Int32)), .retAddr 0, .retAddr 0]) dX0_firstFrom_136 (by decide) rfl rfl rfl ?_
      refine V_goto dX0_firstFrom_139 ?_
      exact k
    · have k := k.2 c3
      refine V_aload_n dX0_firstFrom_45 rfl ?_
      refine U_getR dX0_firstFrom_46 fl_X0_31 s_36 rfl ?_
      refine V_iload dX0_firstFrom_49 rfl ?_
      refine V_iconst (v := (2 : Int32)) dX0_firstFrom_51 rfl ?_
      obtain ⟨hp4, k⟩ := k
      refine U_callV1 [.int v4, .int (2 : Int32)] dX0_firstFrom_52 ov_X0_38 s_24 rfl ⟨rfl, rfl, rfl⟩ rfl rfl rfl (tX5_at s_24 s_25 (by decide) hp4 ?_)
      refine V_if_ne dX0_firstFrom_55 (fun c5 => ?_) (fun c5 => ?_)
      · have k := k.1 c5
        refine U_iinc (v := v4 + (1 : Int32)) (L2 := [.ref 36, .int v1, .int v2, .int v3, .int (v4 + (1 : Int32)), .retAddr 0, .retAddr 0]) dX0_firstFrom_136 (by decide) rfl rfl rfl ?_
        refine V_goto dX0_firstFrom_139 ?_
        exact k
      · have k := k.2 c5
        refine V_aload_n dX0_firstFrom_58 rfl ?_
        refine V_iload_n dX0_firstFrom_59 rfl ?_
        refine V_iload dX0_firstFrom_60 rfl ?_
        refine U_callV1 [.int v3, .int v4] dX0_firstFrom_62 ov_X0_70 s_36 rfl ⟨rfl, rfl, rfl⟩ rfl rfl rfl (CallI_mono k (fun x6 I7 J8 k => ?_))
        obtain ⟨hc2015, hc2016, hc2017, hc2018, k⟩ := k
        have key9 : ∀ (y2014 : Int32), y2014 = (if x6 ≤ (0 : Int32) then v2 else (if (I7 38 v3.toNatClampNeg) < (jmax v1 (jmax (I7 37 v3.toNatClampNeg) (I7 37 v4.toNatClampNeg))) then v2 else (if (I7 38 v4.toNatClampNeg) < (jmax v1 (jmax (I7 37 v3.toNatClampNeg) (I7 37 v4.toNatClampNeg))) then v2 else (jmin v2 (jmax v1 (jmax (I7 37 v3.toNatClampNeg) (I7 37 v4.toNatClampNeg))))))) → V E mX0_firstFrom (kI SH P) 136 [.ref 36, .int v1, .int y2014, .int v3, .int v4, .retAddr 0, .retAddr 0] [] (SH, I7, J8) (0, 0) := by
          intro y2014 ey2014
          subst ey2014
          refine U_iinc (v := v4 + (1 : Int32)) (L2 := [.ref 36, .int v1, .int (if x6 ≤ (0 : Int32) then v2 else (if (I7 38 v3.toNatClampNeg) < (jmax v1 (jmax (I7 37 v3.toNatClampNeg) (I7 37 v4.toNatClampNeg))) then v2 else (if (I7 38 v4.toNatClampNeg) < (jmax v1 (jmax (I7 37 v3.toNatClampNeg) (I7 37 v4.toNatClampNeg))) then v2 else (jmin v2 (jmax v1 (jmax (I7 37 v3.toNatClampNeg) (I7 37 v4.toNatClampNeg))))))), .int v3, .int (v4 + (1 : Int32)), .retAddr 0, .retAddr 0]) dX0_firstFrom_136 (by decide) rfl rfl rfl ?_
          refine V_goto dX0_firstFrom_139 ?_
          exact k
        refine V_if_le dX0_firstFrom_65 (fun c2019 => ?_) (fun c2019 => ?_)
        · exact key9 _ (by rw [if_pos c2019])
        · refine V_iload_n dX0_firstFrom_68 rfl ?_
          refine V_aload_n dX0_firstFrom_69 rfl ?_
          refine U_getR dX0_firstFrom_70 fl_X0_9 s_36 rfl ?_
          refine V_iload_n dX0_firstFrom_73 rfl ?_
          have hb2010 := hc2015 c2019
          refine U_iald dX0_firstFrom_74 s_37 hb2010 ?_
          refine V_aload_n dX0_firstFrom_75 rfl ?_
          refine U_getR dX0_firstFrom_76 fl_X0_9 s_36 rfl ?_
          refine V_iload dX0_firstFrom_79 rfl ?_
          have hb2011 := hc2016 c2019
          refine U_iald dX0_firstFrom_81 s_37 hb2011 ?_
          refine V_mmax dX0_firstFrom_82 om_X0_73 rfl ?_
          refine V_mmax dX0_firstFrom_85 om_X0_73 rfl ?_
          refine U_istore (L2 := [.ref 36, .int v1, .int v2, .int v3, .int v4, .int (jmax v1 (jmax (I7 37 v3.toNatClampNeg) (I7 37 v4.toNatClampNeg))), .retAddr 0]) dX0_firstFrom_88 (by decide) rfl ?_
          refine V_iload dX0_firstFrom_90 rfl ?_
          refine V_aload_n dX0_firstFrom_92 rfl ?_
          refine U_getR dX0_firstFrom_93 fl_X0_15 s_36 rfl ?_
          refine V_iload_n dX0_firstFrom_96 rfl ?_
          have hb2012 := hc2017 c2019
          refine U_iald dX0_firstFrom_97 s_38 hb2012 ?_
          refine V_icmp_gt dX0_firstFrom_98 (fun c2020 => ?_) (fun c2020 => ?_)
          · refine V_iconst (v := (0 : Int32)) dX0_firstFrom_117 rfl ?_
            refine U_istore (L2 := [.ref 36, .int v1, .int v2, .int v3, .int v4, .int (jmax v1 (jmax (I7 37 v3.toNatClampNeg) (I7 37 v4.toNatClampNeg))), .int (0 : Int32)]) dX0_firstFrom_118 (by decide) rfl ?_
            refine V_iload dX0_firstFrom_120 rfl ?_
            refine V_if_eq dX0_firstFrom_122 (fun _ => ?_) (fun q => absurd q (by decide))
            refine V_iload_n dX0_firstFrom_134 rfl ?_
            refine U_istore_n (L2 := [.ref 36, .int v1, .int v2, .int v3, .int v4, .int (jmax v1 (jmax (I7 37 v3.toNatClampNeg) (I7 37 v4.toNatClampNeg))), .int (0 : Int32)]) dX0_firstFrom_135 (by decide) rfl ?_
            exact V_wk (wk_eq (wk_eq (wk_eq (wk_eq (wk_eq (wk_j (wk_j (wk_nil)))))))) (key9 _ (by rw [if_neg c2019, if_pos c2020]))
          · refine V_iload dX0_firstFrom_101 rfl ?_
            refine V_aload_n dX0_firstFrom_103 rfl ?_
            refine U_getR dX0_firstFrom_104 fl_X0_15 s_36 rfl ?_
            refine V_iload dX0_firstFrom_107 rfl ?_
            have hb2013 := hc2018 c2019 c2020
            refine U_iald dX0_firstFrom_109 s_38 hb2013 ?_
            refine V_icmp_gt dX0_firstFrom_110 (fun c2021 => ?_) (fun c2021 => ?_)
            · refine V_iconst (v := (0 : Int32)) dX0_firstFrom_117 rfl ?_
              refine U_istore (L2 := [.ref 36, .int v1, .int v2, .int v3, .int v4, .int (jmax v1 (jmax (I7 37 v3.toNatClampNeg) (I7 37 v4.toNatClampNeg))), .int (0 : Int32)]) dX0_firstFrom_118 (by decide) rfl ?_
              refine V_iload dX0_firstFrom_120 rfl ?_
              refine V_if_eq dX0_firstFrom_122 (fun _ => ?_) (fun q => absurd q (by decide))
              refine V_iload_n dX0_firstFrom_134 rfl ?_
              refine U_istore_n (L2 := [.ref 36, .int v1, .int v2, .int v3, .int v4, .int (jmax v1 (jmax (I7 37 v3.toNatClampNeg) (I7 37 v4.toNatClampNeg))), .int (0 : Int32)]) dX0_firstFrom_135 (by decide) rfl ?_
              exact V_wk (wk_eq (wk_eq (wk_eq (wk_eq (wk_eq (wk_j (wk_j (wk_nil)))))))) (key9 _ (by rw [if_neg c2019, if_neg c2020, if_pos c2021]))
            · refine V_iconst (v := (1 : Int32)) dX0_firstFrom_113 rfl ?_
              refine V_goto dX0_firstFrom_114 ?_
              refine U_istore (L2 := [.ref 36, .int v1, .int v2, .int v3, .int v4, .int (jmax v1 (jmax (I7 37 v3.toNatClampNeg) (I7 37 v4.toNatClampNeg))), .int (1 : Int32)]) dX0_firstFrom_118 (by decide) rfl ?_
              refine V_iload dX0_firstFrom_120 rfl ?_
              refine V_if_eq dX0_firstFrom_122 (fun q => absurd q (by decide)) (fun _ => ?_)
              refine V_iload_n dX0_firstFrom_125 rfl ?_
              refine V_iload dX0_firstFrom_126 rfl ?_
              refine V_mmin dX0_firstFrom_128 om_X0_52 rfl ?_
              refine V_goto dX0_firstFrom_131 ?_
              refine U_istore_n (L2 := [.ref 36, .int v1, .int (jmin v2 (jmax v1 (jmax (I7 37 v3.toNatClampNeg) (I7 37 v4.toNatClampNeg)))), .int v3, .int v4, .int (jmax v1 (jmax (I7 37 v3.toNatClampNeg) (I7 37 v4.toNatClampNeg))), .int (1 : Int32)]) dX0_firstFrom_135 (by decide) rfl ?_
              exact V_wk (wk_eq (wk_eq (wk_eq (wk_eq (wk_eq (wk_j (wk_j (wk_nil)))))))) (key9 _ (by rw [if_neg c2019, if_neg c2020, if_neg c2021]))
/-- two calls bring something in a minute -/
def prM (I : hI_) (p : Nat) (su : Int32) (u x y : Nat) : Prop := cntB2 I p u su x = true ∧ cntB2 I p u su y = true ∧ cK I x 2 = 1 ∧ cK I y 2 = 0 ∧ pcN I x < pcN I y
theorem clW_le {I : hI_} {p : Nat} {su : Int32} {c : Nat} : clW I p su c ≤ 1000 := by
  unfold clW clN
  split
  · omega
  · have := Nat.min_le_left (min 1000 (arr (wI I) (qN I c) (bkN I c) p)) (if cK I c 5 = 1 then lat (wI I) p (qN I c) (vN I c) else 1000)
    have := Nat.min_le_left 1000 (arr (wI I) (qN I c) (bkN I c) p)
    omega
theorem opW_le {I : hI_} {p : Nat} {su : Int32} {c : Nat} : opW I p su c ≤ 10000 := by
  unfold opW opN
  split
  · omega
  · exact arr_le
theorem cnt_iff {I : hI_} {p u : Nat} {su : Int32} {c : Nat} : cntB2 I p u su c = true ↔ opW I p su c ≤ u ∧ u < clW I p su c := by
  unfold cntB2
  rw [Bool.and_eq_true, Nat.ble_eq, Nat.blt_eq]
def ffI (I : hI_) (p t : Nat) (su : Int32) (F : Nat) (D : Nat → Nat → Prop) : Prop := (F = 10000 ∨ (t ≤ F ∧ F ≤ 999 ∧ ∃ x y, x < nC I ∧ y < nC I ∧ prM I p su F x y)) ∧ ∀ x y, D x y → ∀ u, t ≤ u → u ≤ 999 → prM I p su u x y → F ≤ u
theorem ff_st {I : hI_} {p t : Nat} {su : Int32} {F : Nat} {D : Nat → Nat → Prop} {x y : Nat} (h : ffI I p t su F D) (hx : x < nC I) (hy : y < nC I) (s1 : cK I x 2 = 1) (s2 : cK I y 2 = 0) (hp : pcN I x < pcN I y) : ffI I p t su (if max t (max (opW I p su x) (opW I p su y)) < clW I p su x ∧ max t (max (opW I p su x) (opW I p su y)) < clW I p su y then min F (max t (max (opW I p su x) (opW I p su y))) else F) (fun a b => D a b ∨ (a = x ∧ b = y)) := by
  have c1 := @clW_le I p su x
  generalize hB : max t (max (opW I p su x) (opW I p su y)) = B
  obtain ⟨h1, h2⟩ := h
  by_cases z : B < clW I p su x ∧ B < clW I p su y
  · rw [if_pos z]
    have g : t ≤ B ∧ B ≤ 999 ∧ prM I p su B x y := ⟨by omega, by omega, cnt_iff.mpr ⟨by omega, z.1⟩, cnt_iff.mpr ⟨by omega, z.2⟩, s1, s2, hp⟩
    refine ⟨?_, fun a b hD u q1 q2 q3 => ?_⟩
    · rcases Nat.le_total F B with w | w
      · rw [Nat.min_eq_left w]; exact h1
      · rw [Nat.min_eq_right w]; exact Or.inr ⟨g.1, g.2.1, x, y, hx, hy, g.2.2⟩
    · rcases hD with hD | ⟨rfl, rfl⟩
      · have := h2 a b hD u q1 q2 q3; omega
      · have a1 := cnt_iff.mp q3.1
        have a2 := cnt_iff.mp q3.2.1
        omega
  · rw [if_neg z]
    refine ⟨h1, fun a b hD u q1 q2 q3 => ?_⟩
    rcases hD with hD | ⟨rfl, rfl⟩
    · exact h2 a b hD u q1 q2 q3
    · have a1 := cnt_iff.mp q3.1
      have a2 := cnt_iff.mp q3.2.1
      exact absurd ⟨by omega, by omega⟩ z
theorem ff_mono {I : hI_} {p t : Nat} {su : Int32} {F : Nat} {D D2 : Nat → Nat → Prop} (h : ffI I p t su F D) (hd : ∀ x y, D2 x y → D x y ∨ ¬ (cK I x 2 = 1 ∧ cK I y 2 = 0 ∧ pcN I x < pcN I y)) : ffI I p t su F D2 := ⟨h.1, fun x y h2 u q1 q2 q3 => (hd x y h2).elim (fun h3 => h.2 x y h3 u q1 q2 q3) (fun h3 => absurd q3.2.2 h3)⟩
theorem pair_iff {I : hI_} (h : Rel I) {p u : Nat} {su : Int32} : pairS I (lfN I p u su) (nC I) ↔ ∃ x y, x < nC I ∧ y < nC I ∧ prM I p su u x y := by
  have l : ∀ x, x < nC I → ((¬ lfN I p u su x = 0) ↔ cntB2 I p u su x = true) := fun x hx => by
    have := un_ok h hx
    unfold lfN
    rw [if_pos hx]
    by_cases z : cntB2 I p u su x = true
    · rw [if_pos z]; exact ⟨fun _ => z, fun _ => by omega⟩
    · rw [if_neg z]; exact ⟨fun y => absurd rfl y, fun y => absurd y z⟩
  constructor
  · rintro ⟨x, y, hx, hy, a, b, c, d, e⟩
    exact ⟨x, y, hx, hy, (l x hx).mp a, (l y hy).mp b, c, d, e⟩
  · rintro ⟨x, y, hx, hy, a, b, c, d, e⟩
    exact ⟨x, y, hx, hy, (l x hx).mpr a, (l y hy).mpr b, c, d, e⟩
theorem ff_in {E : aE} {P : Int32 → hI_ → hJ_ → Prop} {I0 I : hI_} {J : hJ_} {p t x : Nat} {su : Int32} (h : Rel I0) (hag : agX I0 I) (hO : ∀ j, j < nC I0 → I 37 j = nI (opW I0 p su j) ∧ I 38 j = nI (clW I0 p su j) - 1) (ht : t ≤ 999) (hx : x < nC I0) (k : ∀ F, F ≤ 10000 → ffI I0 p t su F (fun a b => a < x + 1 ∧ b < nC I0) → HX0_firstFrom_6 E P (nI t) (nI F) (nI (x + 1)) I J) : ∀ (m y F : Nat), y + m = nC I0 → F ≤ 10000 → ffI I0 p t su F (fun a b => (a < x ∧ b < nC I0) ∨ (a = x ∧ b < y)) → HX0_firstFrom_20 E P (nI t) (nI F) (nI x) (nI y) I J
  | 0, y, F, hy, hF, hI => by
    have hC := Rel_C h
    refine wX0_firstFrom_20 ?_
    rw [hag 24 rfl, hC.1, nI_1 x]
    refine ⟨fun _ => k F hF (ff_mono hI (fun a b q => Or.inl (by omega))), fun z => absurd (nI_le (by omega) (by omega)) z⟩
  | m + 1, y, F, hy, hF, hI => by
    have hC := Rel_C h
    have hR := Rel_agX hag h
    have hr := (Rel_rows hR).2.1
    have nc := nC_X hag
    have hyy : y < nC I0 := by omega
    have e1 : rat I 24 25 (nI x) 2 = cK I0 x 2 := (((Rel_call hR (by omega)).1 2 (by omega)).1).trans (cK_X hag x 2)
    have e2 : rat I 24 25 (nI y) 2 = cK I0 y 2 := (((Rel_call hR (by omega)).1 2 (by omega)).1).trans (cK_X hag y 2)
    have vx : vp_in (nI x) 12 := vp_in_nI (by omega) (by omega)
    have vy : vp_in (nI y) 12 := vp_in_nI (by omega) (by omega)
    have px := pc_ok h hx
    have py := pc_ok h hyy
    have no : ¬ (cK I0 x 2 = 1 ∧ cK I0 y 2 = 0 ∧ pcN I0 x < pcN I0 y) → HX0_firstFrom_20 E P (nI t) (nI F) (nI x) (nI (y + 1)) I J := fun hn => ff_in h hag hO ht hx k m (y + 1) F (by omega) hF (ff_mono hI (fun a b q => by
      by_cases w : a = x ∧ b = y
      · right; rw [w.1, w.2]; exact hn
      · left; omega))
    refine wX0_firstFrom_20 ?_
    rw [hag 24 rfl, hC.1, nI_1 y, e1, e2]
    refine ⟨fun z => absurd z (nI_ge (by omega) (by omega)), fun _ => ⟨hr, fun z => no (fun w => z w.1), fun z => ⟨hr, fun z2 => no (fun w => z2 w.2.1), fun z2 => ?_⟩⟩⟩
    refine tX0_margin hR (by omega) (by omega) ?_
    rw [pcN_e (hag 82 rfl), pcN_e (hag 82 rfl), nI_clamp (n := x) (by omega), nI_clamp (n := y) (by omega), (hO x hx).1, (hO y hyy).1, (hO x hx).2, (hO y hyy).2]
    refine ⟨fun _ => vx, fun _ => vy, fun _ => vx, fun _ _ => vy, ?_⟩
    have s0 := sub_le0 (a := pcN I0 y) (b := pcN I0 x) (by omega) (by omega)
    by_cases q : pcN I0 x < pcN I0 y
    · rw [if_neg (fun w => by have := s0.mp w; omega)]
      have o1 := @opW_le I0 p su x
      have o2 := @opW_le I0 p su y
      have c1 := @clW_le I0 p su x
      have c2 := @clW_le I0 p su y
      rw [jmax_nI (a := opW I0 p su x) (by omega) (by omega), jmax_nI (by omega) (by omega), jmin_nI (by omega) (by omega)]
      have st := ff_st hI hx hyy z z2 q
      have hB : max t (max (opW I0 p su x) (opW I0 p su y)) ≤ 10000 := by omega
      generalize max t (max (opW I0 p su x) (opW I0 p su y)) = B at st hB
      have k1 := lt_nIm (T := clW I0 p su x) (f := B) (by omega) (by omega)
      have k2 := lt_nIm (T := clW I0 p su y) (f := B) (by omega) (by omega)
      have ev : (if nI (clW I0 p su x) - 1 < nI B then nI F else (if nI (clW I0 p su y) - 1 < nI B then nI F else nI (min F B))) = nI (if B < clW I0 p su x ∧ B < clW I0 p su y then min F B else F) := by
        by_cases w1 : B < clW I0 p su x
        · rw [if_neg (fun w => by have := k1.mp w; omega)]
          by_cases w2 : B < clW I0 p su y
          · rw [if_neg (fun w => by have := k2.mp w; omega), if_pos ⟨w1, w2⟩]
          · rw [if_pos (k2.mpr (by omega)), if_neg (fun w => w2 w.2)]
        · rw [if_pos (k1.mpr (by omega)), if_neg (fun w => w1 w.1)]
      rw [ev]
      refine ff_in h hag hO ht hx k m (y + 1) _ (by omega) (by split <;> omega) (ff_mono st (fun a b w => Or.inl ?_))
      omega
    · rw [if_pos (s0.mpr (by omega))]
      exact no (fun w => q w.2.2)
theorem ff_out {E : aE} {P : Int32 → hI_ → hJ_ → Prop} {I0 I : hI_} {J : hJ_} {p t : Nat} {su : Int32} (h : Rel I0) (hag : agX I0 I) (hO : ∀ j, j < nC I0 → I 37 j = nI (opW I0 p su j) ∧ I 38 j = nI (clW I0 p su j) - 1) (ht : t ≤ 999) (k : ∀ F, F ≤ 10000 → ffI I0 p t su F (fun a b => a < nC I0 ∧ b < nC I0) → P (if ¬ nI F = 10000 then nI F else -4) I J) : ∀ (m x F : Nat), x + m = nC I0 → F ≤ 10000 → ffI I0 p t su F (fun a b => a < x ∧ b < nC I0) → HX0_firstFrom_6 E P (nI t) (nI F) (nI x) I J
  | 0, x, F, hx, hF, hI => by
    have hC := Rel_C h
    have e : x = nC I0 := by omega
    rw [e] at hI
    refine wX0_firstFrom_6 ?_
    rw [hag 24 rfl, hC.1]
    exact ⟨fun _ => k F hF hI, fun z => absurd (nI_le (by omega) (by omega)) z⟩
  | m + 1, x, F, hx, hF, hI => by
    have hC := Rel_C h
    refine wX0_firstFrom_6 ?_
    rw [hag 24 rfl, hC.1]
    refine ⟨fun z => absurd z (nI_ge (by omega) (by omega)), fun _ => ?_⟩
    exact ff_in h hag hO ht (by omega) (fun F2 h1 h2 => ff_out h hag hO ht k m (x + 1) F2 (by omega) h1 h2) (nC I0) 0 F (by omega) hF (ff_mono hI (fun a b w => Or.inl (by omega)))
set_option maxHeartbeats 4000000 in
set_option maxRecDepth 20000 in
theorem wX11_chance {E : aE} {P : Int32 → hI_ → hJ_ → Prop} {I : hI_} {J : hJ_} {a0 : Int32} {a1 : Int32} {a2 : Int32} (k : ((¬ (0 ≤ a0 ∧ a0 ≤ I 3 6 - 1) → P (-1 : Int32) I J) ∧ ((0 ≤ a0 ∧ a0 ≤ I 3 6 - 1) → (((0 ≤ a1 ∧ a1 ≤ 999) → CallV E mX0_watch [.ref 36, .int a0, .int a2] SH I J (fun I4 J5 => CallI E mX0_firstFrom [.ref 36, .int a1] SH I4 J5 (fun x6 I7 J8 => P x6 I7 J8))) ∧ (¬ ((0 ≤ a1 ∧ a1 ≤ 999)) → P (-1 : Int32) I J))))) : CallI E mX11_chance [.ref 0, .int a0, .int a1, .int a2] SH I J P := by
  refine Call_of (L := [.ref 0, .int a0, .int a1, .int a2]) ok_X11_chance.1 rfl rfl ?_
  refine V_aload_n dX11_chance_0 rfl ?_
  refine V_iload_n dX11_chance_1 rfl ?_
  refine U_callV1 [.int a0] dX11_chance_2 ov_X11_148 s_0 rfl ⟨rfl, rfl, rfl⟩ rfl rfl rfl (tX11_isPlace ?_)
  refine U_ifb_eq dX11_chance_5 (fun c1 => ?_) (fun c1 => ?_)
  · have k := k.1 c1
    refine V_iconst (v := (-1 : Int32)) dX11_chance_15 rfl ?_
    exact V_iret dX11_chance_16 ⟨_, rfl, rfl⟩ rfl rfl ⟨_, _, _, rfl, rfl, k⟩
  · have k := k.2 c1
    refine V_iload_n dX11_chance_8 rfl ?_
    refine U_callS1 [.int a1] dX11_chance_9 os_X11_159 ⟨rfl, rfl, rfl⟩ rfl rfl rfl (tX11_isMinute ?_)
    refine U_ifb_ne dX11_chance_12 (fun c2 => ?_) (fun c2 => ?_)
    · have k := k.1 c2
      refine V_aload_n dX11_chance_17 rfl ?_
      refine U_getR dX11_chance_18 fl_X11_69 s_0 rfl ?_
      refine V_iload_n dX11_chance_21 rfl ?_
      refine V_iload_n dX11_chance_22 rfl ?_
      refine U_callV0 [.int a0, .int a2] dX11_chance_23 ov_X11_249 s_36 rfl ⟨rfl, rfl, rfl⟩ rfl rfl rfl (CallV_mono k (fun I4 J5 k => ?_))
      refine V_aload_n dX11_chance_26 rfl ?_
      refine U_getR dX11_chance_27 fl_X11_69 s_0 rfl ?_
      refine V_iload_n dX11_chance_30 rfl ?_
      refine U_callV1 [.int a1] dX11_chance_31 ov_X11_262 s_36 rfl ⟨rfl, rfl, rfl⟩ rfl rfl rfl (CallI_mono k (fun x6 I7 J8 k => ?_))
      exact V_iret dX11_chance_34 ⟨_, rfl, rfl⟩ rfl rfl ⟨_, _, _, rfl, rfl, k⟩
    · have k := k.2 c2
      refine V_iconst (v := (-1 : Int32)) dX11_chance_15 rfl ?_
      exact V_iret dX11_chance_16 ⟨_, rfl, rfl⟩ rfl rfl ⟨_, _, _, rfl, rfl, k⟩
def HX12_chance_20 (E : aE) (P : Int32 → hI_ → hJ_ → Prop) (v1 : Int32) (v3 : Int32) (v4 : Int32) (I : hI_) (J : hJ_) : Prop := V E mX12_chance (kI SH P) 20 [.ref 68, .int v1, .retAddr 0, .int v3, .int v4] [] (SH, I, J) (0, 0)
set_option maxHeartbeats 4000000 in
set_option maxRecDepth 20000 in
theorem wX12_chance {E : aE} {P : Int32 → hI_ → hJ_ → Prop} {I : hI_} {J : hJ_} {a0 : Int32} {a1 : Int32} {a2 : Int32} (k : ((¬ (0 ≤ a0 ∧ a0 ≤ I 73 0 - 1) → P (-1 : Int32) I J) ∧ ((0 ≤ a0 ∧ a0 ≤ I 73 0 - 1) → (((0 ≤ a1 ∧ a1 ≤ 999) → HX12_chance_20 E P a0 a2 a1 I J) ∧ (¬ ((0 ≤ a1 ∧ a1 ≤ 999)) → P (-1 : Int32) I J))))) : CallI E mX12_chance [.ref 68, .int a0, .int a1, .int a2] SH I J P := by
  refine Call_of (L := [.ref 68, .int a0, .int a1, .int a2, .retAddr 0]) ok_X12_chance.1 rfl rfl ?_
  refine V_aload_n dX12_chance_0 rfl ?_
  refine V_iload_n dX12_chance_1 rfl ?_
  refine U_callV1 [.int a0] dX12_chance_2 ov_X12_167 s_68 rfl ⟨rfl, rfl, rfl⟩ rfl rfl rfl (tX12_isPlace ?_)
  refine U_ifb_eq dX12_chance_5 (fun c1 => ?_) (fun c1 => ?_)
  · have k := k.1 c1
    refine V_iconst (v := (-1 : Int32)) dX12_chance_15 rfl ?_
    exact V_iret dX12_chance_16 ⟨_, rfl, rfl⟩ rfl rfl ⟨_, _, _, rfl, rfl, k⟩
  · have k := k.2 c1
    refine V_iload_n dX12_chance_8 rfl ?_
    refine U_callS1 [.int a1] dX12_chance_9 os_X12_179 ⟨rfl, rfl, rfl⟩ rfl rfl rfl (tX12_isMinute ?_)
    refine U_ifb_ne dX12_chance_12 (fun c2 => ?_) (fun c2 => ?_)
    · have k := k.1 c2
      refine V_iload_n dX12_chance_17 rfl ?_
      refine U_istore (L2 := [.ref 68, .int a0, .int a1, .int a2, .int a1]) dX12_chance_18 (by decide) rfl ?_
      exact V_wk (wk_eq (wk_eq (wk_j (wk_eq (wk_eq (wk_nil)))))) k
    · have k := k.2 c2
      refine V_iconst (v := (-1 : Int32)) dX12_chance_15 rfl ?_
      exact V_iret dX12_chance_16 ⟨_, rfl, rfl⟩ rfl rfl ⟨_, _, _, rfl, rfl, k⟩
set_option maxHeartbeats 4000000 in
set_option maxRecDepth 20000 in
theorem wX12_chance_20 {E : aE} {P : Int32 → hI_ → hJ_ → Prop} {I : hI_} {J : hJ_} {v1 : Int32} {v3 : Int32} {v4 : Int32} (k : (((999 : Int32) < v4 → P (-4 : Int32) I J) ∧ (¬ ((999 : Int32) < v4) → CallV E mX12_layGain [.ref 68, .int v1, .int v4, .int v3] SH I J (fun I3 J4 => (((I3 68 28) ≤ (0 : Int32) → HX12_chance_20 E P v1 v3 (v4 + (1 : Int32)) I3 J4) ∧ (¬ ((I3 68 28) ≤ (0 : Int32)) → P v4 I3 J4)))))) : HX12_chance_20 E P v1 v3 v4 I J := by
  show V E mX12_chance (kI SH P) 20 [.ref 68, .int v1, .retAddr 0, .int v3, .int v4] [] (SH, I, J) (0, 0)
  refine V_iload dX12_chance_20 rfl ?_
  refine V_sipush (v := (999 : Int32)) dX12_chance_22 rfl ?_
  refine V_icmp_gt dX12_chance_25 (fun c1 => ?_) (fun c1 => ?_)
  · have k := k.1 c1
    refine V_bipush (v := (-4 : Int32)) dX12_chance_52 rfl ?_
    exact V_iret dX12_chance_54 ⟨_, rfl, rfl⟩ rfl rfl ⟨_, _, _, rfl, rfl, k⟩
  · have k := k.2 c1
    refine V_aload_n dX12_chance_28 rfl ?_
    refine V_iload_n dX12_chance_29 rfl ?_
    refine V_iload dX12_chance_30 rfl ?_
    refine V_iload_n dX12_chance_32 rfl ?_
    refine U_callV0 [.int v1, .int v4, .int v3] dX12_chance_33 ov_X12_267 s_68 rfl ⟨rfl, rfl, rfl⟩ rfl rfl rfl (CallV_mono k (fun I3 J4 k => ?_))
    refine V_aload_n dX12_chance_36 rfl ?_
    refine U_getI dX12_chance_37 fl_X12_258 s_68 rfl ?_
    refine V_if_le dX12_chance_40 (fun c5 => ?_) (fun c5 => ?_)
    · have k := k.1 c5
      refine U_iinc (v := v4 + (1 : Int32)) (L2 := [.ref 68, .int v1, .retAddr 0, .int v3, .int (v4 + (1 : Int32))]) dX12_chance_46 (by decide) rfl rfl rfl ?_
      refine V_goto dX12_chance_49 ?_
      exact k
    · have k := k.2 c5
      refine V_iload dX12_chance_43 rfl ?_
      exact V_iret dX12_chance_45 ⟨_, rfl, rfl⟩ rfl rfl ⟨_, _, _, rfl, rfl, k⟩
theorem chM_loop {E : aE} {P : Int32 → hI_ → hJ_ → Prop} {I0 : hI_} {J : hJ_} {p t F : Nat} {su : Int32} (h : Rel I0) (hp : p < nP I0) (hF : F ≤ 10000) (hI : ffI I0 p t su F (fun a b => a < nC I0 ∧ b < nC I0)) (k : ∀ I2, agM I0 I2 → P (if ¬ nI F = 10000 then nI F else -4) I2 J) : ∀ (m u : Nat) (I : hI_), u + m = 1000 → t ≤ u → (u ≤ F ∨ F = 10000) → agM I0 I → HX12_chance_20 E P (nI p) su (nI u) I J
  | 0, u, I, hu, htu, huF, hag => by
    have e : u = 1000 := by omega
    subst e
    refine wX12_chance_20 ⟨fun _ => ?_, fun z => absurd (show (999 : Int32) < nI 1000 by decide) z⟩
    have eF : F = 10000 := by rcases hI.1 with w | w <;> omega
    have := k I hag
    rw [eF, if_neg (fun w => w rfl)] at this
    exact this
  | m + 1, u, I, hu, htu, huF, hag => by
    have hR := Rel_agM hag h
    refine wX12_chance_20 ⟨fun z => absurd z (nI_nlt (a := 999) (b := u) (by omega) (by omega)), fun _ => ?_⟩
    refine tX12_layGain hR (by rw [nP_M hag]; exact hp) (by omega) (fun I3 hag3 q1 q2 => ?_)
    have e82 : I 82 = I0 82 := hag.1 82 rfl
    have pe : pairS I (lfN I p u su) (nC I) ↔ ∃ x y, x < nC I0 ∧ y < nC I0 ∧ prM I0 p su u x y := by
      rw [pair_iff hR, nC_M hag]
      have : ∀ x y, prM I p su u x y ↔ prM I0 p su u x y := fun x y => by
        unfold prM
        rw [cntB2_e (wI_M hag) e82, cntB2_e (wI_M hag) e82, cK_M hag, cK_M hag, pcN_e e82, pcN_e e82]
      constructor
      · rintro ⟨x, y, a, b, c⟩; exact ⟨x, y, a, b, (this x y).mp c⟩
      · rintro ⟨x, y, a, b, c⟩; exact ⟨x, y, a, b, (this x y).mpr c⟩
    have gp := gnN_pos hR (p := p) (t := u) (su := su)
    rw [q1]
    have ag := agM_tr hag hag3
    refine ⟨fun z => ?_, fun z => ?_⟩
    · rw [nI_1]
      refine chM_loop h hp hF hI k m (u + 1) I3 (by omega) (by omega) ?_ ag
      have np := gp.mp z
      rcases hI.1 with w | ⟨w1, w2, x, y, hx, hy, w3⟩
      · right; exact w
      · left
        rcases huF with v | v
        · rcases Nat.lt_or_ge u F with q | q
          · exact q
          · have : u = F := by omega
            subst this
            exact absurd (pe.mpr ⟨x, y, hx, hy, w3⟩) np
        · omega
    · have np : pairS I (lfN I p u su) (nC I) := Classical.byContradiction (fun w => z (gp.mpr w))
      obtain ⟨x, y, hx, hy, hm⟩ := pe.mp np
      have := hI.2 x y ⟨hx, hy⟩ u htu (by omega) hm
      have eF : F = u := by omega
      have kk := k I3 ag
      rw [if_pos (fun w => by have := (nI_eq (b := 10000) (by omega) (by omega)).mp w; omega), eF] at kk
      exact kk
theorem op_chance {E : aE} {I : hI_} {J : hJ_} {P : hI_ → hJ_ → Prop} {a0 a1 a2 : Int32} (h : Rel I) (hP : ∀ I2 J2, Rel I2 → P I2 J2) : Op2 E mX11_chance mX12_chance [.int a0, .int a1, .int a2] I J P := by
  have hp := Rel_P h
  have e := Rel_pl h
  have kI := hP I J h
  refine wX11_chance ⟨fun c1 => wX12_chance ⟨fun _ => ⟨rfl, kI⟩, fun d => absurd (by rw [e]; exact d) c1⟩, fun c1 => ⟨fun c2 => ?_, fun c2 => wX12_chance ⟨fun _ => ⟨rfl, kI⟩, fun _ => ⟨fun d => absurd d c2, fun _ => ⟨rfl, kI⟩⟩⟩⟩⟩
  rw [e] at c1
  have c1' := c1
  rw [hp.2.1] at c1'
  obtain ⟨x, hx, rfl⟩ := in_lt (by omega) c1'
  obtain ⟨t, ht, rfl⟩ := in999 c2
  refine tX0_watch h hx (fun I2 hag hO => ?_)
  have hX := agS_X hag
  have hR := Rel_agX hX h
  refine wX0_firstFrom (ff_out (p := x) (su := a2) h hX hO ht (fun F hF hI => ?_) (nC I) 0 10000 (by omega) (Nat.le_refl _) ⟨Or.inl rfl, fun a b q => by omega⟩)
  have hI2 : ffI I2 x t a2 F (fun a b => a < nC I2 ∧ b < nC I2) := by
    have : ∀ u a b, prM I2 x a2 u a b ↔ prM I x a2 u a b := fun u a b => by
      unfold prM
      rw [cntB2_e (wI_X hX) (hX 82 rfl), cntB2_e (wI_X hX) (hX 82 rfl), cK_X hX, cK_X hX, pcN_e (hX 82 rfl), pcN_e (hX 82 rfl)]
    unfold ffI
    rw [nC_X hX]
    refine ⟨?_, fun a b q u q1 q2 q3 => hI.2 a b q u q1 q2 ((this u a b).mp q3)⟩
    rcases hI.1 with w | ⟨w1, w2, a, b, ha, hb, w3⟩
    · exact Or.inl w
    · exact Or.inr ⟨w1, w2, a, b, ha, hb, (this F a b).mpr w3⟩
  refine wX12_chance ⟨fun d => absurd (by rw [hX 73 rfl]; exact c1) d, fun _ => ⟨fun _ => ?_, fun d => absurd c2 d⟩⟩
  refine chM_loop hR (by rw [nP_X hX]; exact hx) hF hI2 (fun I3 hag3 => ⟨rfl, hP I3 J (Rel_agM hag3 hR)⟩) (1000 - t) t I2 (by omega) (Nat.le_refl _) ?_ agM_rf
  rcases hI.1 with w | w
  · exact Or.inr w
  · exact Or.inl w.1
