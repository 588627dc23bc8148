/-! trading, round by round -/
def trL (L : Nat → Nat) (x y : Nat) (j : Nat) : Nat := if j = x ∨ j = y then L j - min (L x) (L y) else L j
/-- a round: whom to buy of and whom to sell to, if it brings something -/
def trD (I : hI_) (L : Nat → Nat) (n : Nat) : Option (Nat × Nat) :=
  match bsN I L 1 n, bsN I L 0 n with
  | some x, some y => if pcN I x < pcN I y then some (x, y) else none
  | _, _ => none
def trF (I : hI_) (n : Nat) : Nat → (Nat → Nat) → Nat → Nat → Nat × Nat
  | 0, _, br, un => (br, un)
  | f + 1, L, br, un => match trD I L n with
    | some (x, y) => trF I n f (trL L x y) (br + min (L x) (L y) * (pcN I y - pcN I x)) (un + min (L x) (L y))
    | none => (br, un)
theorem trD_ok {I : hI_} {L : Nat → Nat} {n x y : Nat} (h : trD I L n = some (x, y)) : bsN I L 1 n = some x ∧ bsN I L 0 n = some y ∧ pcN I x < pcN I y ∧ x < n ∧ y < n ∧ x ≠ y ∧ ¬ L x = 0 ∧ ¬ L y = 0 := by
  unfold trD at h
  cases h1 : bsN I L 1 n with
  | none => rw [h1] at h; cases h
  | some a =>
    cases h2 : bsN I L 0 n with
    | none => rw [h1, h2] at h; cases h
    | some b =>
      rw [h1, h2] at h
      dsimp only at h
      by_cases z : pcN I a < pcN I b
      · rw [if_pos z] at h
        cases h
        have a1 := bsN_lt n x h1
        have a2 := bsN_lt n y h2
        refine ⟨rfl, rfl, z, a1.1, a2.1, fun e => ?_, a1.2.1, a2.2.1⟩
        have q1 := a1.2.2
        rw [e, a2.2.2] at q1
        exact absurd q1 (by decide)
      · rw [if_neg z] at h; cases h
theorem trL_le {L : Nat → Nat} {x y j : Nat} (h : L j ≤ 99) : trL L x y j ≤ 99 := by
  unfold trL; split <;> omega
/-- how many calls have units left -/
def nzC (L : Nat → Nat) (n : Nat) : Nat := cntB (fun j => decide (0 < L j)) n
theorem nzC_dec {I : hI_} {L : Nat → Nat} {n x y : Nat} (h : trD I L n = some (x, y)) : nzC (trL L x y) n < nzC L n := by
  obtain ⟨-, -, -, hx, hy, hne, lx, ly⟩ := trD_ok h
  have sub : ∀ j, decide (0 < trL L x y j) = true → decide (0 < L j) = true := fun j hj => by
    have := of_decide_eq_true hj
    refine decide_eq_true ?_
    unfold trL at this
    split at this <;> omega
  rcases Nat.le_total (L x) (L y) with q | q
  · refine cntB_lt sub (u := x) (decide_eq_false ?_) (decide_eq_true (by omega)) n hx
    unfold trL
    rw [if_pos (Or.inl rfl)]
    omega
  · refine cntB_lt sub (u := y) (decide_eq_false ?_) (decide_eq_true (by omega)) n hy
    unfold trL
    rw [if_pos (Or.inr rfl)]
    omega
theorem bs_0 {I : hI_} {L : Nat → Nat} {n : Nat} (h : nzC L n = 0) : trD I L n = none := by
  cases hd : trD I L n with
  | none => rfl
  | some p =>
    obtain ⟨x, y⟩ := p
    have := nzC_dec hd
    omega
theorem pcN_e {I I2 : hI_} (h : I2 82 = I 82) (c : Nat) : pcN I2 c = pcN I c := by unfold pcN cK; rw [h]
theorem bsN_e {I I2 : hI_} (h : I2 82 = I 82) (L : Nat → Nat) (s : Int32) : ∀ n, bsN I2 L s n = bsN I L s n
  | 0 => rfl
  | n + 1 => by
    have e1 : bsN I2 L s (n + 1) = bsP I2 L s n (bsN I2 L s n) := rfl
    have e2 : bsN I L s (n + 1) = bsP I L s n (bsN I L s n) := rfl
    have ec : cK I2 n 2 = cK I n 2 := by unfold cK; rw [h]
    have eb : ∀ b, btB I2 s n b = btB I s n b := fun b => by unfold btB; rw [pcN_e h, pcN_e h]
    rw [e1, e2, bsN_e h L s n]
    cases bsN I L s n with
    | none => unfold bsP; rw [ec]
    | some b => unfold bsP; dsimp only; rw [ec, eb]
def HX0_trade_12 (E : aE) (P : hI_ → hJ_ → Prop) (v1 : Int32) (v2 : Int32) (I : hI_) (J : hJ_) : Prop := V E mX0_trade (kV SH P) 12 [.ref 36, .int v1, .int v2, .retAddr 0, .retAddr 0, .retAddr 0] [] (SH, I, J) (0, 0)
def HX0_trade_80 (E : aE) (P : hI_ → hJ_ → Prop) (v2 : Int32) (I : hI_) (J : hJ_) : Prop := V E mX0_trade (kV SH P) 80 [.ref 36, .retAddr 0, .int v2, .retAddr 0, .retAddr 0, .retAddr 0] [] (SH, I, J) (0, 0)
set_option maxHeartbeats 4000000 in
set_option maxRecDepth 20000 in
theorem wX0_trade {E : aE} {P : hI_ → hJ_ → Prop} {I : hI_} {J : hJ_} {a0 : Int32} (k : HX0_trade_12 E P a0 (0 : Int32) (upI (upI I 36 5 (0 : Int32)) 36 6 (0 : Int32)) J) : CallV E mX0_trade [.ref 36, .int a0] SH I J P := by
  refine Call_of (L := [.ref 36, .int a0, .retAddr 0, .retAddr 0, .retAddr 0, .retAddr 0]) ok_X0_trade.1 rfl rfl ?_
  refine V_aload_n dX0_trade_0 rfl ?_
  refine V_iconst (v := (0 : Int32)) dX0_trade_1 rfl ?_
  refine U_putI dX0_trade_2 fp_X0_60 s_36 rfl ?_
  refine V_aload_n dX0_trade_5 rfl ?_
  refine V_iconst (v := (0 : Int32)) dX0_trade_6 rfl ?_
  refine U_putI dX0_trade_7 fp_X0_63 s_36 rfl ?_
  refine V_iconst (v := (0 : Int32)) dX0_trade_10 rfl ?_
  refine U_istore_n (L2 := [.ref 36, .int a0, .int (0 : Int32), .retAddr 0, .retAddr 0, .retAddr 0]) dX0_trade_11 (by decide) rfl ?_
  exact k
set_option maxHeartbeats 4000000 in
set_option maxRecDepth 20000 in
theorem wX0_trade_12 {E : aE} {P : hI_ → hJ_ → Prop} {I : hI_} {J : hJ_} {v1 : Int32} {v2 : Int32} (k : (((I 24 3) ≤ v2 → HX0_trade_80 E P (0 : Int32) I J) ∧ (¬ ((I 24 3) ≤ v2) → (vp_in v2 12) ∧ ((¬ (v1 < (I 37 v2.toNatClampNeg))) → vp_in v2 12) ∧ ((((¬ (v1 < (I 37 v2.toNatClampNeg))) ∧ (¬ ((I 38 v2.toNatClampNeg) < v1)))) → rok I 24 8 12) ∧ (vp_in v2 12) ∧ HX0_trade_12 E P v1 (v2 + (1 : Int32)) (upI I 39 v2.toNatClampNeg (if ¬ ((¬ (v1 < (I 37 v2.toNatClampNeg))) ∧ (¬ ((I 38 v2.toNatClampNeg) < v1))) then (0 : Int32) else (rat I 24 25 v2 (4 : Int32)))) J))) : HX0_trade_12 E P v1 v2 I J := by
  show V E mX0_trade (kV SH P) 12 [.ref 36, .int v1, .int v2, .retAddr 0, .retAddr 0, .retAddr 0] [] (SH, I, J) (0, 0)
  refine V_iload_n dX0_trade_12 rfl ?_
  refine V_aload_n dX0_trade_13 rfl ?_
  refine U_getR dX0_trade_14 fl_X0_31 s_36 rfl ?_
  refine U_getI dX0_trade_17 fl_X0_32 s_24 rfl ?_
  refine V_icmp_ge dX0_trade_20 (fun c1 => ?_) (fun c1 => ?_)
  · have k := k.1 c1
    refine V_iconst (v := (0 : Int32)) dX0_trade_78 rfl ?_
    refine U_istore_n (L2 := [.ref 36, .int v1, .int (0 : Int32), .retAddr 0, .retAddr 0, .retAddr 0]) dX0_trade_79 (by decide) rfl ?_
    exact V_wk (wk_eq (wk_j (wk_eq (wk_j (wk_j (wk_j (wk_nil))))))) k
  · have k := k.2 c1
    refine V_aload_n dX0_trade_23 rfl ?_
    refine U_getR dX0_trade_24 fl_X0_9 s_36 rfl ?_
    refine V_iload_n dX0_trade_27 rfl ?_
    obtain ⟨hb2, k⟩ := k
    refine U_iald dX0_trade_28 s_37 hb2 ?_
    refine V_iload_n dX0_trade_29 rfl ?_
    obtain ⟨hc2006, k⟩ := k
    have key3 : ∀ (y2005 : Int32), y2005 = (b2i ((¬ (v1 < (I 37 v2.toNatClampNeg))) ∧ (¬ ((I 38 v2.toNatClampNeg) < v1)))) → V E mX0_trade (kV SH P) 48 [.ref 36, .int v1, .int v2, .retAddr 0, .retAddr 0, .retAddr 0] [.int y2005] (SH, I, J) (0, 0) := by
      intro y2005 ey2005
      subst ey2005
      refine U_istore_n (L2 := [.ref 36, .int v1, .int v2, .int (b2i ((¬ (v1 < (I 37 v2.toNatClampNeg))) ∧ (¬ ((I 38 v2.toNatClampNeg) < v1)))), .retAddr 0, .retAddr 0]) dX0_trade_48 (by decide) rfl ?_
      refine V_aload_n dX0_trade_49 rfl ?_
      refine U_getR dX0_trade_50 fl_X0_18 s_36 rfl ?_
      refine V_iload_n dX0_trade_53 rfl ?_
      refine V_iload_n dX0_trade_54 rfl ?_
      obtain ⟨hc4010, k⟩ := k
      have key2007 : ∀ (y4009 : Int32), y4009 = (if ¬ ((¬ (v1 < (I 37 v2.toNatClampNeg))) ∧ (¬ ((I 38 v2.toNatClampNeg) < v1))) then (0 : Int32) else (rat I 24 25 v2 (4 : Int32))) → V E mX0_trade (kV SH P) 71 [.ref 36, .int v1, .int v2, .int (b2i ((¬ (v1 < (I 37 v2.toNatClampNeg))) ∧ (¬ ((I 38 v2.toNatClampNeg) < v1)))), .retAddr 0, .retAddr 0] [.int y4009, .int v2, .ref 39] (SH, I, J) (0, 0) := by
        intro y4009 ey4009
        subst ey4009
        obtain ⟨hb4011, k⟩ := k
        refine U_iast dX0_trade_71 s_39 hb4011 ?_
        refine U_iinc (v := v2 + (1 : Int32)) (L2 := [.ref 36, .int v1, .int (v2 + (1 : Int32)), .int (b2i ((¬ (v1 < (I 37 v2.toNatClampNeg))) ∧ (¬ ((I 38 v2.toNatClampNeg) < v1)))), .retAddr 0, .retAddr 0]) dX0_trade_72 (by decide) rfl rfl rfl ?_
        refine V_goto dX0_trade_75 ?_
        exact V_wk (wk_eq (wk_eq (wk_eq (wk_j (wk_j (wk_j (wk_nil))))))) k
      refine U_ifb_eq dX0_trade_55 (fun c4012 => ?_) (fun c4012 => ?_)
      · refine V_iconst (v := (0 : Int32)) dX0_trade_70 rfl ?_
        exact key2007 _ (by rw [if_pos c4012])
      · refine V_aload_n dX0_trade_58 rfl ?_
        refine U_getR dX0_trade_59 fl_X0_31 s_36 rfl ?_
        refine V_iload_n dX0_trade_62 rfl ?_
        refine V_iconst (v := (4 : Int32)) dX0_trade_63 rfl ?_
        have hp4008 := hc4010 c4012
        refine U_callV1 [.int v2, .int (4 : Int32)] dX0_trade_64 ov_X0_38 s_24 rfl ⟨rfl, rfl, rfl⟩ rfl rfl rfl (tX5_at s_24 s_25 (by decide) hp4008 ?_)
        refine V_goto dX0_trade_67 ?_
        exact key2007 _ (by rw [if_neg (not_not_intro c4012)])
    refine V_icmp_gt dX0_trade_30 (fun c4013 => ?_) (fun c4013 => ?_)
    · refine V_iconst (v := (0 : Int32)) dX0_trade_47 rfl ?_
      exact key3 _ ((b2i_0.mpr (fun q => q.1 c4013)).symm)
    · refine V_iload_n dX0_trade_33 rfl ?_
      refine V_aload_n dX0_trade_34 rfl ?_
      refine U_getR dX0_trade_35 fl_X0_15 s_36 rfl ?_
      refine V_iload_n dX0_trade_38 rfl ?_
      have hb2004 := hc2006 c4013
      refine U_iald dX0_trade_39 s_38 hb2004 ?_
      refine V_icmp_gt dX0_trade_40 (fun c4014 => ?_) (fun c4014 => ?_)
      · refine V_iconst (v := (0 : Int32)) dX0_trade_47 rfl ?_
        exact key3 _ ((b2i_0.mpr (fun q => (fun q => q c4014) q.2)).symm)
      · refine V_iconst (v := (1 : Int32)) dX0_trade_43 rfl ?_
        refine V_goto dX0_trade_44 ?_
        exact key3 _ ((b2i_1.mpr (⟨c4013, c4014⟩)).symm)
set_option maxHeartbeats 4000000 in
set_option maxRecDepth 20000 in
theorem wX0_trade_80 {E : aE} {P : hI_ → hJ_ → Prop} {I : hI_} {J : hJ_} {v2 : Int32} (k : (((12 : Int32) ≤ v2 → P I J) ∧ (¬ ((12 : Int32) ≤ v2) → CallI E mX0_best [.ref 36, .int (1 : Int32)] SH I J (fun x2 I3 J4 => CallI E mX0_best [.ref 36, .int (0 : Int32)] SH I3 J4 (fun x5 I6 J7 => ((x2 < (0 : Int32) → P I6 J7) ∧ (¬ (x2 < (0 : Int32)) → ((x5 < (0 : Int32) → P I6 J7) ∧ (¬ (x5 < (0 : Int32)) → CallI E mX0_margin [.ref 36, .int x2, .int x5] SH I6 J7 (fun x10 I11 J12 => (((0 : Int32) < x10 → (vp_in x2 12) ∧ (vp_in x5 12) ∧ (vp_in x2 12) ∧ (vp_in x2 12) ∧ (vp_in x5 12) ∧ (vp_in x5 12) ∧ CallI E mX0_margin [.ref 36, .int x2, .int x5] SH (upI (upI (upI I11 39 x2.toNatClampNeg ((I11 39 x2.toNatClampNeg) - (jmin (I11 39 x2.toNatClampNeg) (I11 39 x5.toNatClampNeg)))) 39 x5.toNatClampNeg (((upI I11 39 x2.toNatClampNeg ((I11 39 x2.toNatClampNeg) - (jmin (I11 39 x2.toNatClampNeg) (I11 39 x5.toNatClampNeg)))) 39 x5.toNatClampNeg) - (jmin (I11 39 x2.toNatClampNeg) (I11 39 x5.toNatClampNeg)))) 36 6 ((I11 36 6) + (jmin (I11 39 x2.toNatClampNeg) (I11 39 x5.toNatClampNeg)))) J12 (fun x20 I21 J22 => HX0_trade_80 E P (v2 + (1 : Int32)) (upI I21 36 5 ((I11 36 5) + ((jmin (I11 39 x2.toNatClampNeg) (I11 39 x5.toNatClampNeg)) * x20))) J22)) ∧ (¬ ((0 : Int32) < x10) → P I11 J12)))))))))))) : HX0_trade_80 E P v2 I J := by
  show V E mX0_trade (kV SH P) 80 [.ref 36, .retAddr 0, .int v2, .retAddr 0, .retAddr 0, .retAddr 0] [] (SH, I, J) (0, 0)
  refine V_iload_n dX0_trade_80 rfl ?_
  refine V_bipush (v := (12 : Int32)) dX0_trade_81 rfl ?_
  refine V_icmp_ge dX0_trade_83 (fun c1 => ?_) (fun c1 => ?_)
  · have k := k.1 c1
    exact V_vret dX0_trade_196 rfl rfl rfl ⟨_, _, rfl, k⟩
  · have k := k.2 c1
    refine V_aload_n dX0_trade_86 rfl ?_
    refine V_iconst (v := (1 : Int32)) dX0_trade_87 rfl ?_
    refine U_callV1 [.int (1 : Int32)] dX0_trade_88 ov_X0_66 s_36 rfl ⟨rfl, rfl, rfl⟩ rfl rfl rfl (CallI_mono k (fun x2 I3 J4 k => ?_))
    refine U_istore_n (L2 := [.ref 36, .retAddr 0, .int v2, .int x2, .retAddr 0, .retAddr 0]) dX0_trade_91 (by decide) rfl ?_
    refine V_aload_n dX0_trade_92 rfl ?_
    refine V_iconst (v := (0 : Int32)) dX0_trade_93 rfl ?_
    refine U_callV1 [.int (0 : Int32)] dX0_trade_94 ov_X0_66 s_36 rfl ⟨rfl, rfl, rfl⟩ rfl rfl rfl (CallI_mono k (fun x5 I6 J7 k => ?_))
    refine U_istore (L2 := [.ref 36, .retAddr 0, .int v2, .int x2, .int x5, .retAddr 0]) dX0_trade_97 (by decide) rfl ?_
    refine V_iload_n dX0_trade_99 rfl ?_
    refine V_if_lt dX0_trade_100 (fun c8 => ?_) (fun c8 => ?_)
    · have k := k.1 c8
      exact V_vret dX0_trade_118 rfl rfl rfl ⟨_, _, rfl, k⟩
    · have k := k.2 c8
      refine V_iload dX0_trade_103 rfl ?_
      refine V_if_lt dX0_trade_105 (fun c9 => ?_) (fun c9 => ?_)
      · have k := k.1 c9
        exact V_vret dX0_trade_118 rfl rfl rfl ⟨_, _, rfl, k⟩
      · have k := k.2 c9
        refine V_aload_n dX0_trade_108 rfl ?_
        refine V_iload_n dX0_trade_109 rfl ?_
        refine V_iload dX0_trade_110 rfl ?_
        refine U_callV1 [.int x2, .int x5] dX0_trade_112 ov_X0_70 s_36 rfl ⟨rfl, rfl, rfl⟩ rfl rfl rfl (CallI_mono k (fun x10 I11 J12 k => ?_))
        refine V_if_gt dX0_trade_115 (fun c13 => ?_) (fun c13 => ?_)
        · have k := k.1 c13
          refine V_aload_n dX0_trade_119 rfl ?_
          refine U_getR dX0_trade_120 fl_X0_18 s_36 rfl ?_
          refine V_iload_n dX0_trade_123 rfl ?_
          obtain ⟨hb14, k⟩ := k
          refine U_iald dX0_trade_124 s_39 hb14 ?_
          refine V_aload_n dX0_trade_125 rfl ?_
          refine U_getR dX0_trade_126 fl_X0_18 s_36 rfl ?_
          refine V_iload dX0_trade_129 rfl ?_
          obtain ⟨hb15, k⟩ := k
          refine U_iald dX0_trade_131 s_39 hb15 ?_
          refine V_mmin dX0_trade_132 om_X0_52 rfl ?_
          refine U_istore (L2 := [.ref 36, .retAddr 0, .int v2, .int x2, .int x5, .int (jmin (I11 39 x2.toNatClampNeg) (I11 39 x5.toNatClampNeg))]) dX0_trade_135 (by decide) rfl ?_
          refine V_aload_n dX0_trade_137 rfl ?_
          refine U_getR dX0_trade_138 fl_X0_18 s_36 rfl ?_
          refine V_iload_n dX0_trade_141 rfl ?_
          refine V_dup2 dX0_trade_142 ?_
          obtain ⟨hb16, k⟩ := k
          refine U_iald dX0_trade_143 s_39 hb16 ?_
          refine V_iload dX0_trade_144 rfl ?_
          refine V_isub dX0_trade_146 ?_
          obtain ⟨hb17, k⟩ := k
          refine U_iast dX0_trade_147 s_39 hb17 ?_
          refine V_aload_n dX0_trade_148 rfl ?_
          refine U_getR dX0_trade_149 fl_X0_18 s_36 rfl ?_
          refine V_iload dX0_trade_152 rfl ?_
          refine V_dup2 dX0_trade_154 ?_
          obtain ⟨hb18, k⟩ := k
          refine U_iald dX0_trade_155 s_39 hb18 ?_
          refine V_iload dX0_trade_156 rfl ?_
          refine V_isub dX0_trade_158 ?_
          obtain ⟨hb19, k⟩ := k
          refine U_iast dX0_trade_159 s_39 hb19 ?_
          refine V_aload_n dX0_trade_160 rfl ?_
          refine V_dupR dX0_trade_161 ?_
          refine U_getIx (x := I11 36 6) dX0_trade_162 fl_X0_63 s_36 rfl rfl ?_
          refine V_iload dX0_trade_165 rfl ?_
          refine V_iadd dX0_trade_167 ?_
          refine U_putI dX0_trade_168 fp_X0_63 s_36 rfl ?_
          refine V_aload_n dX0_trade_171 rfl ?_
          refine V_dupR dX0_trade_172 ?_
          refine U_getIx (x := I11 36 5) dX0_trade_173 fl_X0_60 s_36 rfl rfl ?_
          refine V_iload dX0_trade_176 rfl ?_
          refine V_aload_n dX0_trade_178 rfl ?_
          refine V_iload_n dX0_trade_179 rfl ?_
          refine V_iload dX0_trade_180 rfl ?_
          refine U_callV1 [.int x2, .int x5] dX0_trade_182 ov_X0_70 s_36 rfl ⟨rfl, rfl, rfl⟩ rfl rfl rfl (CallI_mono k (fun x20 I21 J22 k => ?_))
          refine V_imul dX0_trade_185 ?_
          refine V_iadd dX0_trade_186 ?_
          refine U_putI dX0_trade_187 fp_X0_60 s_36 rfl ?_
          refine U_iinc (v := v2 + (1 : Int32)) (L2 := [.ref 36, .retAddr 0, .int (v2 + (1 : Int32)), .int x2, .int x5, .int (jmin (I11 39 x2.toNatClampNeg) (I11 39 x5.toNatClampNeg))]) dX0_trade_190 (by decide) rfl rfl rfl ?_
          refine V_goto dX0_trade_193 ?_
          exact V_wk (wk_eq (wk_j (wk_eq (wk_j (wk_j (wk_j (wk_nil))))))) k
        · have k := k.2 c13
          exact V_vret dX0_trade_118 rfl rfl rfl ⟨_, _, rfl, k⟩
theorem enX_neg {o : Option Nat} {n : Nat} (h : ∀ x, o = some x → x < n) (hn : n ≤ 1000) : (enX o < 0) ↔ o = none := by
  cases o with
  | none => exact ⟨fun _ => rfl, fun _ => by decide⟩
  | some x => exact ⟨fun z => absurd z (nI_pos (by have := h x rfl; omega)), fun z => by cases z⟩
theorem tradeX_loop {E : aE} {P : hI_ → hJ_ → Prop} {I0 : hI_} {J : hJ_} (h : Rel I0) : ∀ (f i : Nat) (L : Nat → Nat) (br un : Nat) (I : hI_), i + f = 12 → agX I0 I → (∀ j, j < nC I0 → I 39 j = nI (L j)) → (∀ j, L j ≤ 99) → I 36 5 = nI br → I 36 6 = nI un → (∀ I2, agX I0 I2 → I2 36 5 = nI (trF I0 (nC I0) f L br un).1 → I2 36 6 = nI (trF I0 (nC I0) f L br un).2 → P I2 J) → HX0_trade_80 E P (nI i) I J
  | 0, i, L, br, un, I, hi, hag, hL, hL2, h5, h6, k => by
    have e : i = 12 := by omega
    subst e
    exact wX0_trade_80 ⟨fun _ => k I hag h5 h6, fun z => absurd (Int32.le_refl _) z⟩
  | f + 1, i, L, br, un, I, hi, hag, hL, hL2, h5, h6, k => by
    have hR := Rel_agX hag h
    have hC := Rel_C h
    have nc := nC_X hag
    have e82 := hag 82 rfl
    refine wX0_trade_80 ⟨fun z => absurd z (nI_ge (b := 12) (by omega) (by omega)), fun _ => ?_⟩
    refine tX0_best hR (by rw [nc]; exact hL) hL2 ?_
    refine tX0_best hR (by rw [nc]; exact hL) hL2 ?_
    rw [nc, bsN_e e82, bsN_e e82]
    have l1 : ∀ x, bsN I0 L 1 (nC I0) = some x → x < nC I0 := fun x hx => (bsN_lt _ x hx).1
    have l0 : ∀ x, bsN I0 L 0 (nC I0) = some x → x < nC I0 := fun x hx => (bsN_lt _ x hx).1
    have stop : trD I0 L (nC I0) = none → P I J := fun hd => by
      have e : trF I0 (nC I0) (f + 1) L br un = (br, un) := by
        show (match trD I0 L (nC I0) with
          | some (x, y) => trF I0 (nC I0) f (trL L x y) (br + min (L x) (L y) * (pcN I0 y - pcN I0 x)) (un + min (L x) (L y))
          | none => (br, un)) = _
        rw [hd]
      rw [e] at k
      exact k I hag h5 h6
    refine ⟨fun z => stop ?_, fun z => ⟨fun z2 => stop ?_, fun z2 => ?_⟩⟩
    · have := (enX_neg l1 (by omega)).mp z
      unfold trD; rw [this]
    · have := (enX_neg l0 (by omega)).mp z2
      unfold trD; rw [this]
      cases bsN I0 L 1 (nC I0) <;> rfl
    · cases h1 : bsN I0 L 1 (nC I0) with
      | none => rw [h1] at z; exact absurd (by decide) z
      | some x =>
        cases h2 : bsN I0 L 0 (nC I0) with
        | none => rw [h2] at z2; exact absurd (by decide) z2
        | some y =>
          have hx := l1 x h1
          have hy := l0 y h2
          have px := pc_ok h hx
          have py := pc_ok h hy
          show CallI E mX0_margin [.ref 36, .int (nI x), .int (nI y)] SH I J _
          refine tX0_margin hR (by omega) (by omega) ?_
          rw [pcN_e e82, pcN_e e82]
          have hd : trD I0 L (nC I0) = if pcN I0 x < pcN I0 y then some (x, y) else none := by unfold trD; rw [h1, h2]
          have pos : (0 < nI (pcN I0 y) - nI (pcN I0 x)) ↔ pcN I0 x < pcN I0 y := by
            have := sub_le0 (a := pcN I0 y) (b := pcN I0 x) (by omega) (by omega)
            rw [← Int32.not_le, this]
            omega
          refine ⟨fun q => ?_, fun q => stop (by rw [hd, if_neg (fun w => q (pos.mpr w))])⟩
          have q' := pos.mp q
          rw [if_pos q'] at hd
          obtain ⟨-, -, -, -, -, hne, -, -⟩ := trD_ok hd
          have vx : vp_in (nI x) 12 := vp_in_nI (by omega) (by omega)
          have vy : vp_in (nI y) 12 := vp_in_nI (by omega) (by omega)
          show (vp_in (nI x) 12) ∧ (vp_in (nI y) 12) ∧ (vp_in (nI x) 12) ∧ (vp_in (nI x) 12) ∧ (vp_in (nI y) 12) ∧ (vp_in (nI y) 12) ∧ CallI E mX0_margin [.ref 36, .int (nI x), .int (nI y)] SH (upI (upI (upI I 39 (nI x).toNatClampNeg ((I 39 (nI x).toNatClampNeg) - (jmin (I 39 (nI x).toNatClampNeg) (I 39 (nI y).toNatClampNeg)))) 39 (nI y).toNatClampNeg (((upI I 39 (nI x).toNatClampNeg ((I 39 (nI x).toNatClampNeg) - (jmin (I 39 (nI x).toNatClampNeg) (I 39 (nI y).toNatClampNeg)))) 39 (nI y).toNatClampNeg) - (jmin (I 39 (nI x).toNatClampNeg) (I 39 (nI y).toNatClampNeg)))) 36 6 ((I 36 6) + (jmin (I 39 (nI x).toNatClampNeg) (I 39 (nI y).toNatClampNeg)))) J (fun x20 I21 J22 => HX0_trade_80 E P (nI i + 1) (upI I21 36 5 ((I 36 5) + ((jmin (I 39 (nI x).toNatClampNeg) (I 39 (nI y).toNatClampNeg)) * x20))) J22)
          have hLx := hL2 x
          have hLy := hL2 y
          have ex : (upI I 39 x (nI (L x) - nI (min (L x) (L y)))) 39 y = nI (L y) := by rw [upI_at, if_neg (fun w => hne w.2.symm)]; exact hL y hy
          rw [nI_clamp (n := x) (by omega), nI_clamp (n := y) (by omega), hL x hx, hL y hy, jmin_nI (by omega) (by omega), ex, nI_sub (Nat.min_le_left _ _), nI_sub (Nat.min_le_right _ _), h6, h5, nI_add, nI_1]
          refine ⟨vx, vy, vx, vx, vy, vy, ?_⟩
          generalize hF : upI (upI (upI I 39 x (nI (L x - min (L x) (L y)))) 39 y (nI (L y - min (L x) (L y)))) 36 6 (nI (un + min (L x) (L y))) = F
          have agF : agX I0 F := by
            refine agX_tr hag ?_
            rw [← hF]
            exact agX_tr (agX_tr (agX_up rfl) (agX_up rfl)) (agX_up rfl)
          have hRF := Rel_agX agF h
          refine tX0_margin hRF (by rw [nC_X agF]; exact hx) (by rw [nC_X agF]; exact hy) ?_
          rw [pcN_e (agF 82 rfl), pcN_e (agF 82 rfl), nI_sub (by omega), pk_mul, nI_add]
          have e : trF I0 (nC I0) (f + 1) L br un = trF I0 (nC I0) f (trL L x y) (br + min (L x) (L y) * (pcN I0 y - pcN I0 x)) (un + min (L x) (L y)) := by
            show (match trD I0 L (nC I0) with
              | some (x, y) => trF I0 (nC I0) f (trL L x y) (br + min (L x) (L y) * (pcN I0 y - pcN I0 x)) (un + min (L x) (L y))
              | none => (br, un)) = _
            rw [hd]
          rw [e] at k
          refine tradeX_loop h f (i + 1) (trL L x y) _ _ _ (by omega) (agX_tr agF (agX_up rfl)) (fun j hj => ?_) (fun j => trL_le (hL2 j)) upI_same ?_ k
          · rw [upI_at, if_neg (by omega), ← hF, upI_at, if_neg (by omega), upI_at]
            unfold trL
            by_cases ey : j = y
            · rw [if_pos ⟨rfl, ey⟩, if_pos (Or.inr ey), ey]
            · rw [if_neg (fun w => ey w.2), upI_at]
              by_cases exx : j = x
              · rw [if_pos ⟨rfl, exx⟩, if_pos (Or.inl exx), exx]
              · rw [if_neg (fun w => exx w.2), if_neg (fun w => w.elim exx ey)]; exact hL j hj
          · rw [upI_at, if_neg (by omega), ← hF]; exact upI_same
def HX12_layGain_3 (E : aE) (P : hI_ → hJ_ → Prop) (v1 : Int32) (v2 : Int32) (v3 : Int32) (v4 : Int32) (I : hI_) (J : hJ_) : Prop := V E mX12_layGain (kV SH P) 3 [.ref 68, .int v1, .int v2, .int v3, .int v4, .retAddr 0, .retAddr 0, .retAddr 0] [] (SH, I, J) (0, 0)
def HX12_layGain_65 (E : aE) (P : hI_ → hJ_ → Prop) (v4 : Int32) (I : hI_) (J : hJ_) : Prop := V E mX12_layGain (kV SH P) 65 [.ref 68, .retAddr 0, .retAddr 0, .retAddr 0, .int v4, .retAddr 0, .retAddr 0, .retAddr 0] [] (SH, I, J) (0, 0)
set_option maxHeartbeats 4000000 in
set_option maxRecDepth 20000 in
theorem wX12_layGain {E : aE} {P : hI_ → hJ_ → Prop} {I : hI_} {J : hJ_} {a0 : Int32} {a1 : Int32} {a2 : Int32} (k : HX12_layGain_3 E P a0 a1 a2 (0 : Int32) I J) : CallV E mX12_layGain [.ref 68, .int a0, .int a1, .int a2] SH I J P := by
  refine Call_of (L := [.ref 68, .int a0, .int a1, .int a2, .retAddr 0, .retAddr 0, .retAddr 0, .retAddr 0]) ok_X12_layGain.1 rfl rfl ?_
  refine V_iconst (v := (0 : Int32)) dX12_layGain_0 rfl ?_
  refine U_istore (L2 := [.ref 68, .int a0, .int a1, .int a2, .int (0 : Int32), .retAddr 0, .retAddr 0, .retAddr 0]) dX12_layGain_1 (by decide) rfl ?_
  exact k
set_option maxHeartbeats 4000000 in
set_option maxRecDepth 20000 in
theorem wX12_layGain_3 {E : aE} {P : hI_ → hJ_ → Prop} {I : hI_} {J : hJ_} {v1 : Int32} {v2 : Int32} {v3 : Int32} {v4 : Int32} (k : (((I 82 281) ≤ v4 → HX12_layGain_65 E P (1 : Int32) (upI (upI I 68 28 (0 : Int32)) 68 29 (0 : Int32)) J) ∧ (¬ ((I 82 281) ≤ v4) → CallI E mX12_isOffer [.ref 68, .int v4, .int v1, .int v2, .int v3] SH I J (fun x2 I3 J4 => ((¬ (x2 = (0 : Int32))) → inC v4 (4 : Int32)) ∧ (vp_in v4 12) ∧ HX12_layGain_3 E P v1 v2 v3 (v4 + (1 : Int32)) (upI I3 87 v4.toNatClampNeg (if x2 = (0 : Int32) then (0 : Int32) else (its I3 v4 (4 : Int32)))) J4)))) : HX12_layGain_3 E P v1 v2 v3 v4 I J := by
  show V E mX12_layGain (kV SH P) 3 [.ref 68, .int v1, .int v2, .int v3, .int v4, .retAddr 0, .retAddr 0, .retAddr 0] [] (SH, I, J) (0, 0)
  refine V_iload dX12_layGain_3 rfl ?_
  refine V_aload_n dX12_layGain_5 rfl ?_
  refine U_getR dX12_layGain_6 fl_X12_49 s_68 rfl ?_
  refine V_sipush (v := (281 : Int32)) dX12_layGain_9 rfl ?_
  refine U_ialdx (x := I 82 281) dX12_layGain_12 s_82 (by unfold vp_in; decide) rfl ?_
  refine V_icmp_ge dX12_layGain_13 (fun c1 => ?_) (fun c1 => ?_)
  · have k := k.1 c1
    refine V_aload_n dX12_layGain_52 rfl ?_
    refine V_iconst (v := (0 : Int32)) dX12_layGain_53 rfl ?_
    refine U_putI dX12_layGain_54 fp_X12_258 s_68 rfl ?_
    refine V_aload_n dX12_layGain_57 rfl ?_
    refine V_iconst (v := (0 : Int32)) dX12_layGain_58 rfl ?_
    refine U_putI dX12_layGain_59 fp_X12_261 s_68 rfl ?_
    refine V_iconst (v := (1 : Int32)) dX12_layGain_62 rfl ?_
    refine U_istore (L2 := [.ref 68, .int v1, .int v2, .int v3, .int (1 : Int32), .retAddr 0, .retAddr 0, .retAddr 0]) dX12_layGain_63 (by decide) rfl ?_
    exact V_wk (wk_eq (wk_j (wk_j (wk_j (wk_eq (wk_j (wk_j (wk_j (wk_nil))))))))) k
  · have k := k.2 c1
    refine V_aload_n dX12_layGain_16 rfl ?_
    refine U_getR dX12_layGain_17 fl_X12_65 s_68 rfl ?_
    refine V_iload dX12_layGain_20 rfl ?_
    refine V_aload_n dX12_layGain_22 rfl ?_
    refine V_iload dX12_layGain_23 rfl ?_
    refine V_iload_n dX12_layGain_25 rfl ?_
    refine V_iload_n dX12_layGain_26 rfl ?_
    refine V_iload_n dX12_layGain_27 rfl ?_
    refine U_callV1 [.int v4, .int v1, .int v2, .int v3] dX12_layGain_28 ov_X12_254 s_68 rfl ⟨rfl, rfl, rfl⟩ rfl rfl rfl (CallI_mono k (fun x2 I3 J4 k => ?_))
    obtain ⟨hc2008, k⟩ := k
    have key5 : ∀ (y2007 : Int32), y2007 = (if x2 = (0 : Int32) then (0 : Int32) else (its I3 v4 (4 : Int32))) → V E mX12_layGain (kV SH P) 45 [.ref 68, .int v1, .int v2, .int v3, .int v4, .retAddr 0, .retAddr 0, .retAddr 0] [.int y2007, .int v4, .ref 87] (SH, I3, J4) (0, 0) := by
      intro y2007 ey2007
      subst ey2007
      obtain ⟨hb2009, k⟩ := k
      refine U_iast dX12_layGain_45 s_87 hb2009 ?_
      refine U_iinc (v := v4 + (1 : Int32)) (L2 := [.ref 68, .int v1, .int v2, .int v3, .int (v4 + (1 : Int32)), .retAddr 0, .retAddr 0, .retAddr 0]) dX12_layGain_46 (by decide) rfl rfl rfl ?_
      refine V_goto dX12_layGain_49 ?_
      exact k
    refine V_if_eq dX12_layGain_31 (fun c2010 => ?_) (fun c2010 => ?_)
    · refine V_iconst (v := (0 : Int32)) dX12_layGain_44 rfl ?_
      exact key5 _ (by rw [if_pos c2010])
    · refine V_aload_n dX12_layGain_34 rfl ?_
      refine V_iload dX12_layGain_35 rfl ?_
      refine V_iconst (v := (4 : Int32)) dX12_layGain_37 rfl ?_
      have hp2006 := hc2008 c2010
      refine U_callV1 [.int v4, .int (4 : Int32)] dX12_layGain_38 ov_X12_202 s_68 rfl ⟨rfl, rfl, rfl⟩ rfl rfl rfl (tX12_its hp2006 ?_)
      refine V_goto dX12_layGain_41 ?_
      exact key5 _ (by rw [if_neg c2010])
set_option maxHeartbeats 4000000 in
set_option maxRecDepth 20000 in
theorem wX12_layGain_65 {E : aE} {P : hI_ → hJ_ → Prop} {I : hI_} {J : hJ_} {v4 : Int32} (k : ((v4 = (0 : Int32) → P I J) ∧ (¬ (v4 = (0 : Int32)) → CallI E mX12_bestOf [.ref 68, .int (0 : Int32)] SH I J (fun x2 I3 J4 => CallI E mX12_bestOf [.ref 68, .int (1 : Int32)] SH I3 J4 (fun x5 I6 J7 => ((¬ (x2 = (-4 : Int32))) → (¬ (x5 = (-4 : Int32))) → inC x2 (3 : Int32)) ∧ ((¬ (x2 = (-4 : Int32))) → (¬ (x5 = (-4 : Int32))) → inC x5 (3 : Int32)) ∧ ((¬ ((¬ (x2 = (-4 : Int32))) ∧ ((¬ (x5 = (-4 : Int32))) ∧ (¬ ((its I6 x2 (3 : Int32)) ≤ (its I6 x5 (3 : Int32)))))) → HX12_layGain_65 E P (b2i ((¬ (x2 = (-4 : Int32))) ∧ ((¬ (x5 = (-4 : Int32))) ∧ (¬ ((its I6 x2 (3 : Int32)) ≤ (its I6 x5 (3 : Int32))))))) I6 J7) ∧ (((¬ (x2 = (-4 : Int32))) ∧ ((¬ (x5 = (-4 : Int32))) ∧ (¬ ((its I6 x2 (3 : Int32)) ≤ (its I6 x5 (3 : Int32)))))) → (vp_in x2 12) ∧ (vp_in x5 12) ∧ (((I6 87 x5.toNatClampNeg) ≤ (I6 87 x2.toNatClampNeg)) → vp_in x5 12) ∧ ((¬ ((I6 87 x5.toNatClampNeg) ≤ (I6 87 x2.toNatClampNeg))) → vp_in x2 12) ∧ (vp_in x2 12) ∧ (vp_in x2 12) ∧ (vp_in x5 12) ∧ (vp_in x5 12) ∧ (inC x2 (3 : Int32)) ∧ (inC x5 (3 : Int32)) ∧ HX12_layGain_65 E P (b2i ((¬ (x2 = (-4 : Int32))) ∧ ((¬ (x5 = (-4 : Int32))) ∧ (¬ ((its I6 x2 (3 : Int32)) ≤ (its I6 x5 (3 : Int32))))))) (upI (upI (upI (upI I6 87 x2.toNatClampNeg ((I6 87 x2.toNatClampNeg) - (if (I6 87 x5.toNatClampNeg) ≤ (I6 87 x2.toNatClampNeg) then (I6 87 x5.toNatClampNeg) else (I6 87 x2.toNatClampNeg)))) 87 x5.toNatClampNeg (((upI I6 87 x2.toNatClampNeg ((I6 87 x2.toNatClampNeg) - (if (I6 87 x5.toNatClampNeg) ≤ (I6 87 x2.toNatClampNeg) then (I6 87 x5.toNatClampNeg) else (I6 87 x2.toNatClampNeg)))) 87 x5.toNatClampNeg) - (if (I6 87 x5.toNatClampNeg) ≤ (I6 87 x2.toNatClampNeg) then (I6 87 x5.toNatClampNeg) else (I6 87 x2.toNatClampNeg)))) 68 28 ((I6 68 28) + ((if (I6 87 x5.toNatClampNeg) ≤ (I6 87 x2.toNatClampNeg) then (I6 87 x5.toNatClampNeg) else (I6 87 x2.toNatClampNeg)) * ((its (upI (upI I6 87 x2.toNatClampNeg ((I6 87 x2.toNatClampNeg) - (if (I6 87 x5.toNatClampNeg) ≤ (I6 87 x2.toNatClampNeg) then (I6 87 x5.toNatClampNeg) else (I6 87 x2.toNatClampNeg)))) 87 x5.toNatClampNeg (((upI I6 87 x2.toNatClampNeg ((I6 87 x2.toNatClampNeg) - (if (I6 87 x5.toNatClampNeg) ≤ (I6 87 x2.toNatClampNeg) then (I6 87 x5.toNatClampNeg) else (I6 87 x2.toNatClampNeg)))) 87 x5.toNatClampNeg) - (if (I6 87 x5.toNatClampNeg) ≤ (I6 87 x2.toNatClampNeg) then (I6 87 x5.toNatClampNeg) else (I6 87 x2.toNatClampNeg)))) x2 (3 : Int32)) - (its (upI (upI I6 87 x2.toNatClampNeg ((I6 87 x2.toNatClampNeg) - (if (I6 87 x5.toNatClampNeg) ≤ (I6 87 x2.toNatClampNeg) then (I6 87 x5.toNatClampNeg) else (I6 87 x2.toNatClampNeg)))) 87 x5.toNatClampNeg (((upI I6 87 x2.toNatClampNeg ((I6 87 x2.toNatClampNeg) - (if (I6 87 x5.toNatClampNeg) ≤ (I6 87 x2.toNatClampNeg) then (I6 87 x5.toNatClampNeg) else (I6 87 x2.toNatClampNeg)))) 87 x5.toNatClampNeg) - (if (I6 87 x5.toNatClampNeg) ≤ (I6 87 x2.toNatClampNeg) then (I6 87 x5.toNatClampNeg) else (I6 87 x2.toNatClampNeg)))) x5 (3 : Int32)))))) 68 29 ((I6 68 29) + (if (I6 87 x5.toNatClampNeg) ≤ (I6 87 x2.toNatClampNeg) then (I6 87 x5.toNatClampNeg) else (I6 87 x2.toNatClampNeg)))) J7))))))) : HX12_layGain_65 E P v4 I J := by
  show V E mX12_layGain (kV SH P) 65 [.ref 68, .retAddr 0, .retAddr 0, .retAddr 0, .int v4, .retAddr 0, .retAddr 0, .retAddr 0] [] (SH, I, J) (0, 0)
  refine V_iload dX12_layGain_65 rfl ?_
  refine V_if_eq dX12_layGain_67 (fun c1 => ?_) (fun c1 => ?_)
  · have k := k.1 c1
    exact V_vret dX12_layGain_228 rfl rfl rfl ⟨_, _, rfl, k⟩
  · have k := k.2 c1
    refine V_aload_n dX12_layGain_70 rfl ?_
    refine V_iconst (v := (0 : Int32)) dX12_layGain_71 rfl ?_
    refine U_callV1 [.int (0 : Int32)] dX12_layGain_72 ov_X12_264 s_68 rfl ⟨rfl, rfl, rfl⟩ rfl rfl rfl (CallI_mono k (fun x2 I3 J4 k => ?_))
    refine U_istore (L2 := [.ref 68, .retAddr 0, .retAddr 0, .retAddr 0, .int v4, .int x2, .retAddr 0, .retAddr 0]) dX12_layGain_75 (by decide) rfl ?_
    refine V_aload_n dX12_layGain_77 rfl ?_
    refine V_iconst (v := (1 : Int32)) dX12_layGain_78 rfl ?_
    refine U_callV1 [.int (1 : Int32)] dX12_layGain_79 ov_X12_264 s_68 rfl ⟨rfl, rfl, rfl⟩ rfl rfl rfl (CallI_mono k (fun x5 I6 J7 k => ?_))
    refine U_istore (L2 := [.ref 68, .retAddr 0, .retAddr 0, .retAddr 0, .int v4, .int x2, .int x5, .retAddr 0]) dX12_layGain_82 (by decide) rfl ?_
    refine V_iload dX12_layGain_84 rfl ?_
    refine V_bipush (v := (-4 : Int32)) dX12_layGain_86 rfl ?_
    obtain ⟨hc2012, hc2013, k⟩ := k
    have key8 : ∀ (y2011 : Int32), y2011 = (b2i ((¬ (x2 = (-4 : Int32))) ∧ ((¬ (x5 = (-4 : Int32))) ∧ (¬ ((its I6 x2 (3 : Int32)) ≤ (its I6 x5 (3 : Int32))))))) → V E mX12_layGain (kV SH P) 120 [.ref 68, .retAddr 0, .retAddr 0, .retAddr 0, .int v4, .int x2, .int x5, .retAddr 0] [.int y2011] (SH, I6, J7) (0, 0) := by
      intro y2011 ey2011
      subst ey2011
      refine U_istore (L2 := [.ref 68, .retAddr 0, .retAddr 0, .retAddr 0, .int (b2i ((¬ (x2 = (-4 : Int32))) ∧ ((¬ (x5 = (-4 : Int32))) ∧ (¬ ((its I6 x2 (3 : Int32)) ≤ (its I6 x5 (3 : Int32))))))), .int x2, .int x5, .retAddr 0]) dX12_layGain_120 (by decide) rfl ?_
      refine V_iload dX12_layGain_122 rfl ?_
      refine U_ifb_eq dX12_layGain_124 (fun c2014 => ?_) (fun c2014 => ?_)
      · have k := k.1 c2014
        refine V_goto dX12_layGain_225 ?_
        exact V_wk (wk_eq (wk_j (wk_j (wk_j (wk_eq (wk_j (wk_j (wk_j (wk_nil))))))))) k
      · have k := k.2 c2014
        refine V_aload_n dX12_layGain_127 rfl ?_
        refine U_getR dX12_layGain_128 fl_X12_65 s_68 rfl ?_
        refine V_iload dX12_layGain_131 rfl ?_
        obtain ⟨hb2015, k⟩ := k
        refine U_iald dX12_layGain_133 s_87 hb2015 ?_
        refine V_aload_n dX12_layGain_134 rfl ?_
        refine U_getR dX12_layGain_135 fl_X12_65 s_68 rfl ?_
        refine V_iload dX12_layGain_138 rfl ?_
        obtain ⟨hb2016, k⟩ := k
        refine U_iald dX12_layGain_140 s_87 hb2016 ?_
        obtain ⟨hc4021, hc4022, k⟩ := k
        have key2017 : ∀ (y4020 : Int32), y4020 = (if (I6 87 x5.toNatClampNeg) ≤ (I6 87 x2.toNatClampNeg) then (I6 87 x5.toNatClampNeg) else (I6 87 x2.toNatClampNeg)) → V E mX12_layGain (kV SH P) 161 [.ref 68, .retAddr 0, .retAddr 0, .retAddr 0, .int (b2i ((¬ (x2 = (-4 : Int32))) ∧ ((¬ (x5 = (-4 : Int32))) ∧ (¬ ((its I6 x2 (3 : Int32)) ≤ (its I6 x5 (3 : Int32))))))), .int x2, .int x5, .retAddr 0] [.int y4020] (SH, I6, J7) (0, 0) := by
          intro y4020 ey4020
          subst ey4020
          refine U_istore (L2 := [.ref 68, .retAddr 0, .retAddr 0, .retAddr 0, .int (b2i ((¬ (x2 = (-4 : Int32))) ∧ ((¬ (x5 = (-4 : Int32))) ∧ (¬ ((its I6 x2 (3 : Int32)) ≤ (its I6 x5 (3 : Int32))))))), .int x2, .int x5, .int (if (I6 87 x5.toNatClampNeg) ≤ (I6 87 x2.toNatClampNeg) then (I6 87 x5.toNatClampNeg) else (I6 87 x2.toNatClampNeg))]) dX12_layGain_161 (by decide) rfl ?_
          refine V_aload_n dX12_layGain_163 rfl ?_
          refine U_getR dX12_layGain_164 fl_X12_65 s_68 rfl ?_
          refine V_iload dX12_layGain_167 rfl ?_
          refine V_dup2 dX12_layGain_169 ?_
          obtain ⟨hb4023, k⟩ := k
          refine U_iald dX12_layGain_170 s_87 hb4023 ?_
          refine V_iload dX12_layGain_171 rfl ?_
          refine V_isub dX12_layGain_173 ?_
          obtain ⟨hb4024, k⟩ := k
          refine U_iast dX12_layGain_174 s_87 hb4024 ?_
          refine V_aload_n dX12_layGain_175 rfl ?_
          refine U_getR dX12_layGain_176 fl_X12_65 s_68 rfl ?_
          refine V_iload dX12_layGain_179 rfl ?_
          refine V_dup2 dX12_layGain_181 ?_
          obtain ⟨hb4025, k⟩ := k
          refine U_iald dX12_layGain_182 s_87 hb4025 ?_
          refine V_iload dX12_layGain_183 rfl ?_
          refine V_isub dX12_layGain_185 ?_
          obtain ⟨hb4026, k⟩ := k
          refine U_iast dX12_layGain_186 s_87 hb4026 ?_
          refine V_aload_n dX12_layGain_187 rfl ?_
          refine V_dupR dX12_layGain_188 ?_
          refine U_getIx (x := I6 68 28) dX12_layGain_189 fl_X12_258 s_68 rfl rfl ?_
          refine V_iload dX12_layGain_192 rfl ?_
          refine V_aload_n dX12_layGain_194 rfl ?_
          refine V_iload dX12_layGain_195 rfl ?_
          refine V_iconst (v := (3 : Int32)) dX12_layGain_197 rfl ?_
          obtain ⟨hp4027, k⟩ := k
          refine U_callV1 [.int x2, .int (3 : Int32)] dX12_layGain_198 ov_X12_202 s_68 rfl ⟨rfl, rfl, rfl⟩ rfl rfl rfl (tX12_its hp4027 ?_)
          refine V_aload_n dX12_layGain_201 rfl ?_
          refine V_iload dX12_layGain_202 rfl ?_
          refine V_iconst (v := (3 : Int32)) dX12_layGain_204 rfl ?_
          obtain ⟨hp4028, k⟩ := k
          refine U_callV1 [.int x5, .int (3 : Int32)] dX12_layGain_205 ov_X12_202 s_68 rfl ⟨rfl, rfl, rfl⟩ rfl rfl rfl (tX12_its hp4028 ?_)
          refine V_isub dX12_layGain_208 ?_
          refine V_imul dX12_layGain_209 ?_
          refine V_iadd dX12_layGain_210 ?_
          refine U_putI dX12_layGain_211 fp_X12_258 s_68 rfl ?_
          refine V_aload_n dX12_layGain_214 rfl ?_
          refine V_dupR dX12_layGain_215 ?_
          refine U_getIx (x := I6 68 29) dX12_layGain_216 fl_X12_261 s_68 rfl rfl ?_
          refine V_iload dX12_layGain_219 rfl ?_
          refine V_iadd dX12_layGain_221 ?_
          refine U_putI dX12_layGain_222 fp_X12_261 s_68 rfl ?_
          refine V_goto dX12_layGain_225 ?_
          exact V_wk (wk_eq (wk_j (wk_j (wk_j (wk_eq (wk_j (wk_j (wk_j (wk_nil))))))))) k
        refine V_icmp_ge dX12_layGain_141 (fun c4029 => ?_) (fun c4029 => ?_)
        · refine V_aload_n dX12_layGain_154 rfl ?_
          refine U_getR dX12_layGain_155 fl_X12_65 s_68 rfl ?_
          refine V_iload dX12_layGain_158 rfl ?_
          have hb3018 := hc4021 c4029
          refine U_iald dX12_layGain_160 s_87 hb3018 ?_
          exact key2017 _ (by rw [if_pos c4029])
        · refine V_aload_n dX12_layGain_144 rfl ?_
          refine U_getR dX12_layGain_145 fl_X12_65 s_68 rfl ?_
          refine V_iload dX12_layGain_148 rfl ?_
          have hb4019 := hc4022 c4029
          refine U_iald dX12_layGain_150 s_87 hb4019 ?_
          refine V_goto dX12_layGain_151 ?_
          exact key2017 _ (by rw [if_neg c4029])
    refine V_icmp_eq dX12_layGain_88 (fun c4030 => ?_) (fun c4030 => ?_)
    · refine V_iconst (v := (0 : Int32)) dX12_layGain_119 rfl ?_
      exact key8 _ ((b2i_0.mpr (fun q => q.1 c4030)).symm)
    · refine V_iload dX12_layGain_91 rfl ?_
      refine V_bipush (v := (-4 : Int32)) dX12_layGain_93 rfl ?_
      refine V_icmp_eq dX12_layGain_95 (fun c4031 => ?_) (fun c4031 => ?_)
      · refine V_iconst (v := (0 : Int32)) dX12_layGain_119 rfl ?_
        exact key8 _ ((b2i_0.mpr (fun q => (fun q => q.1 c4031) q.2)).symm)
      · refine V_aload_n dX12_layGain_98 rfl ?_
        refine V_iload dX12_layGain_99 rfl ?_
        refine V_iconst (v := (3 : Int32)) dX12_layGain_101 rfl ?_
        have hp2009 := hc2012 c4030 c4031
        refine U_callV1 [.int x2, .int (3 : Int32)] dX12_layGain_102 ov_X12_202 s_68 rfl ⟨rfl, rfl, rfl⟩ rfl rfl rfl (tX12_its hp2009 ?_)
        refine V_aload_n dX12_layGain_105 rfl ?_
        refine V_iload dX12_layGain_106 rfl ?_
        refine V_iconst (v := (3 : Int32)) dX12_layGain_108 rfl ?_
        have hp2010 := hc2013 c4030 c4031
        refine U_callV1 [.int x5, .int (3 : Int32)] dX12_layGain_109 ov_X12_202 s_68 rfl ⟨rfl, rfl, rfl⟩ rfl rfl rfl (tX12_its hp2010 ?_)
        refine V_icmp_le dX12_layGain_112 (fun c4032 => ?_) (fun c4032 => ?_)
        · refine V_iconst (v := (0 : Int32)) dX12_layGain_119 rfl ?_
          exact key8 _ ((b2i_0.mpr (fun q => (fun q => (fun q => q c4032) q.2) q.2)).symm)
        · refine V_iconst (v := (1 : Int32)) dX12_layGain_115 rfl ?_
          refine V_goto dX12_layGain_116 ?_
          exact key8 _ ((b2i_1.mpr (⟨c4030, ⟨c4031, c4032⟩⟩)).symm)
theorem trF_n {I : hI_} {n f : Nat} {L : Nat → Nat} {br un : Nat} (hd : trD I L n = none) : trF I n f L br un = (br, un) := by
  cases f with
  | zero => rfl
  | succ f =>
    show (match trD I L n with
      | some (x, y) => trF I n f (trL L x y) (br + min (L x) (L y) * (pcN I y - pcN I x)) (un + min (L x) (L y))
      | none => (br, un)) = _
    rw [hd]
theorem trF_s {I : hI_} {n f x y : Nat} {L : Nat → Nat} {br un : Nat} (hd : trD I L n = some (x, y)) : trF I n (f + 1) L br un = trF I n f (trL L x y) (br + min (L x) (L y) * (pcN I y - pcN I x)) (un + min (L x) (L y)) := by
  show (match trD I L n with
    | some (x, y) => trF I n f (trL L x y) (br + min (L x) (L y) * (pcN I y - pcN I x)) (un + min (L x) (L y))
    | none => (br, un)) = _
  rw [hd]
theorem enM_4 {o : Option Nat} {n : Nat} (h : ∀ x, o = some x → x < n) (hn : n ≤ 1000) : (enM o = -4) ↔ o = none := by
  cases o with
  | none => exact ⟨fun _ => rfl, fun _ => rfl⟩
  | some x => exact ⟨fun z => absurd z (neg4_nI (by have := h x rfl; omega)), fun z => by cases z⟩
theorem tradeM_loop {E : aE} {P : hI_ → hJ_ → Prop} {I0 : hI_} {J : hJ_} (h : Rel I0) : ∀ (f : Nat) (L : Nat → Nat) (br un : Nat) (I : hI_), nzC L (nC I0) ≤ f → agM I0 I → (∀ j, j < nC I0 → I 87 j = nI (L j)) → (∀ j, L j ≤ 99) → I 68 28 = nI br → I 68 29 = nI un → (∀ I2, agM I0 I2 → I2 68 28 = nI (trF I0 (nC I0) f L br un).1 → I2 68 29 = nI (trF I0 (nC I0) f L br un).2 → P I2 J) → HX12_layGain_65 E P 1 I J
  | f, L, br, un, I, hf, hag, hL, hL2, h5, h6, k => by
    have hR := Rel_agM hag h
    have hC := Rel_C h
    have nc := nC_M hag
    have e82 := hag.1 82 rfl
    refine wX12_layGain_65 ⟨fun z => absurd z (by decide), fun _ => ?_⟩
    refine tX12_bestOf hR (Or.inl rfl) (by rw [nc]; exact hL) hL2 ?_
    refine tX12_bestOf hR (Or.inr rfl) (by rw [nc]; exact hL) hL2 ?_
    rw [nc, bsN_e e82, bsN_e e82]
    have l1 : ∀ x, bsN I0 L 1 (nC I0) = some x → x < nC I0 := fun x hx => (bsN_lt _ x hx).1
    have l0 : ∀ x, bsN I0 L 0 (nC I0) = some x → x < nC I0 := fun x hx => (bsN_lt _ x hx).1
    have stop : trD I0 L (nC I0) = none → HX12_layGain_65 E P 0 I J := fun hd => by
      rw [trF_n hd] at k
      exact wX12_layGain_65 ⟨fun _ => k I hag h5 h6, fun z => absurd rfl z⟩
    cases h2 : bsN I0 L 0 (nC I0) with
    | none =>
      have hd : trD I0 L (nC I0) = none := by
        unfold trD; rw [h2]; cases bsN I0 L 1 (nC I0) <;> rfl
      refine ⟨fun z => absurd rfl z, fun z => absurd rfl z, fun z => ?_, fun z => absurd rfl z.1⟩
      have : b2i ((¬ (enM none = (-4 : Int32))) ∧ ((¬ (enM (bsN I0 L 1 (nC I0)) = -4)) ∧ (¬ ((its I (enM none) 3) ≤ (its I (enM (bsN I0 L 1 (nC I0))) 3))))) = 0 := if_neg z
      rw [this]; exact stop hd
    | some y =>
      cases h1 : bsN I0 L 1 (nC I0) with
      | none =>
        have hd : trD I0 L (nC I0) = none := by unfold trD; rw [h1]
        refine ⟨fun _ z => absurd rfl z, fun _ z => absurd rfl z, fun z => ?_, fun z => absurd rfl z.2.1⟩
        have : b2i ((¬ (enM (some y) = (-4 : Int32))) ∧ ((¬ (enM none = -4)) ∧ (¬ ((its I (enM (some y)) 3) ≤ (its I (enM none) 3))))) = 0 := if_neg z
        rw [this]; exact stop hd
      | some x =>
        have hx := l1 x h1
        have hy := l0 y h2
        have px := pc_ok h hx
        have py := pc_ok h hy
        have ix : inC (enM (some x)) 3 := inC_nI (j := 3) (by omega) (by omega)
        have iy : inC (enM (some y)) 3 := inC_nI (j := 3) (by omega) (by omega)
        have ey : its I (enM (some y)) 3 = nI (pcN I0 y) := by
          refine (its_cK (j := 3) (by omega) (by omega)).trans ?_
          rw [← py.1]; unfold cK; rw [e82]
        have ex : its I (enM (some x)) 3 = nI (pcN I0 x) := by
          refine (its_cK (j := 3) (by omega) (by omega)).trans ?_
          rw [← px.1]; unfold cK; rw [e82]
        have hd : trD I0 L (nC I0) = if pcN I0 x < pcN I0 y then some (x, y) else none := by unfold trD; rw [h1, h2]
        refine ⟨fun _ _ => iy, fun _ _ => ix, fun z => ?_, fun z => ?_⟩
        · have : b2i ((¬ (enM (some y) = (-4 : Int32))) ∧ ((¬ (enM (some x) = -4)) ∧ (¬ ((its I (enM (some y)) 3) ≤ (its I (enM (some x)) 3))))) = 0 := if_neg z
          rw [this]
          refine stop ?_
          rw [hd, if_neg (fun w => z ⟨neg4_nI (by omega), neg4_nI (by omega), ?_⟩)]
          rw [ex, ey]
          exact nI_ge w (by omega)
        · have t1 : b2i ((¬ (enM (some y) = (-4 : Int32))) ∧ ((¬ (enM (some x) = -4)) ∧ (¬ ((its I (enM (some y)) 3) ≤ (its I (enM (some x)) 3))))) = 1 := if_pos z
          rw [t1]
          have q' : pcN I0 x < pcN I0 y := by
            have z3 := z.2.2
            rw [ex, ey] at z3
            rcases Nat.lt_or_ge (pcN I0 x) (pcN I0 y) with w | w
            · exact w
            · exact absurd (nI_le w (by omega)) z3
          rw [if_pos q'] at hd
          obtain ⟨-, -, -, -, -, hne, -, -⟩ := trD_ok hd
          have vx : vp_in (enM (some x)) 12 := vp_in_nI (by omega) (by omega)
          have vy : vp_in (enM (some y)) 12 := vp_in_nI (by omega) (by omega)
          have cx : (enM (some x)).toNatClampNeg = x := nI_clamp (by omega)
          have cy : (enM (some y)).toNatClampNeg = y := nI_clamp (by omega)
          have hLx := hL2 x
          have hLy := hL2 y
          have em : (if nI (L x) ≤ nI (L y) then nI (L x) else nI (L y)) = nI (min (L x) (L y)) := by
            by_cases w : L x ≤ L y
            · rw [if_pos (nI_le w (by omega)), Nat.min_eq_left w]
            · rw [if_neg (nI_ge (by omega) (by omega)), Nat.min_eq_right (by omega)]
          have its2 : ∀ (a b : Nat) (v u c : Int32), its (upI (upI I 87 a v) 87 b u) c 3 = its I c 3 := fun _ _ _ _ _ => rfl
          refine ⟨vy, vx, fun _ => vx, fun _ => vy, vy, vy, vx, vx, iy, ix, ?_⟩
          rw [its2, its2, ex, ey, cx, cy, hL x hx, hL y hy, em]
          have exx : (upI I 87 y (nI (L y) - nI (min (L x) (L y)))) 87 x = nI (L x) := by rw [upI_at, if_neg (fun w => hne w.2)]; exact hL x hx
          rw [exx, nI_sub (Nat.min_le_left _ _), nI_sub (Nat.min_le_right _ _), h6, h5, nI_sub (by omega), pk_mul, nI_add, nI_add]
          have hdec := nzC_dec hd
          cases f with
          | zero => omega
          | succ f =>
            rw [trF_s hd] at k
            refine tradeM_loop h f (trL L x y) _ _ _ (by omega) ?_ (fun j hj => ?_) (fun j => trL_le (hL2 j)) ?_ upI_same k
            · exact agM_tr (agM_tr (agM_tr (agM_tr hag (agM_up rfl (by omega))) (agM_up rfl (by omega))) (agM_up rfl (by omega))) (agM_up rfl (by omega))
            · rw [upI_at, if_neg (by omega), upI_at, if_neg (by omega), upI_at]
              unfold trL
              by_cases e1 : j = x
              · rw [if_pos ⟨rfl, e1⟩, if_pos (Or.inl e1), e1]
              · rw [if_neg (fun w => e1 w.2), upI_at]
                by_cases e2 : j = y
                · rw [if_pos ⟨rfl, e2⟩, if_pos (Or.inr e2), e2]
                · rw [if_neg (fun w => e2 w.2), if_neg (fun w => w.elim e1 e2)]; exact hL j hj
            · rw [upI_at, if_neg (by omega)]; exact upI_same
