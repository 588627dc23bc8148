theorem cN5 (n : Nat) (B : Nat → Nat) (k lo hx : Nat) : cN_ n B k lo hx ≤ 5 := by
  have := cN3 (n := n) (B := B) (k := k) (lo := lo) (hx := hx)
  omega
def le5 (r : Nat × Nat × Nat × (Nat → Nat)) : Prop := r.1 ≤ 5
theorem le5_i {p : Prop} [Decidable p] {a b : Nat × Nat × Nat × (Nat → Nat)} (ha : le5 a) (hb : le5 b) : le5 (if p then a else b) := by
  by_cases z : p
  · rw [if_pos z]; exact ha
  · rw [if_neg z]; exact hb
theorem le5_c {n : Nat} {B : Nat → Nat} {k lo hx s q : Nat} {D : Nat → Nat} : le5 (cN_ n B k lo hx, s, q, D) := cN5 n B k lo hx
theorem le5_n {c s q : Nat} {D : Nat → Nat} (h : c ≤ 5) : le5 (c, s, q, D) := h
theorem line_le (n : Nat) (B : Nat → Nat) (k0 : Nat) (D : Nat → Nat) : (line n B k0 D).1 ≤ 5 := by
  have h1 : le5 (lnPlace n B k0 (tE n B k0) D) := by unfold lnPlace; exact le5_i (le5_n (by omega)) (le5_i (le5_n (by omega)) le5_c)
  have h2 : le5 (lnWay n B (tE n B k0) D) := by unfold lnWay lnWay3; exact le5_i (le5_i (le5_i (le5_n (by omega)) (le5_i (le5_n (by omega)) (le5_i (le5_n (by omega)) le5_c))) le5_c) le5_c
  have h3 : le5 (lnShut n B k0 (tE n B k0) D) := by unfold lnShut lnShut4; exact le5_i (le5_n (by omega)) (le5_i (le5_i (le5_i (le5_n (by omega)) (le5_i (le5_i (le5_n (by omega)) le5_c) le5_c)) le5_c) le5_c)
  have h4 : le5 (lnMoves n B k0 (tE n B k0) D) := by unfold lnMoves lnMoves3; exact le5_i (le5_n (by omega)) (le5_i (le5_i (le5_i (le5_i (le5_n (by omega)) (le5_n (by omega))) le5_c) le5_c) le5_c)
  have h5 : le5 (lnFirst n B k0 (tE n B k0) D) := by unfold lnFirst; exact le5_i (le5_n (by omega)) (le5_i (le5_n (by omega)) (le5_i (le5_n (by omega)) (le5_n (by omega))))
  have h6 : le5 (lnMost n B k0 (tE n B k0) D) := by unfold lnMost; exact le5_i (le5_n (by omega)) (le5_i (le5_n (by omega)) le5_c)
  show le5 (line n B k0 D)
  unfold line
  exact le5_i h1 (le5_i h2 (le5_i h3 (le5_i h4 (le5_i h5 (le5_i h6 (le5_n (by omega)))))))
/-- the fault behind a line and its sign, if any -/
def stepB (n : Nat) (B : Nat → Nat) (k : Nat) (D : Nat → Nat) : Nat × Nat := if tK n B k = 1 then (if (line n B k D).1 = 0 then (if tK n B (line n B k D).2.2.1 = 4 then (1, tS n B (line n B k D).2.2.1) else if tK n B (line n B k D).2.2.1 = 3 then (0, 0) else (2, tS n B (line n B k D).2.2.1)) else ((line n B k D).1, (line n B k D).2.1)) else (2, tS n B k)
def HX12_readLine_117 (E : aE) (P : hI_ → hJ_ → Prop)  (I : hI_) (J : hJ_) : Prop := V E mX12_readLine (kV SH P) 117 [.ref 68, .retAddr 0, .retAddr 0] [] (SH, I, J) (0, 0)
set_option maxHeartbeats 4000000 in
set_option maxRecDepth 20000 in
theorem wX12_readLine {E : aE} {P : hI_ → hJ_ → Prop} {I : hI_} {J : hJ_}  (k : CallI E mX12_nameHere [.ref 68] SH I J (fun x1 I2 J3 => ((((0 : Int32) ≤ x1 ∧ x1 ≤ (5 : Int32)) → ((¬ x1 = (0 : Int32) → ((¬ x1 = (1 : Int32) → ((¬ x1 = (2 : Int32) → CallV E mX12_readRule [.ref 68, .int x1] SH I2 J3 (fun I9 J10 => HX12_readLine_117 E P  I9 J10)) ∧ (x1 = (2 : Int32) → CallV E mX12_readShut [.ref 68] SH I2 J3 (fun I12 J13 => HX12_readLine_117 E P  I12 J13)))) ∧ (x1 = (1 : Int32) → CallV E mX12_readWay [.ref 68] SH I2 J3 (fun I15 J16 => HX12_readLine_117 E P  I15 J16)))) ∧ (x1 = (0 : Int32) → ((¬ (I2 77 0) = (5 : Int32) → CallV E mX12_next [.ref 68] SH I2 J3 (fun I19 J20 => CallI E mX12_number [.ref 68, .int (1 : Int32), .int (999 : Int32)] SH I19 J20 (fun x21 I22 J23 => ((¬ (I22 68 3) = (0 : Int32) → HX12_readLine_117 E P  I22 J23) ∧ ((I22 68 3) = (0 : Int32) → (vp_in (I22 77 0) 5) ∧ HX12_readLine_117 E P  (upI (upI I22 78 ((I22 77 0).toNatClampNeg) x21) 77 0 ((I22 77 0) + (1 : Int32))) J23))))) ∧ ((I2 77 0) = (5 : Int32) → CallV E mX12_fails [.ref 68, .int (5 : Int32)] SH I2 J3 (fun I27 J28 => P I27 J28)))))) ∧ (¬ (((0 : Int32) ≤ x1 ∧ x1 ≤ (5 : Int32))) → CallV E mX12_fails [.ref 68, .int (2 : Int32)] SH I2 J3 (fun I30 J31 => P I30 J31))))) : CallV E mX12_readLine [.ref 68] SH I J P := by
  refine Call_of (L := [.ref 68, .retAddr 0, .retAddr 0]) ok_X12_readLine.1 rfl rfl ?_
  refine V_aload_n dX12_readLine_0 rfl ?_
  refine U_callV1 [] dX12_readLine_1 ov_X12_142 s_68 rfl ⟨rfl, rfl, rfl⟩ rfl rfl rfl (CallI_mono k (fun x1 I2 J3 k => ?_))
  refine U_istore_n (L2 := [.ref 68, .int x1, .retAddr 0]) dX12_readLine_4 (by decide) rfl ?_
  refine V_iload_n dX12_readLine_5 rfl ?_
  refine V_i2l dX12_readLine_6 ?_
  refine V_lconst (v := (0 : Int64)) dX12_readLine_7 rfl ?_
  refine V_ldc2_w (v := (5 : Int64)) dX12_readLine_8 (gt_5 214 rfl rfl) ?_
  refine U_callS1 [.long x1.toInt64, .long (0 : Int64), .long (5 : Int64)] dX12_readLine_11 os_X12_91 ⟨rfl, rfl, rfl⟩ rfl rfl rfl (tX12_in32 (v := x1) (lo := (0 : Int32)) (hi := (5 : Int32)) rfl (by decide) (by decide) ?_)
  refine U_ifb_ne dX12_readLine_14 (fun c4 => ?_) (fun c4 => ?_)
  · have k := k.1 c4
    refine V_iload_n dX12_readLine_23 rfl ?_
    refine V_if_ne dX12_readLine_24 (fun c5 => ?_) (fun c5 => ?_)
    · have k := k.1 c5
      refine V_iload_n dX12_readLine_88 rfl ?_
      refine V_iconst (v := (1 : Int32)) dX12_readLine_89 rfl ?_
      refine V_icmp_ne dX12_readLine_90 (fun c6 => ?_) (fun c6 => ?_)
      · have k := k.1 c6
        refine V_iload_n dX12_readLine_100 rfl ?_
        refine V_iconst (v := (2 : Int32)) dX12_readLine_101 rfl ?_
        refine V_icmp_ne dX12_readLine_102 (fun c7 => ?_) (fun c7 => ?_)
        · have k := k.1 c7
          refine V_aload_n dX12_readLine_112 rfl ?_
          refine V_iload_n dX12_readLine_113 rfl ?_
          refine U_callV0 [.int x1] dX12_readLine_114 ov_X12_154 s_68 rfl ⟨rfl, rfl, rfl⟩ rfl rfl rfl (CallV_mono k (fun I9 J10 k => ?_))
          exact V_wk (wk_eq (wk_j (wk_j (wk_nil)))) k
        · have k := k.2 c7
          refine V_aload_n dX12_readLine_105 rfl ?_
          refine U_callV0 [] dX12_readLine_106 ov_X12_151 s_68 rfl ⟨rfl, rfl, rfl⟩ rfl rfl rfl (CallV_mono k (fun I12 J13 k => ?_))
          refine V_goto dX12_readLine_109 ?_
          exact V_wk (wk_eq (wk_j (wk_j (wk_nil)))) k
      · have k := k.2 c6
        refine V_aload_n dX12_readLine_93 rfl ?_
        refine U_callV0 [] dX12_readLine_94 ov_X12_148 s_68 rfl ⟨rfl, rfl, rfl⟩ rfl rfl rfl (CallV_mono k (fun I15 J16 k => ?_))
        refine V_goto dX12_readLine_97 ?_
        exact V_wk (wk_eq (wk_j (wk_j (wk_nil)))) k
    · have k := k.2 c5
      refine V_aload_n dX12_readLine_27 rfl ?_
      refine U_getR dX12_readLine_28 fl_X12_34 s_68 rfl ?_
      refine V_iconst (v := (0 : Int32)) dX12_readLine_31 rfl ?_
      refine U_ialdx (x := I2 77 0) dX12_readLine_32 s_77 (by unfold vp_in; decide) rfl ?_
      refine V_iconst (v := (5 : Int32)) dX12_readLine_33 rfl ?_
      refine V_icmp_ne dX12_readLine_34 (fun c17 => ?_) (fun c17 => ?_)
      · have k := k.1 c17
        refine V_aload_n dX12_readLine_43 rfl ?_
        refine U_callV0 [] dX12_readLine_44 ov_X12_133 s_68 rfl ⟨rfl, rfl, rfl⟩ rfl rfl rfl (CallV_mono k (fun I19 J20 k => ?_))
        refine V_aload_n dX12_readLine_47 rfl ?_
        refine V_iconst (v := (1 : Int32)) dX12_readLine_48 rfl ?_
        refine V_sipush (v := (999 : Int32)) dX12_readLine_49 rfl ?_
        refine U_callV1 [.int (1 : Int32), .int (999 : Int32)] dX12_readLine_52 ov_X12_136 s_68 rfl ⟨rfl, rfl, rfl⟩ rfl rfl rfl (CallI_mono k (fun x21 I22 J23 k => ?_))
        refine U_istore_n (L2 := [.ref 68, .int x1, .int x21]) dX12_readLine_55 (by decide) rfl ?_
        refine V_aload_n dX12_readLine_56 rfl ?_
        refine U_getI dX12_readLine_57 fl_X12_95 s_68 rfl ?_
        refine V_if_ne dX12_readLine_60 (fun c24 => ?_) (fun c24 => ?_)
        · have k := k.1 c24
          refine V_goto dX12_readLine_85 ?_
          exact V_wk (wk_eq (wk_j (wk_j (wk_nil)))) k
        · have k := k.2 c24
          refine V_aload_n dX12_readLine_63 rfl ?_
          refine U_getR dX12_readLine_64 fl_X12_37 s_68 rfl ?_
          refine V_aload_n dX12_readLine_67 rfl ?_
          refine U_getR dX12_readLine_68 fl_X12_34 s_68 rfl ?_
          refine V_iconst (v := (0 : Int32)) dX12_readLine_71 rfl ?_
          refine U_ialdx (x := I22 77 0) dX12_readLine_72 s_77 (by unfold vp_in; decide) rfl ?_
          refine V_iload_n dX12_readLine_73 rfl ?_
          obtain ⟨hb25, k⟩ := k
          refine U_iast dX12_readLine_74 s_78 hb25 ?_
          refine V_aload_n dX12_readLine_75 rfl ?_
          refine U_getR dX12_readLine_76 fl_X12_34 s_68 rfl ?_
          refine V_iconst (v := (0 : Int32)) dX12_readLine_79 rfl ?_
          refine V_dup2 dX12_readLine_80 ?_
          refine U_ialdx (x := I22 77 0) dX12_readLine_81 s_77 (by unfold vp_in; decide) rfl ?_
          refine V_iconst (v := (1 : Int32)) dX12_readLine_82 rfl ?_
          refine V_iadd dX12_readLine_83 ?_
          refine U_iast dX12_readLine_84 s_77 (by unfold vp_in; decide) ?_
          refine V_goto dX12_readLine_85 ?_
          exact V_wk (wk_eq (wk_j (wk_j (wk_nil)))) k
      · have k := k.2 c17
        refine V_aload_n dX12_readLine_37 rfl ?_
        refine V_iconst (v := (5 : Int32)) dX12_readLine_38 rfl ?_
        refine U_callV0 [.int (5 : Int32)] dX12_readLine_39 ov_X12_125 s_68 rfl ⟨rfl, rfl, rfl⟩ rfl rfl rfl (CallV_mono k (fun I27 J28 k => ?_))
        exact V_vret dX12_readLine_42 rfl rfl rfl ⟨_, _, rfl, k⟩
  · have k := k.2 c4
    refine V_aload_n dX12_readLine_17 rfl ?_
    refine V_iconst (v := (2 : Int32)) dX12_readLine_18 rfl ?_
    refine U_callV0 [.int (2 : Int32)] dX12_readLine_19 ov_X12_125 s_68 rfl ⟨rfl, rfl, rfl⟩ rfl rfl rfl (CallV_mono k (fun I30 J31 k => ?_))
    exact V_vret dX12_readLine_22 rfl rfl rfl ⟨_, _, rfl, k⟩
set_option maxHeartbeats 4000000 in
set_option maxRecDepth 20000 in
theorem wX12_readLine_117 {E : aE} {P : hI_ → hJ_ → Prop} {I : hI_} {J : hJ_}  (k : ((¬ (I 68 3) = (0 : Int32) → CallV E mX12_next [.ref 68] SH I J (fun I3 J4 => P I3 J4)) ∧ ((I 68 3) = (0 : Int32) → (((I 68 7) = (3 : Int32) → CallV E mX12_next [.ref 68] SH I J (fun I7 J8 => P I7 J8)) ∧ (¬ ((I 68 7) = (3 : Int32)) → CallV E mX12_fails [.ref 68, .int (2 : Int32)] SH I J (fun I10 J11 => CallV E mX12_next [.ref 68] SH I10 J11 (fun I13 J14 => P I13 J14))))))) : HX12_readLine_117 E P  I J := by
  show V E mX12_readLine (kV SH P) 117 [.ref 68, .retAddr 0, .retAddr 0] [] (SH, I, J) (0, 0)
  refine V_aload_n dX12_readLine_117 rfl ?_
  refine U_getI dX12_readLine_118 fl_X12_95 s_68 rfl ?_
  refine V_if_ne dX12_readLine_121 (fun c1 => ?_) (fun c1 => ?_)
  · have k := k.1 c1
    refine V_aload_n dX12_readLine_137 rfl ?_
    refine U_callV0 [] dX12_readLine_138 ov_X12_133 s_68 rfl ⟨rfl, rfl, rfl⟩ rfl rfl rfl (CallV_mono k (fun I3 J4 k => ?_))
    exact V_vret dX12_readLine_141 rfl rfl rfl ⟨_, _, rfl, k⟩
  · have k := k.2 c1
    refine V_aload_n dX12_readLine_124 rfl ?_
    refine U_getI dX12_readLine_125 fl_X12_104 s_68 rfl ?_
    refine V_iconst (v := (3 : Int32)) dX12_readLine_128 rfl ?_
    refine V_icmp_eq dX12_readLine_129 (fun c5 => ?_) (fun c5 => ?_)
    · have k := k.1 c5
      refine V_aload_n dX12_readLine_137 rfl ?_
      refine U_callV0 [] dX12_readLine_138 ov_X12_133 s_68 rfl ⟨rfl, rfl, rfl⟩ rfl rfl rfl (CallV_mono k (fun I7 J8 k => ?_))
      exact V_vret dX12_readLine_141 rfl rfl rfl ⟨_, _, rfl, k⟩
    · have k := k.2 c5
      refine V_aload_n dX12_readLine_132 rfl ?_
      refine V_iconst (v := (2 : Int32)) dX12_readLine_133 rfl ?_
      refine U_callV0 [.int (2 : Int32)] dX12_readLine_134 ov_X12_125 s_68 rfl ⟨rfl, rfl, rfl⟩ rfl rfl rfl (CallV_mono k (fun I10 J11 k => ?_))
      refine V_aload_n dX12_readLine_137 rfl ?_
      refine U_callV0 [] dX12_readLine_138 ov_X12_133 s_68 rfl ⟨rfl, rfl, rfl⟩ rfl rfl rfl (CallV_mono k (fun I13 J14 k => ?_))
      exact V_vret dX12_readLine_141 rfl rfl rfl ⟨_, _, rfl, k⟩
theorem tX12_readLine {E : aE} {P : hI_ → hJ_ → Prop} {n : Nat} {B : Nat → Nat} {I : hI_} {J : hJ_} {k0 : Nat} {D : Nat → Nat} (h : MB n B I) (hC : RConst (I 70) (I 71) (I 72)) (hk : k0 ≤ n) (hT : MT n B k0 I) (h4 : tK n B k0 ≠ 4) (hD : MD D I) (ok : DOK D) (kg : tK n B k0 = 1 → (line n B k0 D).1 = 0 → tK n B (line n B k0 D).2.2.1 = 3 → ∀ I2, frQ I I2 → MT n B (tE n B (line n B k0 D).2.2.1) I2 → MD (line n B k0 D).2.2.2 I2 → P I2 J) (kb : (stepB n B k0 D).1 ≠ 0 → ∀ I2, frQ I I2 → I2 68 3 = nI (stepB n B k0 D).1 → I2 68 4 = nI (stepB n B k0 D).2 → P I2 J) : CallV E mX12_readLine [.ref 68] SH I J P := by
  have o1 := ok.1
  have he := (tE_b (B := B) hk).2.1
  have hw := (hT.2.2.2 h4).1
  have n9 := nmI_9 (n := n) (B := B) (k := k0)
  have lo := line_ok (B := B) (k0 := k0) ok hk
  have ll := line_le n B k0 D
  have k4 := tK_4 n B k0
  -- behind the line's own part
  have tail : tK n B k0 = 1 → LMc n B I J (line n B k0 D) (fun I2 J2 => HX12_readLine_117 E P I2 J2) := fun t1 I2 f g1 g2 => by
    unfold stepB at kb
    rw [if_pos t1] at kb
    generalize line n B k0 D = r at *
    by_cases z : r.1 = 0
    · obtain ⟨hT2, hD2⟩ := g1 z
      obtain ⟨okr, l1, l2⟩ := lo z
      rw [if_pos z] at kb
      have k44 := tK_4 n B r.2.2.1
      have e3 : (nI (tK n B r.2.2.1) = 3) ↔ tK n B r.2.2.1 = 3 := nI_eqI (b := 3) (by omega) (by omega)
      by_cases t : tK n B r.2.2.1 = 4
      · obtain ⟨a3, a4⟩ := hT2.2.2.1 t
        have a3 : I2 68 3 = nI 1 := a3
        rw [if_pos t] at kb
        refine wX12_readLine_117 ⟨fun _ => tX12_nextN a3 (by omega) (by omega) (kb (by show (1 : Nat) ≠ 0; omega) I2 f a3 a4), fun y => absurd y (wr_ne a3 (by omega) (by omega))⟩
      · obtain ⟨a3, a7, a8⟩ := hT2.2.2.2 t
        rw [if_neg t] at kb
        refine wX12_readLine_117 ⟨fun y => absurd a3 y, fun _ => ?_⟩
        rw [a7]
        refine ⟨fun y => ?_, fun y => ?_⟩
        · have y := e3.mp y
          exact tX12_nextY (MB_Q h f) a3 hT2.1 (tE_b (B := B) l2).2.1 (fun I3 f3 hT3 => kg t1 z y I3 (frQ_tr f (frQ_M f3)) hT3 (MD_M (hD2 t) f3))
        · have y : ¬ tK n B r.2.2.1 = 3 := fun w => y (e3.mpr w)
          rw [if_neg y] at kb
          have ff := mfail_st (c := 2) f hT2
          exact tX12_failsY a3 (tX12_nextN ff.2.1 (by omega) (by omega) (kb (by show (2 : Nat) ≠ 0; omega) _ ff.1 ff.2.1 ff.2.2))
    · obtain ⟨a3, a4⟩ := g2 z
      rw [if_neg z] at kb
      refine wX12_readLine_117 ⟨fun _ => tX12_nextN a3 (by omega) (by omega) (kb z I2 f a3 a4), fun y => absurd y (wr_ne a3 (by omega) (by omega))⟩
  -- one whose fault ends the line at once
  have once : tK n B k0 = 1 → ∀ c s D2, line n B k0 D = (c, s, 0, D2) → c ≠ 0 → ∀ I2, frQ I I2 → I2 68 3 = nI c → I2 68 4 = nI s → P I2 J := fun t1 c s D2 hr hc I2 f a3 a4 => by
    have e : stepB n B k0 D = (c, s) := by
      unfold stepB
      rw [if_pos t1, hr]
      exact if_neg hc
    rw [e] at kb
    exact kb hc I2 f a3 a4
  have nk : nmI n B k0 < 9 → tK n B k0 = 1 := fun y => (nmP_iff.mp (nmI_is y)).1
  refine wX12_readLine (tX12_nameHere h hk hT h4 hC ?_)
  have e5 : (0 ≤ nmE (nmI n B k0) ∧ nmE (nmI n B k0) ≤ 5) ↔ nmI n B k0 ≤ 5 := by
    unfold nmE
    by_cases z : nmI n B k0 = 9
    · rw [if_pos z]; exact ⟨fun y => absurd y.1 (by decide), fun y => by omega⟩
    · rw [if_neg z]
      have : (nI (nmI n B k0) ≤ 5) ↔ nmI n B k0 ≤ 5 := nI_leJ (b := 5) (by omega) (by omega)
      rw [this]
      exact ⟨fun y => y.2, fun y => ⟨nI_pos' (by omega), y⟩⟩
  rw [e5]
  refine ⟨fun z => ?_, fun z => ?_⟩
  · have t1 := nk (by omega)
    have en : nmE (nmI n B k0) = nI (nmI n B k0) := by unfold nmE; rw [if_neg (by omega)]
    rw [en]
    have m0 : (nI (nmI n B k0) = 0) ↔ nmI n B k0 = 0 := nI_eqI (b := 0) (by omega) (by omega)
    have m1 : (nI (nmI n B k0) = 1) ↔ nmI n B k0 = 1 := nI_eqI (b := 1) (by omega) (by omega)
    have m2 : (nI (nmI n B k0) = 2) ↔ nmI n B k0 = 2 := nI_eqI (b := 2) (by omega) (by omega)
    have tl := tail t1
    have on := once t1
    unfold line at tl on
    refine ⟨fun z0 => ?_, fun z0 => ?_⟩
    · have z0 : ¬ nmI n B k0 = 0 := fun y => z0 (m0.mpr y)
      rw [if_neg z0] at tl
      refine ⟨fun z1 => ?_, fun z1 => ?_⟩
      · have z1 : ¬ nmI n B k0 = 1 := fun y => z1 (m1.mpr y)
        rw [if_neg z1] at tl
        refine ⟨fun z2 => ?_, fun z2 => ?_⟩
        · have z2 : ¬ nmI n B k0 = 2 := fun y => z2 (m2.mpr y)
          rw [if_neg z2] at tl
          by_cases z3 : nmI n B k0 = 3
          · rw [if_pos z3] at tl
            rw [z3]
            exact tX12_readMoves h hk hT h4 hD ok tl
          · rw [if_neg z3] at tl
            by_cases z4 : nmI n B k0 = 4
            · rw [if_pos z4] at tl
              rw [z4]
              exact tX12_readFirst h hC hk hT h4 hD ok tl
            · rw [if_neg z4] at tl
              have z5 : nmI n B k0 = 5 := by omega
              rw [if_pos z5] at tl
              rw [z5]
              exact tX12_readMost h hk hT h4 hD ok tl
        · rw [if_pos (m2.mp z2)] at tl
          exact tX12_readShut h hk hT h4 hD ok tl
      · rw [if_pos (m1.mp z1)] at tl
        exact tX12_readWay h hk hT h4 hD ok tl
    · rw [if_pos (m0.mp z0)] at tl on
      rw [hD.1 0 (by omega)]
      have e55 : (nI (D 0) = 5) ↔ D 0 = 5 := nI_eqI (b := 5) (by omega) (by omega)
      refine ⟨fun y => ?_, fun y => ?_⟩
      · have y : ¬ 5 ≤ D 0 := fun w => y (e55.mpr (by omega))
        refine tX12_nextY h hw hT.1 he (fun I1 f1 hT1 => ?_)
        have hD1 := MD_M hD f1
        refine tX12_numberY (lo := 1) (hx := 1000) (MB_fr h f1) he hT1 rfl (by omega) (by omega) (fun c1 I2 f2 hT2 => ?_) (fun c1 I2 f2 a3 a4 => ?_)
        · have hD2 := MD_M hD1 f2
          have f12 := frM_tr f1 f2
          have hr : lnPlace n B k0 (tE n B k0) D = (0, 0, tE n B (tE n B k0), upN (upN D (20 + D 0) (tV n B (tE n B k0))) 0 (D 0 + 1)) := by unfold lnPlace; rw [if_neg y, if_pos c1]
          by_cases t4 : tK n B (tE n B (tE n B k0)) = 4
          · have a3 := (hT2.2.2.1 t4).1
            exact ⟨fun _ => MLG tl hr (frQ_M f12) hT2 (fun w => absurd t4 w), fun w => absurd w (wr_ne (c := 1) a3 (by omega) (by omega))⟩
          · have a3 := (hT2.2.2.2 t4).1
            refine ⟨fun w => absurd a3 w, fun _ => ?_⟩
            rw [hD2.1 0 (by omega), nI_clamp (by omega), nI_1]
            refine ⟨vp_in_nI (by omega) (by omega), MLG tl hr (frQ_tr (frQ_M f12) (frQ_tr (frQ_up (by omega)) (frQ_up (by omega)))) (MT_up (MT_up hT2 (by omega)) (by omega)) (fun _ => ?_)⟩
            obtain ⟨b1, b2, b3, b4, b5⟩ := hD2
            generalize tV n B (tE n B k0) = v at *
            have o : ∀ j, j ≠ 0 → j ≠ 20 + D 0 → upN (upN D (20 + D 0) v) 0 (D 0 + 1) j = D j := fun j h1 h2 => by rw [upN_o h1, upN_o h2]
            refine ⟨fun j hj => ?_, fun i hi => ?_, fun q hq => ?_, fun j hj => ?_, ?_⟩
            · rw [upI_at]
              by_cases w : j = 0
              · rw [if_pos ⟨rfl, w⟩, w, upN_e]
              · rw [if_neg (fun u => w u.2), upI_at, if_neg (by omega), o j w (by omega)]; exact b1 j hj
            · rw [upN_e] at hi
              rw [upI_at, if_neg (by omega), upI_at]
              by_cases w : i = D 0
              · rw [if_pos ⟨rfl, w⟩, w, upN_o (by omega), upN_e]
              · rw [if_neg (fun u => w u.2), o _ (by omega) (by omega)]; exact b2 i (by omega)
            · rw [upI_at, if_neg (by omega), upI_at, if_neg (by omega), o _ (by omega) (by omega)]; exact b3 q hq
            · rw [o 2 (by omega) (by omega)] at hj
              rw [upI_at, if_neg (by omega), upI_at, if_neg (by omega), o _ (by omega) (by omega)]; exact b4 j hj
            · rw [upI_at, if_neg (by omega), upI_at, if_neg (by omega), o 8 (by omega) (by omega), o 9 (by omega) (by omega), o 10 (by omega) (by omega)]; exact b5
        · have c3 := cN3 (n := n) (B := B) (k := tE n B k0) (lo := 1) (hx := 1000)
          exact ⟨fun _ => MLB tl (by unfold lnPlace; rw [if_neg y, if_neg c1]) c1 (frQ_M (frM_tr f1 f2)) a3 a4, fun w => absurd w (wr_ne a3 (by omega) (by omega))⟩
      · have y := e55.mp y
        have ff := mfail_st (c := 5) (frQ_M (frM_rf (I := I))) hT
        exact tX12_failsY hw (on 5 (tS n B k0) D (by unfold lnPlace; rw [if_pos (by omega)]) (by omega) _ ff.1 ff.2.1 ff.2.2)
  · have ff := mfail_st (c := 2) (frQ_M (frM_rf (I := I))) hT
    have e : stepB n B k0 D = (2, tS n B k0) := by
      unfold stepB
      by_cases t1 : tK n B k0 = 1
      · rw [if_pos t1]
        have hl : line n B k0 D = (2, tS n B k0, 0, D) := by
          unfold line
          rw [if_neg (by omega), if_neg (by omega), if_neg (by omega), if_neg (by omega), if_neg (by omega), if_neg (by omega)]
        rw [hl]
        rfl
      · rw [if_neg t1]
    rw [e] at kb
    exact tX12_failsY hw (kb (by show (2 : Nat) ≠ 0; omega) _ ff.1 ff.2.1 ff.2.2)
