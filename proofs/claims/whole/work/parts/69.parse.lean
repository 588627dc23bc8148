def pars (n : Nat) (B : Nat → Nat) : Nat → Nat → Nat → (Nat → Nat) → Nat × Nat × Nat × (Nat → Nat)
  | 0, _, l, D => (0, 0, l, D)
  | f + 1, k, l, D => if tK n B k = 0 then (0, 0, l, D) else if tK n B k = 4 then (1, tS n B k, l, D) else if tK n B k = 1 then (if (line n B k D).1 = 0 then (if tK n B (line n B k D).2.2.1 = 4 then (1, tS n B (line n B k D).2.2.1, l, D) else if tK n B (line n B k D).2.2.1 = 3 then pars n B f (tE n B (line n B k D).2.2.1) (l + 1) (line n B k D).2.2.2 else (2, tS n B (line n B k D).2.2.1, l, D)) else ((line n B k D).1, (line n B k D).2.1, l, D)) else (2, tS n B k, l, D)
theorem pars_s (n : Nat) (B : Nat → Nat) (f k l : Nat) (D : Nat → Nat) : pars n B (f + 1) k l D = if tK n B k = 0 then (0, 0, l, D) else if tK n B k = 4 then (1, tS n B k, l, D) else if tK n B k = 1 then (if (line n B k D).1 = 0 then (if tK n B (line n B k D).2.2.1 = 4 then (1, tS n B (line n B k D).2.2.1, l, D) else if tK n B (line n B k D).2.2.1 = 3 then pars n B f (tE n B (line n B k D).2.2.1) (l + 1) (line n B k D).2.2.2 else (2, tS n B (line n B k D).2.2.1, l, D)) else ((line n B k D).1, (line n B k D).2.1, l, D)) else (2, tS n B k, l, D) := rfl
def PXc (I : hI_) (J : hJ_) (r : Nat × Nat × Nat × (Nat → Nat)) (P : Int32 → hI_ → hJ_ → Prop) : Prop := ∀ x I2, frX I I2 → (r.1 = 0 → x = nI r.2.2.1 ∧ XD r.2.2.2 I2 ∧ DOK r.2.2.2) → (r.1 ≠ 0 → I2 17 2 = nI r.1 ∧ I2 17 3 = nI r.2.1) → P x I2 J
theorem PB {I : hI_} {J : hJ_} {r : Nat × Nat × Nat × (Nat → Nat)} {P : Int32 → hI_ → hJ_ → Prop} (k : PXc I J r P) {c s l : Nat} {D : Nat → Nat} (hr : r = (c, s, l, D)) (hc : c ≠ 0) {x : Int32} {I2 : hI_} (hf : frX I I2) (h2 : I2 17 2 = nI c) (h3 : I2 17 3 = nI s) : P x I2 J := k x I2 hf (by rw [hr]; exact fun z => absurd z hc) (by rw [hr]; exact fun _ => ⟨h2, h3⟩)
def HX4_parse_42 (E : aE) (P : Int32 → hI_ → hJ_ → Prop) (v1 : Int32) (I : hI_) (J : hJ_) : Prop := V E mX4_parse (kI SH P) 42 [.ref 17, .int v1] [] (SH, I, J) (0, 0)
set_option maxHeartbeats 4000000 in
set_option maxRecDepth 20000 in
theorem wX4_parse {E : aE} {P : Int32 → hI_ → hJ_ → Prop} {I : hI_} {J : hJ_}  (k : CallV E mX3_clear [.ref 10] SH I J (fun I2 J3 => HX4_parse_42 E P (0 : Int32) (upI (upI (upI (upI (upI (upI I2 1 2 (0 : Int32)) 17 2 (0 : Int32)) 17 3 (0 : Int32)) 17 4 (0 : Int32)) 17 5 (0 : Int32)) 17 6 (0 : Int32)) J3)) : CallI E mX4_parse [.ref 17] SH I J P := by
  refine Call_of (L := [.ref 17, .retAddr 0]) ok_X4_parse.1 rfl rfl ?_
  refine V_aload_n dX4_parse_0 rfl ?_
  refine U_getR dX4_parse_1 fl_X4_15 s_17 rfl ?_
  refine U_callV0 [] dX4_parse_4 ov_X4_19 s_10 rfl ⟨rfl, rfl, rfl⟩ rfl rfl rfl (CallV_mono k (fun I2 J3 k => ?_))
  refine V_aload_n dX4_parse_7 rfl ?_
  refine U_getR dX4_parse_8 fl_X4_9 s_17 rfl ?_
  refine V_iconst (v := (0 : Int32)) dX4_parse_11 rfl ?_
  refine U_putI dX4_parse_12 fp_X4_24 s_1 rfl ?_
  refine V_aload_n dX4_parse_15 rfl ?_
  refine V_iconst (v := (0 : Int32)) dX4_parse_16 rfl ?_
  refine U_putI dX4_parse_17 fp_X4_30 s_17 rfl ?_
  refine V_aload_n dX4_parse_20 rfl ?_
  refine V_iconst (v := (0 : Int32)) dX4_parse_21 rfl ?_
  refine U_putI dX4_parse_22 fp_X4_33 s_17 rfl ?_
  refine V_aload_n dX4_parse_25 rfl ?_
  refine V_iconst (v := (0 : Int32)) dX4_parse_26 rfl ?_
  refine U_putZ dX4_parse_27 fp_X4_36 (by decide) s_17 rfl ?_
  refine V_aload_n dX4_parse_30 rfl ?_
  refine V_iconst (v := (0 : Int32)) dX4_parse_31 rfl ?_
  refine U_putZ dX4_parse_32 fp_X4_40 (by decide) s_17 rfl ?_
  refine V_aload_n dX4_parse_35 rfl ?_
  refine V_iconst (v := (0 : Int32)) dX4_parse_36 rfl ?_
  refine U_putZ dX4_parse_37 fp_X4_43 (by decide) s_17 rfl ?_
  refine V_iconst (v := (0 : Int32)) dX4_parse_40 rfl ?_
  refine U_istore_n (L2 := [.ref 17, .int (0 : Int32)]) dX4_parse_41 (by decide) rfl ?_
  exact k
set_option maxHeartbeats 4000000 in
set_option maxRecDepth 20000 in
theorem wX4_parse_42 {E : aE} {P : Int32 → hI_ → hJ_ → Prop} {I : hI_} {J : hJ_} {v1 : Int32} (k : (((320 : Int32) ≤ v1 → P (320 : Int32) I J) ∧ (¬ ((320 : Int32) ≤ v1) → CallV E mX8_advance [.ref 1] SH I J (fun I3 J4 => ((¬ (I3 1 3) = (0 : Int32) → CallI E mX4_isOf [.ref 17, .int (1 : Int32)] SH I3 J4 (fun x6 I7 J8 => ((x6 = (0 : Int32) → P v1 I7 J8) ∧ (¬ (x6 = (0 : Int32)) → CallI E mX4_takeLine [.ref 17] SH I7 J8 (fun x10 I11 J12 => ((¬ x10 = (0 : Int32) → CallV E mX8_advance [.ref 1] SH I11 J12 (fun I15 J16 => CallI E mX4_isOf [.ref 17, .int (3 : Int32)] SH I15 J16 (fun x17 I18 J19 => ((¬ x17 = (0 : Int32) → HX4_parse_42 E P (v1 + (1 : Int32)) I18 J19) ∧ (x17 = (0 : Int32) → P v1 I18 J19))))) ∧ (x10 = (0 : Int32) → P v1 I11 J12))))))) ∧ ((I3 1 3) = (0 : Int32) → P v1 I3 J4)))))) : HX4_parse_42 E P v1 I J := by
  show V E mX4_parse (kI SH P) 42 [.ref 17, .int v1] [] (SH, I, J) (0, 0)
  refine V_iload_n dX4_parse_42 rfl ?_
  refine V_sipush (v := (320 : Int32)) dX4_parse_43 rfl ?_
  refine V_icmp_ge dX4_parse_46 (fun c1 => ?_) (fun c1 => ?_)
  · have k := k.1 c1
    refine V_sipush (v := (320 : Int32)) dX4_parse_108 rfl ?_
    exact V_iret dX4_parse_111 ⟨_, rfl, rfl⟩ rfl rfl ⟨_, _, _, rfl, rfl, k⟩
  · have k := k.2 c1
    refine V_aload_n dX4_parse_49 rfl ?_
    refine U_getR dX4_parse_50 fl_X4_9 s_17 rfl ?_
    refine U_callV0 [] dX4_parse_53 ov_X4_46 s_1 rfl ⟨rfl, rfl, rfl⟩ rfl rfl rfl (CallV_mono k (fun I3 J4 k => ?_))
    refine V_aload_n dX4_parse_56 rfl ?_
    refine U_getR dX4_parse_57 fl_X4_9 s_17 rfl ?_
    refine U_getI dX4_parse_60 fl_X4_49 s_1 rfl ?_
    refine V_if_ne dX4_parse_63 (fun c5 => ?_) (fun c5 => ?_)
    · have k := k.1 c5
      refine V_aload_n dX4_parse_68 rfl ?_
      refine V_iconst (v := (1 : Int32)) dX4_parse_69 rfl ?_
      refine U_callV1 [.int (1 : Int32)] dX4_parse_70 ov_X4_52 s_17 rfl ⟨rfl, rfl, rfl⟩ rfl rfl rfl (CallI_mono k (fun x6 I7 J8 k => ?_))
      refine V_if_eq dX4_parse_73 (fun c9 => ?_) (fun c9 => ?_)
      · have k := k.1 c9
        refine V_iload_n dX4_parse_83 rfl ?_
        exact V_iret dX4_parse_84 ⟨_, rfl, rfl⟩ rfl rfl ⟨_, _, _, rfl, rfl, k⟩
      · have k := k.2 c9
        refine V_aload_n dX4_parse_76 rfl ?_
        refine U_callV1 [] dX4_parse_77 ov_X4_56 s_17 rfl ⟨rfl, rfl, rfl⟩ rfl rfl rfl (CallI_mono k (fun x10 I11 J12 k => ?_))
        refine V_if_ne dX4_parse_80 (fun c13 => ?_) (fun c13 => ?_)
        · have k := k.1 c13
          refine V_aload_n dX4_parse_85 rfl ?_
          refine U_getR dX4_parse_86 fl_X4_9 s_17 rfl ?_
          refine U_callV0 [] dX4_parse_89 ov_X4_46 s_1 rfl ⟨rfl, rfl, rfl⟩ rfl rfl rfl (CallV_mono k (fun I15 J16 k => ?_))
          refine V_aload_n dX4_parse_92 rfl ?_
          refine V_iconst (v := (3 : Int32)) dX4_parse_93 rfl ?_
          refine U_callV1 [.int (3 : Int32)] dX4_parse_94 ov_X4_52 s_17 rfl ⟨rfl, rfl, rfl⟩ rfl rfl rfl (CallI_mono k (fun x17 I18 J19 k => ?_))
          refine V_if_ne dX4_parse_97 (fun c20 => ?_) (fun c20 => ?_)
          · have k := k.1 c20
            refine U_iinc (v := v1 + (1 : Int32)) (L2 := [.ref 17, .int (v1 + (1 : Int32))]) dX4_parse_102 (by decide) rfl rfl rfl ?_
            refine V_goto dX4_parse_105 ?_
            exact k
          · have k := k.2 c20
            refine V_iload_n dX4_parse_100 rfl ?_
            exact V_iret dX4_parse_101 ⟨_, rfl, rfl⟩ rfl rfl ⟨_, _, _, rfl, rfl, k⟩
        · have k := k.2 c13
          refine V_iload_n dX4_parse_83 rfl ?_
          exact V_iret dX4_parse_84 ⟨_, rfl, rfl⟩ rfl rfl ⟨_, _, _, rfl, rfl, k⟩
    · have k := k.2 c5
      refine V_iload_n dX4_parse_66 rfl ?_
      exact V_iret dX4_parse_67 ⟨_, rfl, rfl⟩ rfl rfl ⟨_, _, _, rfl, rfl, k⟩
theorem parseX_loop {E : aE} {P : Int32 → hI_ → hJ_ → Prop} {n : Nat} {B : Nat → Nat} {I0 : hI_} {J : hJ_} (h : XB n B I0) {r : Nat × Nat × Nat × (Nat → Nat)} (kk : PXc I0 J r P) : ∀ (f k l : Nat) (D : Nat → Nat) (I : hI_), frX I0 I → I 1 2 = nI k → XD D I → DOK D → 2 * l ≤ k → k ≤ n → n + 1 - k ≤ f → pars n B f k l D = r → HX4_parse_42 E P (nI l) I J
  | 0, k, l, D, I, hf, h2, hD, ok, hl, hk, hfu, hr => by omega
  | f + 1, k, l, D, I, hf, h2, hD, ok, hl, hk, hfu, hr => by
    have hn := h.2.1
    have hB := XB_fr h hf
    have hs := tS_b (B := B) hk
    have he := tE_b (B := B) hk
    have k4 := tK_4 n B k
    have e4 : (nI (tK n B k) = 4) ↔ tK n B k = 4 := nI_eqI (b := 4) (by omega) (by omega)
    have e1 : (nI (tK n B k) = 1) ↔ tK n B k = 1 := nI_eqI (b := 1) (by omega) (by omega)
    have e0 : (nI (tK n B k) = 0) ↔ tK n B k = 0 := nI_eqI (b := 0) (by omega) (by omega)
    rw [pars_s] at hr
    refine wX4_parse_42 ⟨fun z => absurd z (nI_ge (b := 320) (by omega) (by omega)), fun _ => tX8_advance hB h2 hk (fun I2 q1 q2 hT => ?_)⟩
    have f2 := frX_tr hf (frX_1 q1 q2)
    have hD2 := XD_1 hD q1
    rw [hT.2.1]
    refine ⟨fun z0 => ?_, fun z0 => ?_⟩
    · have z0 : ¬ tK n B k = 0 := fun y => z0 (e0.mpr y)
      rw [if_neg z0] at hr
      refine wX4_isOf ?_
      rw [hT.2.1]
      refine ⟨fun z4 => ?_, fun z4 => ?_⟩
      · have z4 : ¬ tK n B k = 4 := fun y => z4 (e4.mpr y)
        rw [if_neg z4] at hr
        refine ⟨fun z1 => ⟨fun y => absurd y (by decide), fun _ => ?_⟩, fun z1 => ?_⟩
        · have z1 := e1.mp z1
          rw [if_pos z1] at hr
          have lo := line_ok (B := B) (k0 := k) ok hk
          refine tX4_takeLine (XB_fr h f2) hk hT hD2 ok (fun x I3 hf3 g1 g2 => ?_)
          generalize line n B k D = rl at *
          have f3 := frX_tr f2 hf3
          by_cases y : rl.1 = 0
          · rw [if_pos y] at hr
            obtain ⟨gx, g12, gD⟩ := g1 y
            obtain ⟨okl, l1, l2⟩ := lo y
            rw [gx]
            refine ⟨fun _ => tX8_advance (XB_fr h f3) g12 l2 (fun I4 s1 s2 hT4 => ?_), fun w => absurd w (by decide)⟩
            have hs4 := tS_b (B := B) l2
            have he4 := tE_b (B := B) l2
            have k44 := tK_4 n B rl.2.2.1
            have e44 : (nI (tK n B rl.2.2.1) = 4) ↔ tK n B rl.2.2.1 = 4 := nI_eqI (b := 4) (by omega) (by omega)
            have e43 : (nI (tK n B rl.2.2.1) = 3) ↔ tK n B rl.2.2.1 = 3 := nI_eqI (b := 3) (by omega) (by omega)
            have f4 := frX_tr f3 (frX_1 s1 s2)
            refine wX4_isOf ?_
            rw [hT4.2.1]
            refine ⟨fun w4 => ?_, fun w4 => ?_⟩
            · have w4 : ¬ tK n B rl.2.2.1 = 4 := fun v => w4 (e44.mpr v)
              rw [if_neg w4] at hr
              refine ⟨fun w3 => ⟨fun _ => ?_, fun v => absurd v (by decide)⟩, fun w3 => ?_⟩
              · have w3 := e43.mp w3
                rw [if_pos w3] at hr
                have a1 := he.2.2 (by omega)
                have a2 := he4.2.2 (by omega)
                rw [nI_1 l]
                exact parseX_loop h kk f (tE n B rl.2.2.1) (l + 1) rl.2.2.2 I4 f4 hT4.1 (XD_1 gD s1) okl (by omega) he4.2.1 (by omega) hr
              · have w3 : ¬ tK n B rl.2.2.1 = 3 := fun v => w3 (e43.mpr v)
                rw [if_neg w3] at hr
                have ff := fail_st (c := 2) f4 hT4
                exact wX4_fail ⟨fun v => absurd rfl v, fun _ => PB kk hr.symm (by omega) ff.1 ff.2.1 ff.2.2⟩
            · rw [if_pos (e44.mp w4)] at hr
              have ff := fail_st (c := 1) f4 hT4
              exact wX4_fail ⟨Or.inl rfl, fun v => absurd rfl v, fun _ => PB kk hr.symm (by omega) ff.1 ff.2.1 ff.2.2⟩
          · rw [if_neg y] at hr
            obtain ⟨gx, g17, g173⟩ := g2 y
            rw [gx]
            exact ⟨fun w => absurd rfl w, fun _ => PB kk hr.symm y f3 g17 g173⟩
        · have z1 : ¬ tK n B k = 1 := fun y => z1 (e1.mpr y)
          rw [if_neg z1] at hr
          have ff := fail_st (c := 2) f2 hT
          exact wX4_fail ⟨fun _ => PB kk hr.symm (by omega) ff.1 ff.2.1 ff.2.2, fun v => absurd rfl v⟩
      · rw [if_pos (e4.mp z4)] at hr
        have ff := fail_st (c := 1) f2 hT
        exact wX4_fail ⟨Or.inl rfl, fun _ => PB kk hr.symm (by omega) ff.1 ff.2.1 ff.2.2, fun v => absurd rfl v⟩
    · rw [if_pos (e0.mp z0)] at hr
      exact kk _ I2 f2 (by rw [← hr]; exact fun _ => ⟨rfl, hD2, ok⟩) (by rw [← hr]; exact fun v => absurd rfl v)
def D0 (j : Nat) : Nat := if j = 3 then 1 else if j = 4 then 2 else if j = 5 then 1 else if j = 7 then 999 else 0
theorem D0_ok : DOK D0 := by
  have z : ∀ j, 8 ≤ j → D0 j = 0 := fun j hj => by unfold D0; rw [if_neg (by omega), if_neg (by omega), if_neg (by omega), if_neg (by omega)]
  refine ⟨by decide, by decide, fun i hi => ?_, fun a b _ _ => ?_, fun s hs => ?_⟩
  · have hi : i < 0 := hi
    omega
  · rw [z _ (by omega), z _ (by omega)]
    exact ⟨rfl, by omega, fun y => by omega⟩
  · have hs : s < 0 := hs
    omega
set_option maxHeartbeats 4000000 in
set_option maxRecDepth 20000 in
theorem wX3_clear {E : aE} {P : hI_ → hJ_ → Prop} {I : hI_} {J : hJ_}  (k : P (upI (upI (upI (upI (upI (upI (upI (upI (flI I 12 25 (0 : Int32)) 16 0 (1 : Int32)) 16 1 (2 : Int32)) 16 2 (1 : Int32)) 10 6 (0 : Int32)) 10 7 (0 : Int32)) 10 8 (0 : Int32)) 10 9 (0 : Int32)) 10 10 (999 : Int32)) J) : CallV E mX3_clear [.ref 10] SH I J P := by
  refine Call_of (L := [.ref 10]) ok_X3_clear.1 rfl rfl ?_
  refine V_aload_n dX3_clear_0 rfl ?_
  refine U_getR dX3_clear_1 fl_X3_15 s_10 rfl ?_
  refine V_iconst (v := (0 : Int32)) dX3_clear_4 rfl ?_
  refine U_callS0 [.ref 12, .int (0 : Int32)] dX3_clear_5 os_X3_33 ⟨rfl, rfl, rfl⟩ rfl rfl rfl (tfillI s_12 (by decide) ?_)
  refine V_aload_n dX3_clear_8 rfl ?_
  refine U_getR dX3_clear_9 fl_X3_27 s_10 rfl ?_
  refine V_iconst (v := (0 : Int32)) dX3_clear_12 rfl ?_
  refine V_iconst (v := (1 : Int32)) dX3_clear_13 rfl ?_
  refine U_iast dX3_clear_14 s_16 (by unfold vp_in; decide) ?_
  refine V_aload_n dX3_clear_15 rfl ?_
  refine U_getR dX3_clear_16 fl_X3_27 s_10 rfl ?_
  refine V_iconst (v := (1 : Int32)) dX3_clear_19 rfl ?_
  refine V_iconst (v := (2 : Int32)) dX3_clear_20 rfl ?_
  refine U_iast dX3_clear_21 s_16 (by unfold vp_in; decide) ?_
  refine V_aload_n dX3_clear_22 rfl ?_
  refine U_getR dX3_clear_23 fl_X3_27 s_10 rfl ?_
  refine V_iconst (v := (2 : Int32)) dX3_clear_26 rfl ?_
  refine V_iconst (v := (1 : Int32)) dX3_clear_27 rfl ?_
  refine U_iast dX3_clear_28 s_16 (by unfold vp_in; decide) ?_
  refine V_aload_n dX3_clear_29 rfl ?_
  refine V_iconst (v := (0 : Int32)) dX3_clear_30 rfl ?_
  refine U_putI dX3_clear_31 fp_X3_39 s_10 rfl ?_
  refine V_aload_n dX3_clear_34 rfl ?_
  refine V_iconst (v := (0 : Int32)) dX3_clear_35 rfl ?_
  refine U_putI dX3_clear_36 fp_X3_43 s_10 rfl ?_
  refine V_aload_n dX3_clear_39 rfl ?_
  refine V_iconst (v := (0 : Int32)) dX3_clear_40 rfl ?_
  refine U_putI dX3_clear_41 fp_X3_46 s_10 rfl ?_
  refine V_aload_n dX3_clear_44 rfl ?_
  refine V_iconst (v := (0 : Int32)) dX3_clear_45 rfl ?_
  refine U_putI dX3_clear_46 fp_X3_49 s_10 rfl ?_
  refine V_aload_n dX3_clear_49 rfl ?_
  refine V_sipush (v := (999 : Int32)) dX3_clear_50 rfl ?_
  refine U_putI dX3_clear_53 fp_X3_52 s_10 rfl ?_
  exact V_vret dX3_clear_56 rfl rfl rfl ⟨_, _, rfl, k⟩
theorem tX4_parse {E : aE} {P : Int32 → hI_ → hJ_ → Prop} {n : Nat} {B : Nat → Nat} {I : hI_} {J : hJ_} (h : XB n B I) (kk : PXc I J (pars n B (n + 1) 0 0 D0) P) : CallI E mX4_parse [.ref 17] SH I J P := by
  refine wX4_parse (wX3_clear ?_)
  generalize hF : upI (upI (upI (upI (upI (upI (upI (upI (upI (upI (upI (upI (upI (upI (flI I 12 25 0) 16 0 1) 16 1 2) 16 2 1) 10 6 0) 10 7 0) 10 8 0) 10 9 0) 10 10 999) 1 2 0) 17 2 0) 17 3 0) 17 4 0) 17 5 0) 17 6 0 = F
  have fr : frX I F := by
    rw [← hF]
    refine ⟨fun a ha => ?_, ?_⟩
    · funext j
      iterate 14 rw [upI_at, if_neg (by omega)]
      rw [flI_at, if_neg (by omega)]
    · iterate 14 rw [upI_at, if_neg (by omega)]
      rw [flI_at, if_neg (by omega)]
  have F12 : ∀ j, j < 25 → F 12 j = 0 := fun j hj => by
    have e : F 12 = (flI I 12 25 0) 12 := by rw [← hF]; rfl
    rw [e, flI_at, if_pos ⟨rfl, hj⟩]
  refine parseX_loop h kk (n + 1) 0 0 D0 F fr (by rw [← hF]; rfl) ?_ D0_ok (by omega) (by omega) (by omega) rfl
  have z : ∀ j, 8 ≤ j → D0 j = 0 := fun j hj => by unfold D0; rw [if_neg (by omega), if_neg (by omega), if_neg (by omega), if_neg (by omega)]
  refine ⟨⟨by rw [← hF]; rfl, by rw [← hF]; rfl, by rw [← hF]; rfl, by rw [← hF]; rfl, by rw [← hF]; rfl⟩, ⟨by rw [← hF]; rfl, by rw [← hF]; rfl, by rw [← hF]; rfl, by rw [← hF]; rfl⟩, ⟨by rw [← hF]; rfl, by rw [← hF]; rfl, by rw [← hF]; rfl⟩, fun i hi => ?_, fun a b ha hb => ?_, fun s hs => ?_⟩
  · have hi : i < 0 := hi
    omega
  · rw [F12 _ (prN_25 ha hb), z _ (by omega)]; rfl
  · have hs : s < 0 := hs
    omega
