/-- a tape in the model -/
def MB (n : Nat) (B : Nat → Nat) (I : hI_) : Prop := I 68 1 = nI n ∧ n ≤ 320 ∧ ∀ i, i < n → I 69 i = nI (B i) ∧ B i < 256
def frM (I I2 : hI_) : Prop := (∀ a, a ≠ 68 → I2 a = I a) ∧ ∀ j, j < 3 ∨ 9 ≤ j → I2 68 j = I 68 j
theorem frM_rf {I : hI_} : frM I I := ⟨fun _ _ => rfl, fun _ _ => rfl⟩
theorem frM_tr {I I2 I3 : hI_} (h1 : frM I I2) (h2 : frM I2 I3) : frM I I3 := ⟨fun a h => (h2.1 a h).trans (h1.1 a h), fun j h => (h2.2 j h).trans (h1.2 j h)⟩
theorem frM_up {I : hI_} {j : Nat} {v : Int32} (h : 3 ≤ j ∧ j < 9) : frM I (upI I 68 j v) := by
  refine ⟨fun a ha => ?_, fun i hi => ?_⟩
  · funext i; rw [upI_at, if_neg (fun z => ha z.1)]
  · rw [upI_at, if_neg (fun z => by omega)]
theorem MB_fr {n : Nat} {B : Nat → Nat} {I I2 : hI_} (h : MB n B I) (hf : frM I I2) : MB n B I2 := ⟨by rw [hf.2 1 (by omega)]; exact h.1, h.2.1, by rw [hf.1 69 (by omega)]; exact h.2.2⟩
theorem mby_N {n : Nat} {B : Nat → Nat} {I : hI_} (h : MB n B I) {i : Nat} (hi : i < n) : mby I (nI i) = nI (B i) := by
  have hn := h.2.1
  unfold mby
  rw [h.1, if_pos (nI_lt hi (by omega)), nI_clamp (by omega)]
  exact (h.2.2 i hi).1
theorem mby_E {n : Nat} {B : Nat → Nat} {I : hI_} (h : MB n B I) : mby I (nI n) = -4 := by
  have hn := h.2.1
  unfold mby
  rw [h.1, if_neg (nI_nlt (Nat.le_refl _) (by omega))]
/-- the token read from a place on is at hand -/
def MT (n : Nat) (B : Nat → Nat) (k : Nat) (I : hI_) : Prop := I 68 5 = nI (tE n B k) ∧ I 68 6 = nI (tS n B k) ∧ (tK n B k = 4 → I 68 3 = 1 ∧ I 68 4 = nI (tS n B k)) ∧ (tK n B k ≠ 4 → I 68 3 = 0 ∧ I 68 7 = nI (tK n B k) ∧ I 68 8 = nI (tV n B k))
set_option maxHeartbeats 4000000 in
set_option maxRecDepth 20000 in
theorem wX12_fails {E : aE} {P : hI_ → hJ_ → Prop} {I : hI_} {J : hJ_} {a0 : Int32} (k : ((¬ (I 68 3) = (0 : Int32) → P I J) ∧ ((I 68 3) = (0 : Int32) → P (upI (upI I 68 3 a0) 68 4 (I 68 6)) J))) : CallV E mX12_fails [.ref 68, .int a0] SH I J P := by
  refine Call_of (L := [.ref 68, .int a0]) ok_X12_fails.1 rfl rfl ?_
  refine V_aload_n dX12_fails_0 rfl ?_
  refine U_getI dX12_fails_1 fl_X12_95 s_68 rfl ?_
  refine V_if_ne dX12_fails_4 (fun c1 => ?_) (fun c1 => ?_)
  · have k := k.1 c1
    exact V_vret dX12_fails_20 rfl rfl rfl ⟨_, _, rfl, k⟩
  · have k := k.2 c1
    refine V_aload_n dX12_fails_7 rfl ?_
    refine V_iload_n dX12_fails_8 rfl ?_
    refine U_putI dX12_fails_9 fp_X12_95 s_68 rfl ?_
    refine V_aload_n dX12_fails_12 rfl ?_
    refine V_aload_n dX12_fails_13 rfl ?_
    refine U_getIx (x := I 68 6) dX12_fails_14 fl_X12_98 s_68 rfl rfl ?_
    refine U_putI dX12_fails_17 fp_X12_101 s_68 rfl ?_
    exact V_vret dX12_fails_20 rfl rfl rfl ⟨_, _, rfl, k⟩
theorem tX12_failsY {E : aE} {P : hI_ → hJ_ → Prop} {I : hI_} {J : hJ_} {c : Int32} (h : I 68 3 = 0) (k : P (upI (upI I 68 3 c) 68 4 (I 68 6)) J) : CallV E mX12_fails [.ref 68, .int c] SH I J P := wX12_fails ⟨fun z => absurd h z, fun _ => k⟩
theorem tX12_failsN {E : aE} {P : hI_ → hJ_ → Prop} {I : hI_} {J : hJ_} {c : Int32} (h : ¬ I 68 3 = 0) (k : P I J) : CallV E mX12_fails [.ref 68, .int c] SH I J P := wX12_fails ⟨fun _ => k, fun z => absurd z h⟩
theorem rg_m {n : Nat} {B : Nat → Nat} {I : hI_} (h : MB n B I) {i : Nat} (hi : i ≤ n) {x : Int32} (hx : x = nI i) : 0 ≤ x ∧ I 68 1 ≤ 320 := by
  have hn := h.2.1
  rw [hx, h.1]
  exact ⟨nI_pos' (by omega), nI_le (b := 320) hn (by omega)⟩
theorem neg4_le {x : Nat} (hx : x < 1000000) : ¬ nI x ≤ -4 := fun q => by
  have := Int32.le_iff_toInt_le.mp q
  rw [nI_toInt (by omega)] at this
  have z : (-4 : Int32).toInt = -4 := rfl
  omega
theorem mby_in {n : Nat} {B : Nat → Nat} {I : hI_} (h : MB n B I) {lo hi i : Nat} (hi0 : i ≤ n) (h1 : lo < 128) (h2 : hi < 128) : (nI lo ≤ mby I (nI i) ∧ mby I (nI i) ≤ nI hi) ↔ (i < n ∧ isC lo hi B i = true) := by
  by_cases z : i < n
  · have hb := (h.2.2 i z).2
    rw [mby_N h z]
    unfold isC
    rw [decide_eq_true_iff, nI_leJ (by omega) (by omega), nI_leJ (by omega) (by omega)]
    exact ⟨fun a => ⟨z, a⟩, fun a => a.2⟩
  · have e : i = n := by omega
    rw [e, mby_E h]
    exact ⟨fun a => absurd a.1 (neg4_le (by omega)), fun a => absurd a.1 (by omega)⟩
theorem mby_is {n : Nat} {B : Nat → Nat} {I : hI_} (h : MB n B I) {c i : Nat} (hi0 : i ≤ n) (h1 : c < 128) : (mby I (nI i) = nI c) ↔ (i < n ∧ B i = c) := by
  by_cases z : i < n
  · have hb := (h.2.2 i z).2
    rw [mby_N h z, nI_eqI (by omega) (by omega)]
    exact ⟨fun a => ⟨z, a⟩, fun a => a.2⟩
  · have e : i = n := by omega
    rw [e, mby_E h]
    exact ⟨fun a => absurd a.symm (neg4_nI (by omega)), fun a => absurd a.1 (by omega)⟩
theorem mby_4 {n : Nat} {B : Nat → Nat} {I : hI_} (h : MB n B I) {i : Nat} (hi0 : i ≤ n) : (mby I (nI i) = -4) ↔ i = n := by
  by_cases z : i < n
  · have hb := (h.2.2 i z).2
    rw [mby_N h z]
    exact ⟨fun a => absurd a (neg4_nI (by omega)), fun a => by omega⟩
  · have e : i = n := by omega
    rw [e, mby_E h]
    exact ⟨fun _ => rfl, fun _ => rfl⟩
def HX12_next_8 (E : aE) (P : hI_ → hJ_ → Prop)  (I : hI_) (J : hJ_) : Prop := V E mX12_next (kV SH P) 8 [.ref 68, .retAddr 0] [] (SH, I, J) (0, 0)
def HX12_next_84 (E : aE) (P : hI_ → hJ_ → Prop)  (I : hI_) (J : hJ_) : Prop := V E mX12_next (kV SH P) 84 [.ref 68, .retAddr 0] [] (SH, I, J) (0, 0)
def HX12_next_140 (E : aE) (P : hI_ → hJ_ → Prop)  (I : hI_) (J : hJ_) : Prop := V E mX12_next (kV SH P) 140 [.ref 68, .retAddr 0] [] (SH, I, J) (0, 0)
set_option maxHeartbeats 4000000 in
set_option maxRecDepth 20000 in
theorem wX12_next {E : aE} {P : hI_ → hJ_ → Prop} {I : hI_} {J : hJ_}  (k : (((I 68 3) ≤ (0 : Int32) → HX12_next_8 E P  I J) ∧ (¬ ((I 68 3) ≤ (0 : Int32)) → P I J))) : CallV E mX12_next [.ref 68] SH I J P := by
  refine Call_of (L := [.ref 68, .retAddr 0]) ok_X12_next.1 rfl rfl ?_
  refine V_aload_n dX12_next_0 rfl ?_
  refine U_getI dX12_next_1 fl_X12_95 s_68 rfl ?_
  refine V_if_le dX12_next_4 (fun c1 => ?_) (fun c1 => ?_)
  · have k := k.1 c1
    exact k
  · have k := k.2 c1
    exact V_vret dX12_next_7 rfl rfl rfl ⟨_, _, rfl, k⟩
set_option maxHeartbeats 4000000 in
set_option maxRecDepth 20000 in
theorem wX12_next_8 {E : aE} {P : hI_ → hJ_ → Prop} {I : hI_} {J : hJ_}  (k : (0 ≤ (I 68 5) ∧ I 68 1 ≤ 320) ∧ ((¬ (mby I (I 68 5)) = (32 : Int32) → (0 ≤ (I 68 5) ∧ (upI I 68 6 (I 68 5)) 68 1 ≤ 320) ∧ ((¬ (mby (upI I 68 6 (I 68 5)) (I 68 5)) = (-4 : Int32) → ((¬ ((97 : Int32) ≤ (mby (upI I 68 6 (I 68 5)) (I 68 5)) ∧ (mby (upI I 68 6 (I 68 5)) (I 68 5)) ≤ (122 : Int32)) → ((¬ ((48 : Int32) ≤ (mby (upI I 68 6 (I 68 5)) (I 68 5)) ∧ (mby (upI I 68 6 (I 68 5)) (I 68 5)) ≤ (57 : Int32)) → (((mby (upI I 68 6 (I 68 5)) (I 68 5)) = (59 : Int32) → P (upI (upI (upI (upI I 68 6 (I 68 5)) 68 8 (0 : Int32)) 68 7 (3 : Int32)) 68 5 ((I 68 5) + (1 : Int32))) J) ∧ (¬ ((mby (upI I 68 6 (I 68 5)) (I 68 5)) = (59 : Int32)) → CallV E mX12_fails [.ref 68, .int (1 : Int32)] SH (upI (upI (upI (upI I 68 6 (I 68 5)) 68 8 (0 : Int32)) 68 7 (3 : Int32)) 68 5 ((I 68 5) + (1 : Int32))) J (fun I9 J10 => P I9 J10)))) ∧ (((48 : Int32) ≤ (mby (upI I 68 6 (I 68 5)) (I 68 5)) ∧ (mby (upI I 68 6 (I 68 5)) (I 68 5)) ≤ (57 : Int32)) → HX12_next_140 E P  (upI (upI I 68 6 (I 68 5)) 68 8 (0 : Int32)) J))) ∧ (((97 : Int32) ≤ (mby (upI I 68 6 (I 68 5)) (I 68 5)) ∧ (mby (upI I 68 6 (I 68 5)) (I 68 5)) ≤ (122 : Int32)) → HX12_next_84 E P  (upI (upI I 68 6 (I 68 5)) 68 8 (0 : Int32)) J))) ∧ ((mby (upI I 68 6 (I 68 5)) (I 68 5)) = (-4 : Int32) → P (upI (upI (upI I 68 6 (I 68 5)) 68 8 (0 : Int32)) 68 7 (0 : Int32)) J))) ∧ ((mby I (I 68 5)) = (32 : Int32) → HX12_next_8 E P  (upI I 68 5 ((I 68 5) + (1 : Int32))) J))) : HX12_next_8 E P  I J := by
  show V E mX12_next (kV SH P) 8 [.ref 68, .retAddr 0] [] (SH, I, J) (0, 0)
  refine V_aload_n dX12_next_8 rfl ?_
  refine V_aload_n dX12_next_9 rfl ?_
  refine U_getI dX12_next_10 fl_X12_107 s_68 rfl ?_
  obtain ⟨hp1, k⟩ := k
  refine U_callV1 [.int (I 68 5)] dX12_next_13 ov_X12_110 s_68 rfl ⟨rfl, rfl, rfl⟩ rfl rfl rfl (tX12_byteAt hp1 ?_)
  refine V_bipush (v := (32 : Int32)) dX12_next_16 rfl ?_
  refine V_icmp_ne dX12_next_18 (fun c2 => ?_) (fun c2 => ?_)
  · have k := k.1 c2
    refine V_aload_n dX12_next_34 rfl ?_
    refine V_aload_n dX12_next_35 rfl ?_
    refine U_getI dX12_next_36 fl_X12_107 s_68 rfl ?_
    refine U_putI dX12_next_39 fp_X12_98 s_68 rfl ?_
    refine V_aload_n dX12_next_42 rfl ?_
    refine V_aload_n dX12_next_43 rfl ?_
    refine U_getIx (x := I 68 5) dX12_next_44 fl_X12_107 s_68 rfl rfl ?_
    obtain ⟨hp3, k⟩ := k
    refine U_callV1 [.int (I 68 5)] dX12_next_47 ov_X12_110 s_68 rfl ⟨rfl, rfl, rfl⟩ rfl rfl rfl (tX12_byteAt hp3 ?_)
    refine U_istore_n (L2 := [.ref 68, .int (mby (upI I 68 6 (I 68 5)) (I 68 5))]) dX12_next_50 (by decide) rfl ?_
    refine V_aload_n dX12_next_51 rfl ?_
    refine V_iconst (v := (0 : Int32)) dX12_next_52 rfl ?_
    refine U_putI dX12_next_53 fp_X12_114 s_68 rfl ?_
    refine V_iload_n dX12_next_56 rfl ?_
    refine V_bipush (v := (-4 : Int32)) dX12_next_57 rfl ?_
    refine V_icmp_ne dX12_next_59 (fun c4 => ?_) (fun c4 => ?_)
    · have k := k.1 c4
      refine V_iload_n dX12_next_70 rfl ?_
      refine V_i2l dX12_next_71 ?_
      refine V_ldc2_w (v := (97 : Int64)) dX12_next_72 (gt_5 198 rfl rfl) ?_
      refine V_ldc2_w (v := (122 : Int64)) dX12_next_75 (gt_5 199 rfl rfl) ?_
      refine U_callS1 [.long ((mby (upI I 68 6 (I 68 5)) (I 68 5)).toInt64), .long (97 : Int64), .long (122 : Int64)] dX12_next_78 os_X12_91 ⟨rfl, rfl, rfl⟩ rfl rfl rfl (tX12_in32 (v := (mby (upI I 68 6 (I 68 5)) (I 68 5))) (lo := (97 : Int32)) (hi := (122 : Int32)) rfl (by decide) (by decide) ?_)
      refine U_ifb_eq dX12_next_81 (fun c5 => ?_) (fun c5 => ?_)
      · have k := k.1 c5
        refine V_iload_n dX12_next_126 rfl ?_
        refine V_i2l dX12_next_127 ?_
        refine V_ldc2_w (v := (48 : Int64)) dX12_next_128 (gt_5 200 rfl rfl) ?_
        refine V_ldc2_w (v := (57 : Int64)) dX12_next_131 (gt_5 201 rfl rfl) ?_
        refine U_callS1 [.long ((mby (upI I 68 6 (I 68 5)) (I 68 5)).toInt64), .long (48 : Int64), .long (57 : Int64)] dX12_next_134 os_X12_91 ⟨rfl, rfl, rfl⟩ rfl rfl rfl (tX12_in32 (v := (mby (upI I 68 6 (I 68 5)) (I 68 5))) (lo := (48 : Int32)) (hi := (57 : Int32)) rfl (by decide) (by decide) ?_)
        refine U_ifb_eq dX12_next_137 (fun c6 => ?_) (fun c6 => ?_)
        · have k := k.1 c6
          refine V_aload_n dX12_next_243 rfl ?_
          refine V_iconst (v := (3 : Int32)) dX12_next_244 rfl ?_
          refine U_putI dX12_next_245 fp_X12_104 s_68 rfl ?_
          refine V_aload_n dX12_next_248 rfl ?_
          refine V_dupR dX12_next_249 ?_
          refine U_getIx (x := I 68 5) dX12_next_250 fl_X12_107 s_68 rfl rfl ?_
          refine V_iconst (v := (1 : Int32)) dX12_next_253 rfl ?_
          refine V_iadd dX12_next_254 ?_
          refine U_putI dX12_next_255 fp_X12_107 s_68 rfl ?_
          refine V_iload_n dX12_next_258 rfl ?_
          refine V_bipush (v := (59 : Int32)) dX12_next_259 rfl ?_
          refine V_icmp_eq dX12_next_261 (fun c7 => ?_) (fun c7 => ?_)
          · have k := k.1 c7
            exact V_vret dX12_next_269 rfl rfl rfl ⟨_, _, rfl, k⟩
          · have k := k.2 c7
            refine V_aload_n dX12_next_264 rfl ?_
            refine V_iconst (v := (1 : Int32)) dX12_next_265 rfl ?_
            refine U_callV0 [.int (1 : Int32)] dX12_next_266 ov_X12_125 s_68 rfl ⟨rfl, rfl, rfl⟩ rfl rfl rfl (CallV_mono k (fun I9 J10 k => ?_))
            exact V_vret dX12_next_269 rfl rfl rfl ⟨_, _, rfl, k⟩
        · have k := k.2 c6
          exact V_wk (wk_eq (wk_j (wk_nil))) k
      · have k := k.2 c5
        exact V_wk (wk_eq (wk_j (wk_nil))) k
    · have k := k.2 c4
      refine V_aload_n dX12_next_62 rfl ?_
      refine V_iconst (v := (0 : Int32)) dX12_next_63 rfl ?_
      refine U_putI dX12_next_64 fp_X12_104 s_68 rfl ?_
      refine V_goto dX12_next_67 ?_
      exact V_vret dX12_next_269 rfl rfl rfl ⟨_, _, rfl, k⟩
  · have k := k.2 c2
    refine V_aload_n dX12_next_21 rfl ?_
    refine V_dupR dX12_next_22 ?_
    refine U_getI dX12_next_23 fl_X12_107 s_68 rfl ?_
    refine V_iconst (v := (1 : Int32)) dX12_next_26 rfl ?_
    refine V_iadd dX12_next_27 ?_
    refine U_putI dX12_next_28 fp_X12_107 s_68 rfl ?_
    refine V_goto dX12_next_31 ?_
    exact k
set_option maxHeartbeats 4000000 in
set_option maxRecDepth 20000 in
theorem wX12_next_84 {E : aE} {P : hI_ → hJ_ → Prop} {I : hI_} {J : hJ_}  (k : (0 ≤ (I 68 5) ∧ I 68 1 ≤ 320) ∧ ((¬ ((97 : Int32) ≤ (mby I (I 68 5)) ∧ (mby I (I 68 5)) ≤ (122 : Int32)) → P (upI I 68 7 (1 : Int32)) J) ∧ (((97 : Int32) ≤ (mby I (I 68 5)) ∧ (mby I (I 68 5)) ≤ (122 : Int32)) → HX12_next_84 E P  (upI I 68 5 ((I 68 5) + (1 : Int32))) J))) : HX12_next_84 E P  I J := by
  show V E mX12_next (kV SH P) 84 [.ref 68, .retAddr 0] [] (SH, I, J) (0, 0)
  refine V_aload_n dX12_next_84 rfl ?_
  refine V_aload_n dX12_next_85 rfl ?_
  refine U_getI dX12_next_86 fl_X12_107 s_68 rfl ?_
  obtain ⟨hp1, k⟩ := k
  refine U_callV1 [.int (I 68 5)] dX12_next_89 ov_X12_110 s_68 rfl ⟨rfl, rfl, rfl⟩ rfl rfl rfl (tX12_byteAt hp1 ?_)
  refine V_i2l dX12_next_92 ?_
  refine V_ldc2_w (v := (97 : Int64)) dX12_next_93 (gt_5 198 rfl rfl) ?_
  refine V_ldc2_w (v := (122 : Int64)) dX12_next_96 (gt_5 199 rfl rfl) ?_
  refine U_callS1 [.long ((mby I (I 68 5)).toInt64), .long (97 : Int64), .long (122 : Int64)] dX12_next_99 os_X12_91 ⟨rfl, rfl, rfl⟩ rfl rfl rfl (tX12_in32 (v := (mby I (I 68 5))) (lo := (97 : Int32)) (hi := (122 : Int32)) rfl (by decide) (by decide) ?_)
  refine U_ifb_eq dX12_next_102 (fun c2 => ?_) (fun c2 => ?_)
  · have k := k.1 c2
    refine V_aload_n dX12_next_118 rfl ?_
    refine V_iconst (v := (1 : Int32)) dX12_next_119 rfl ?_
    refine U_putI dX12_next_120 fp_X12_104 s_68 rfl ?_
    refine V_goto dX12_next_123 ?_
    exact V_vret dX12_next_269 rfl rfl rfl ⟨_, _, rfl, k⟩
  · have k := k.2 c2
    refine V_aload_n dX12_next_105 rfl ?_
    refine V_dupR dX12_next_106 ?_
    refine U_getI dX12_next_107 fl_X12_107 s_68 rfl ?_
    refine V_iconst (v := (1 : Int32)) dX12_next_110 rfl ?_
    refine V_iadd dX12_next_111 ?_
    refine U_putI dX12_next_112 fp_X12_107 s_68 rfl ?_
    refine V_goto dX12_next_115 ?_
    exact k
set_option maxHeartbeats 4000000 in
set_option maxRecDepth 20000 in
theorem wX12_next_140 {E : aE} {P : hI_ → hJ_ → Prop} {I : hI_} {J : hJ_}  (k : (0 ≤ (I 68 5) ∧ I 68 1 ≤ 320) ∧ ((¬ ((48 : Int32) ≤ (mby I (I 68 5)) ∧ (mby I (I 68 5)) ≤ (57 : Int32)) → ((((I 68 5) - (I 68 6)) ≤ (3 : Int32) → P (upI I 68 7 (2 : Int32)) J) ∧ (¬ (((I 68 5) - (I 68 6)) ≤ (3 : Int32)) → CallV E mX12_fails [.ref 68, .int (1 : Int32)] SH (upI I 68 7 (2 : Int32)) J (fun I5 J6 => P I5 J6)))) ∧ (((48 : Int32) ≤ (mby I (I 68 5)) ∧ (mby I (I 68 5)) ≤ (57 : Int32)) → ((¬ ((3 : Int32) ≤ ((I 68 5) - (I 68 6)))) → 0 ≤ (I 68 5) ∧ I 68 1 ≤ 320) ∧ HX12_next_140 E P  (upI (upI I 68 8 (if (3 : Int32) ≤ ((I 68 5) - (I 68 6)) then (I 68 8) else ((((10 : Int32) * (I 68 8)) + (mby I (I 68 5))) - (48 : Int32)))) 68 5 ((I 68 5) + (1 : Int32))) J))) : HX12_next_140 E P  I J := by
  show V E mX12_next (kV SH P) 140 [.ref 68, .retAddr 0] [] (SH, I, J) (0, 0)
  refine V_aload_n dX12_next_140 rfl ?_
  refine V_aload_n dX12_next_141 rfl ?_
  refine U_getI dX12_next_142 fl_X12_107 s_68 rfl ?_
  obtain ⟨hp1, k⟩ := k
  refine U_callV1 [.int (I 68 5)] dX12_next_145 ov_X12_110 s_68 rfl ⟨rfl, rfl, rfl⟩ rfl rfl rfl (tX12_byteAt hp1 ?_)
  refine V_i2l dX12_next_148 ?_
  refine V_ldc2_w (v := (48 : Int64)) dX12_next_149 (gt_5 200 rfl rfl) ?_
  refine V_ldc2_w (v := (57 : Int64)) dX12_next_152 (gt_5 201 rfl rfl) ?_
  refine U_callS1 [.long ((mby I (I 68 5)).toInt64), .long (48 : Int64), .long (57 : Int64)] dX12_next_155 os_X12_91 ⟨rfl, rfl, rfl⟩ rfl rfl rfl (tX12_in32 (v := (mby I (I 68 5))) (lo := (48 : Int32)) (hi := (57 : Int32)) rfl (by decide) (by decide) ?_)
  refine U_ifb_eq dX12_next_158 (fun c2 => ?_) (fun c2 => ?_)
  · have k := k.1 c2
    refine V_aload_n dX12_next_217 rfl ?_
    refine V_iconst (v := (2 : Int32)) dX12_next_218 rfl ?_
    refine U_putI dX12_next_219 fp_X12_104 s_68 rfl ?_
    refine V_aload_n dX12_next_222 rfl ?_
    refine U_getIx (x := I 68 5) dX12_next_223 fl_X12_107 s_68 rfl rfl ?_
    refine V_aload_n dX12_next_226 rfl ?_
    refine U_getIx (x := I 68 6) dX12_next_227 fl_X12_98 s_68 rfl rfl ?_
    refine V_isub dX12_next_230 ?_
    refine V_iconst (v := (3 : Int32)) dX12_next_231 rfl ?_
    refine V_icmp_le dX12_next_232 (fun c3 => ?_) (fun c3 => ?_)
    · have k := k.1 c3
      exact V_vret dX12_next_269 rfl rfl rfl ⟨_, _, rfl, k⟩
    · have k := k.2 c3
      refine V_aload_n dX12_next_235 rfl ?_
      refine V_iconst (v := (1 : Int32)) dX12_next_236 rfl ?_
      refine U_callV0 [.int (1 : Int32)] dX12_next_237 ov_X12_125 s_68 rfl ⟨rfl, rfl, rfl⟩ rfl rfl rfl (CallV_mono k (fun I5 J6 k => ?_))
      refine V_goto dX12_next_240 ?_
      exact V_vret dX12_next_269 rfl rfl rfl ⟨_, _, rfl, k⟩
  · have k := k.2 c2
    refine V_aload_n dX12_next_161 rfl ?_
    refine V_aload_n dX12_next_162 rfl ?_
    refine U_getI dX12_next_163 fl_X12_107 s_68 rfl ?_
    refine V_aload_n dX12_next_166 rfl ?_
    refine U_getI dX12_next_167 fl_X12_98 s_68 rfl ?_
    refine V_isub dX12_next_170 ?_
    refine V_iconst (v := (3 : Int32)) dX12_next_171 rfl ?_
    obtain ⟨hc2010, k⟩ := k
    have key7 : ∀ (y2009 : Int32), y2009 = (if (3 : Int32) ≤ ((I 68 5) - (I 68 6)) then (I 68 8) else ((((10 : Int32) * (I 68 8)) + (mby I (I 68 5))) - (48 : Int32))) → V E mX12_next (kV SH P) 201 [.ref 68, .retAddr 0] [.int y2009, .ref 68] (SH, I, J) (0, 0) := by
      intro y2009 ey2009
      subst ey2009
      refine U_putI dX12_next_201 fp_X12_114 s_68 rfl ?_
      refine V_aload_n dX12_next_204 rfl ?_
      refine V_dupR dX12_next_205 ?_
      refine U_getIx (x := I 68 5) dX12_next_206 fl_X12_107 s_68 rfl rfl ?_
      refine V_iconst (v := (1 : Int32)) dX12_next_209 rfl ?_
      refine V_iadd dX12_next_210 ?_
      refine U_putI dX12_next_211 fp_X12_107 s_68 rfl ?_
      refine V_goto dX12_next_214 ?_
      exact k
    refine V_icmp_ge dX12_next_172 (fun c2011 => ?_) (fun c2011 => ?_)
    · refine V_aload_n dX12_next_197 rfl ?_
      refine U_getI dX12_next_198 fl_X12_114 s_68 rfl ?_
      exact key7 _ (by rw [if_pos c2011])
    · refine V_bipush (v := (10 : Int32)) dX12_next_175 rfl ?_
      refine V_aload_n dX12_next_177 rfl ?_
      refine U_getI dX12_next_178 fl_X12_114 s_68 rfl ?_
      refine V_imul dX12_next_181 ?_
      refine V_aload_n dX12_next_182 rfl ?_
      refine V_aload_n dX12_next_183 rfl ?_
      refine U_getI dX12_next_184 fl_X12_107 s_68 rfl ?_
      have hp2008 := hc2010 c2011
      refine U_callV1 [.int (I 68 5)] dX12_next_187 ov_X12_110 s_68 rfl ⟨rfl, rfl, rfl⟩ rfl rfl rfl (tX12_byteAt hp2008 ?_)
      refine V_iadd dX12_next_190 ?_
      refine V_bipush (v := (48 : Int32)) dX12_next_191 rfl ?_
      refine V_isub dX12_next_193 ?_
      refine V_goto dX12_next_194 ?_
      exact key7 _ (by rw [if_neg c2011])
theorem let_loop {E : aE} {P : hI_ → hJ_ → Prop} {n : Nat} {B : Nat → Nat} {I0 : hI_} {J : hJ_} {R : Nat} (h : MB n B I0) (k : P (upI (upI I0 68 5 (nI R)) 68 7 1) J) : ∀ (m i : Nat) (I : hI_), i + m = n → opn (isC 97 122 B) m i = R → I = upI I0 68 5 (nI i) → HX12_next_84 E P I J
  | 0, i, I, hi, hR, hI => by
    have e0 : opn (isC 97 122 B) 0 i = i := rfl
    rw [e0] at hR
    have hM : MB n B I := by rw [hI]; exact MB_fr h (frM_up (by omega))
    have e5 : I 68 5 = nI i := by rw [hI]; exact upI_same
    refine wX12_next_84 ⟨rg_m hM (by omega) e5, ?_⟩
    rw [e5]
    refine ⟨fun _ => ?_, fun z => ?_⟩
    · rw [hI, hR]; exact k
    · have := (mby_in (lo := 97) (hi := 122) hM (by omega) (by omega) (by omega)).mp z
      omega
  | m + 1, i, I, hi, hR, hI => by
    have e0 : opn (isC 97 122 B) (m + 1) i = if isC 97 122 B i = true then opn (isC 97 122 B) m (i + 1) else i := rfl
    rw [e0] at hR
    have hM : MB n B I := by rw [hI]; exact MB_fr h (frM_up (by omega))
    have e5 : I 68 5 = nI i := by rw [hI]; exact upI_same
    have mi := mby_in (lo := 97) (hi := 122) hM (i := i) (by omega) (by omega) (by omega)
    refine wX12_next_84 ⟨rg_m hM (by omega) e5, ?_⟩
    rw [e5, nI_1 i]
    refine ⟨fun z => ?_, fun z => ?_⟩
    · have : ¬ isC 97 122 B i = true := fun y => z (mi.mpr ⟨by omega, y⟩)
      rw [if_neg this] at hR
      rw [hI, hR]; exact k
    · rw [if_pos (mi.mp z).2] at hR
      refine let_loop h k m (i + 1) _ (by omega) hR ?_
      rw [hI]
      funext a j
      by_cases y : a = 68 ∧ j = 5
      · rw [upI_at, if_pos y, upI_at, if_pos y]
      · rw [upI_at, if_neg y, upI_at, if_neg y, upI_at, if_neg y]
theorem fig_loop {E : aE} {P : hI_ → hJ_ → Prop} {n : Nat} {B : Nat → Nat} {I0 : hI_} {J : hJ_} {s R : Nat} (h : MB n B I0) (h6 : I0 68 6 = nI s) (h3 : I0 68 3 = 0) (hsn : s ≤ n) (k1 : R - s ≤ 3 → P (upI (upI (upI I0 68 8 (nI (vl B s (R - s)))) 68 5 (nI R)) 68 7 2) J) (k2 : ¬ R - s ≤ 3 → ∀ I2, frM I0 I2 → I2 68 5 = nI R → I2 68 6 = nI s → I2 68 3 = 1 → I2 68 4 = nI s → P I2 J) : ∀ (m i : Nat) (I : hI_), s ≤ i → i + m = n → opn (isC 48 57 B) m i = R → I = upI (upI I0 68 8 (nI (vl B s (min 3 (i - s))))) 68 5 (nI i) → HX12_next_140 E P I J := by
  have hn := h.2.1
  have out : ∀ (i : Nat) (I : hI_), s ≤ i → i ≤ n → i = R → I = upI (upI I0 68 8 (nI (vl B s (min 3 (i - s))))) 68 5 (nI i) → (((nI i - nI s) ≤ (3 : Int32) → P (upI I 68 7 (2)) J) ∧ (¬ ((nI i - nI s) ≤ (3 : Int32)) → CallV E mX12_fails [.ref 68, .int (1)] SH (upI I 68 7 (2)) J (fun I5 J6 => P I5 J6))) := fun i I hs hi hR hI => by
    rw [nI_sub hs]
    have e3 : (nI (i - s) ≤ (3 : Int32)) ↔ i - s ≤ 3 := nI_leJ (b := 3) (by omega) (by omega)
    have m5 : ∀ (K : hI_) (v w : Int32) (j : Nat), j ≠ 5 → j ≠ 8 → (upI (upI K 68 8 v) 68 5 w) 68 j = K 68 j := fun K v w j a1 a2 => by rw [upI_at, if_neg (fun z => a1 z.2), upI_at, if_neg (fun z => a2 z.2)]
    refine ⟨fun z => ?_, fun z => ?_⟩
    · have z := e3.mp z
      have kk := k1 (by omega)
      rw [hI, Nat.min_eq_right z, hR]; exact kk
    · have z : ¬ i - s ≤ 3 := fun y => z (e3.mpr y)
      refine tX12_failsY ?_ ?_
      · rw [upI_at, if_neg (by omega), hI, m5 _ _ _ _ (by omega) (by omega)]; exact h3
      · refine k2 (by omega) _ ?_ ?_ ?_ ?_ ?_
        · rw [hI]
          exact frM_tr (frM_tr (frM_up (by omega)) (frM_up (by omega))) (frM_tr (frM_up (by omega)) (frM_tr (frM_up (by omega)) (frM_up (by omega))))
        · rw [upI_at, if_neg (by omega), upI_at, if_neg (by omega), upI_at, if_neg (by omega), hI, ← hR]; exact upI_same
        · rw [upI_at, if_neg (by omega), upI_at, if_neg (by omega), upI_at, if_neg (by omega), hI, m5 _ _ _ _ (by omega) (by omega)]; exact h6
        · rw [upI_at, if_neg (by omega)]; exact upI_same
        · rw [upI_at, if_pos ⟨rfl, rfl⟩, upI_at, if_neg (by omega), hI, m5 _ _ _ _ (by omega) (by omega)]; exact h6
  intro m
  induction m with
  | zero =>
    intro i I hs hi hR hI
    have e0 : opn (isC 48 57 B) 0 i = i := rfl
    rw [e0] at hR
    have hM : MB n B I := by rw [hI]; exact MB_fr h (frM_tr (frM_up (by omega)) (frM_up (by omega)))
    have e5 : I 68 5 = nI i := by rw [hI]; exact upI_same
    have e6 : I 68 6 = nI s := by rw [hI, upI_at, if_neg (by omega), upI_at, if_neg (by omega)]; exact h6
    refine wX12_next_140 ⟨rg_m hM (by omega) e5, ?_⟩
    rw [e5, e6]
    refine ⟨fun _ => out i I hs (by omega) hR hI, fun z => ?_⟩
    have := (mby_in (lo := 48) (hi := 57) hM (by omega) (by omega) (by omega)).mp z
    omega
  | succ m ih =>
    intro i I hs hi hR hI
    have e0 : opn (isC 48 57 B) (m + 1) i = if isC 48 57 B i = true then opn (isC 48 57 B) m (i + 1) else i := rfl
    rw [e0] at hR
    have hM : MB n B I := by rw [hI]; exact MB_fr h (frM_tr (frM_up (by omega)) (frM_up (by omega)))
    have e5 : I 68 5 = nI i := by rw [hI]; exact upI_same
    have e6 : I 68 6 = nI s := by rw [hI, upI_at, if_neg (by omega), upI_at, if_neg (by omega)]; exact h6
    have e8 : I 68 8 = nI (vl B s (min 3 (i - s))) := by rw [hI, upI_at, if_neg (by omega)]; exact upI_same
    have mi := mby_in (lo := 48) (hi := 57) hM (i := i) (by omega) (by omega) (by omega)
    refine wX12_next_140 ⟨rg_m hM (by omega) e5, ?_⟩
    rw [e5, e6, nI_1 i, e8]
    refine ⟨fun z => ?_, fun z => ⟨fun _ => rg_m hM (i := i) (by omega) rfl, ?_⟩⟩
    · have : ¬ isC 48 57 B i = true := fun y => z (mi.mpr ⟨by omega, y⟩)
      rw [if_neg this] at hR
      exact out i I hs (by omega) hR hI
    · have ci := (mi.mp z).2
      have cd := of_decide_eq_true ci
      rw [if_pos ci] at hR
      refine ih (i + 1) _ (by omega) (by omega) hR ?_
      rw [mby_N hM (show i < n by omega), nI_sub hs]
      have ev : (if (3 : Int32) ≤ nI (i - s) then nI (vl B s (min 3 (i - s))) else ((10 : Int32) * nI (vl B s (min 3 (i - s))) + nI (B i)) - 48) = nI (vl B s (min 3 (i + 1 - s))) := by
        by_cases y : 3 ≤ i - s
        · rw [if_pos (show (3 : Int32) ≤ nI (i - s) from nI_le (a := 3) y (by omega)), Nat.min_eq_left y, Nat.min_eq_left (by omega)]
        · rw [if_neg (show ¬ (3 : Int32) ≤ nI (i - s) from nI_ge (b := 3) (by omega) (by omega)), Nat.min_eq_right (by omega), Nat.min_eq_right (by omega), show (10 : Int32) = nI 10 from rfl, show (48 : Int32) = nI 48 from rfl, pk_mul, nI_add, nI_sub (by omega), show i + 1 - s = (i - s) + 1 by omega]
          have e1 : vl B s (i - s + 1) = vl B s (i - s) * 10 + (B (s + (i - s)) - 48) := rfl
          rw [e1, show s + (i - s) = i by omega]
          exact congrArg nI (by omega)
      rw [ev, hI]
      funext a j
      by_cases y5 : a = 68 ∧ j = 5
      · rw [upI_at, if_pos y5, upI_at, if_pos y5]
      · rw [upI_at, if_neg y5]
        by_cases y8 : a = 68 ∧ j = 8
        · rw [upI_at, if_pos y8, upI_at, if_neg y5, upI_at, if_pos y8]
        · rw [upI_at, if_neg y8, upI_at, if_neg y5, upI_at, if_neg y8, upI_at, if_neg y5, upI_at, if_neg y8]
theorem spc_loop {E : aE} {P : hI_ → hJ_ → Prop} {n : Nat} {B : Nat → Nat} {I0 : hI_} {J : hJ_} {k R : Nat} (h : MB n B I0) (h3 : I0 68 3 = 0) (hk : k ≤ n) (hRe : R = tS n B k) (kk : ∀ I2, frM I0 I2 → MT n B k I2 → P I2 J) : ∀ (m i : Nat) (I : hI_), i + m = n → opn (isC 32 32 B) m i = R → I = upI I0 68 5 (nI i) → HX12_next_8 E P I J
  | 0, i, I, hi, hR, hI => by
    have hn := h.2.1
    have e0 : opn (isC 32 32 B) 0 i = i := rfl
    rw [e0] at hR
    have hM : MB n B I := by rw [hI]; exact MB_fr h (frM_up (by omega))
    have e5 : I 68 5 = nI i := by rw [hI]; exact upI_same
    have em : ∀ v x, mby (upI I 68 6 v) x = mby I x := fun v x => rfl
    have m4 := mby_4 hM (i := i) (by omega)
    have ei : i = n := by omega
    refine wX12_next_8 ⟨rg_m hM (by omega) e5, ?_⟩
    rw [e5, em]
    refine ⟨fun _ => ⟨rg_m hM (i := i) (by omega) rfl, fun z => absurd (m4.mpr ei) z, fun _ => ?_⟩, fun z => ?_⟩
    · have ek : tK n B k = 0 := by unfold tK tkd; rw [if_pos (by omega)]
      have ee : tE n B k = n := by unfold tE ten; rw [if_pos (by omega)]
      refine kk _ ?_ ⟨?_, ?_, fun y => by omega, fun _ => ⟨?_, ?_, ?_⟩⟩
      · rw [hI]; exact frM_tr (frM_up (by omega)) (frM_tr (frM_up (by omega)) (frM_tr (frM_up (by omega)) (frM_up (by omega))))
      · rw [upI_at, if_neg (by omega), upI_at, if_neg (by omega), upI_at, if_neg (by omega), e5, ee, ei]
      · rw [upI_at, if_neg (by omega), upI_at, if_neg (by omega), upI_at, if_pos ⟨rfl, rfl⟩, ← hRe, hR]
      · rw [upI_at, if_neg (by omega), upI_at, if_neg (by omega), upI_at, if_neg (by omega), hI, upI_at, if_neg (by omega)]; exact h3
      · rw [upI_at, if_pos ⟨rfl, rfl⟩, ek]; rfl
      · rw [upI_at, if_neg (by omega), upI_at, if_pos ⟨rfl, rfl⟩]; unfold tV; rw [if_neg (by omega)]; rfl
    · have := (mby_is (c := 32) hM (by omega) (by omega)).mp z
      omega
  | m + 1, i, I, hi, hR, hI => by
    have hn := h.2.1
    have e0 : opn (isC 32 32 B) (m + 1) i = if isC 32 32 B i = true then opn (isC 32 32 B) m (i + 1) else i := rfl
    rw [e0] at hR
    have hM : MB n B I := by rw [hI]; exact MB_fr h (frM_up (by omega))
    have e5 : I 68 5 = nI i := by rw [hI]; exact upI_same
    have em : ∀ v x, mby (upI I 68 6 v) x = mby I x := fun v x => rfl
    have m4 := mby_4 hM (i := i) (by omega)
    have m32 := mby_is (c := 32) hM (i := i) (by omega) (by omega)
    have m59 := mby_is (c := 59) hM (i := i) (by omega) (by omega)
    have mL := mby_in (lo := 97) (hi := 122) hM (i := i) (by omega) (by omega) (by omega)
    have mD := mby_in (lo := 48) (hi := 57) hM (i := i) (by omega) (by omega) (by omega)
    refine wX12_next_8 ⟨rg_m hM (by omega) e5, ?_⟩
    rw [e5, em, nI_1 i]
    refine ⟨fun z => ⟨rg_m hM (i := i) (by omega) rfl, fun z4 => ?_, fun z4 => absurd (m4.mp z4) (by omega)⟩, fun z => ?_⟩
    · have ns : ¬ isC 32 32 B i = true := fun y => z (m32.mpr ⟨by omega, by have := of_decide_eq_true y; omega⟩)
      rw [if_neg ns] at hR
      have es : tS n B k = i := by omega
      have nz : ¬ tS n B k = n := by omega
      have J3 : I 68 3 = 0 := by rw [hI, upI_at, if_neg (by omega)]; exact h3
      have base : frM I0 I := by rw [hI]; exact frM_up (by omega)
      refine ⟨fun zL => ⟨fun zD => ⟨fun z59 => ?_, fun z59 => ?_⟩, fun zD => ?_⟩, fun zL => ?_⟩
      · have wL : ¬ isC 97 122 B (tS n B k) = true := fun y => zL (mL.mpr ⟨by omega, es ▸ y⟩)
        have wD : ¬ isC 48 57 B (tS n B k) = true := fun y => zD (mD.mpr ⟨by omega, es ▸ y⟩)
        have b59 : B (tS n B k) = 59 := by rw [es]; exact (m59.mp z59).2
        have ek : tK n B k = 3 := by unfold tK tkd; rw [if_neg nz, if_neg wL, if_neg wD, if_pos b59]
        have ee : tE n B k = i + 1 := by unfold tE ten; rw [if_neg nz, if_neg wL, if_neg wD, es]
        refine kk _ (frM_tr base (frM_tr (frM_up (by omega)) (frM_tr (frM_up (by omega)) (frM_tr (frM_up (by omega)) (frM_up (by omega)))))) ⟨?_, ?_, fun y => by omega, fun _ => ⟨?_, ?_, ?_⟩⟩
        · rw [upI_at, if_pos ⟨rfl, rfl⟩, ee]
        · rw [upI_at, if_neg (by omega), upI_at, if_neg (by omega), upI_at, if_neg (by omega), upI_at, if_pos ⟨rfl, rfl⟩, es]
        · rw [upI_at, if_neg (by omega), upI_at, if_neg (by omega), upI_at, if_neg (by omega), upI_at, if_neg (by omega)]; exact J3
        · rw [upI_at, if_neg (by omega), upI_at, if_pos ⟨rfl, rfl⟩, ek]; rfl
        · rw [upI_at, if_neg (by omega), upI_at, if_neg (by omega), upI_at, if_pos ⟨rfl, rfl⟩]; unfold tV; rw [if_neg (by omega)]; rfl
      · have wL : ¬ isC 97 122 B (tS n B k) = true := fun y => zL (mL.mpr ⟨by omega, es ▸ y⟩)
        have wD : ¬ isC 48 57 B (tS n B k) = true := fun y => zD (mD.mpr ⟨by omega, es ▸ y⟩)
        have b59 : ¬ B (tS n B k) = 59 := by rw [es]; exact fun y => z59 (m59.mpr ⟨by omega, y⟩)
        have ek : tK n B k = 4 := by unfold tK tkd; rw [if_neg nz, if_neg wL, if_neg wD, if_neg b59]
        have ee : tE n B k = i + 1 := by unfold tE ten; rw [if_neg nz, if_neg wL, if_neg wD, es]
        refine tX12_failsY ?_ ?_
        · rw [upI_at, if_neg (by omega), upI_at, if_neg (by omega), upI_at, if_neg (by omega), upI_at, if_neg (by omega)]; exact J3
        · refine kk _ (frM_tr base (frM_tr (frM_up (by omega)) (frM_tr (frM_up (by omega)) (frM_tr (frM_up (by omega)) (frM_tr (frM_up (by omega)) (frM_tr (frM_up (by omega)) (frM_up (by omega)))))))) ⟨?_, ?_, fun _ => ⟨?_, ?_⟩, fun y => absurd ek y⟩
          · rw [upI_at, if_neg (by omega), upI_at, if_neg (by omega), upI_at, if_pos ⟨rfl, rfl⟩, ee]
          · rw [upI_at, if_neg (by omega), upI_at, if_neg (by omega), upI_at, if_neg (by omega), upI_at, if_neg (by omega), upI_at, if_neg (by omega), upI_at, if_pos ⟨rfl, rfl⟩, es]
          · rw [upI_at, if_neg (by omega)]; exact upI_same
          · rw [upI_at, if_pos ⟨rfl, rfl⟩, upI_at, if_neg (by omega), upI_at, if_neg (by omega), upI_at, if_neg (by omega), upI_at, if_pos ⟨rfl, rfl⟩, es]
      · have wL : ¬ isC 97 122 B (tS n B k) = true := fun y => zL (mL.mpr ⟨by omega, es ▸ y⟩)
        have wD : isC 48 57 B (tS n B k) = true := by rw [es]; exact (mD.mp zD).2
        have ek : tK n B k = if tG n B i - i ≤ 3 then 2 else 4 := by unfold tK tkd; rw [if_neg nz, if_neg wL, if_pos wD, es]
        have ee : tE n B k = tG n B i := by unfold tE ten; rw [if_neg nz, if_neg wL, if_pos wD, es]
        have bF : frM I (upI (upI I 68 6 (nI i)) 68 8 0) := frM_tr (frM_up (by omega)) (frM_up (by omega))
        have F6 : (upI (upI I 68 6 (nI i)) 68 8 0) 68 6 = nI i := by rw [upI_at, if_neg (by omega)]; exact upI_same
        have F3 : (upI (upI I 68 6 (nI i)) 68 8 0) 68 3 = 0 := by rw [upI_at, if_neg (by omega), upI_at, if_neg (by omega)]; exact J3
        refine fig_loop (s := i) (R := tG n B i) (MB_fr hM bF) F6 F3 (by omega) (fun y => ?_) (fun y I2 q1 q2 q3 q4 q5 => ?_) (n - i) i _ (Nat.le_refl _) (by omega) rfl ?_
        · have ek2 : tK n B k = 2 := by rw [ek, if_pos y]
          refine kk _ (frM_tr base (frM_tr bF (frM_tr (frM_up (by omega)) (frM_tr (frM_up (by omega)) (frM_up (by omega)))))) ⟨?_, ?_, fun w => by omega, fun _ => ⟨?_, ?_, ?_⟩⟩
          · rw [upI_at, if_neg (by omega), upI_at, if_pos ⟨rfl, rfl⟩, ee]
          · rw [upI_at, if_neg (by omega), upI_at, if_neg (by omega), upI_at, if_neg (by omega), F6, es]
          · rw [upI_at, if_neg (by omega), upI_at, if_neg (by omega), upI_at, if_neg (by omega), F3]
          · rw [upI_at, if_pos ⟨rfl, rfl⟩, ek2]; rfl
          · rw [upI_at, if_neg (by omega), upI_at, if_neg (by omega), upI_at, if_pos ⟨rfl, rfl⟩]; unfold tV; rw [if_pos ek2, ee, es]
        · have ek4 : tK n B k = 4 := by rw [ek, if_neg y]
          exact kk I2 (frM_tr base (frM_tr bF q1)) ⟨by rw [q2, ee], by rw [q3, es], fun _ => ⟨q4, by rw [q5, es]⟩, fun w => absurd ek4 w⟩
        · funext a j
          rw [Nat.sub_self]
          by_cases y5 : a = 68 ∧ j = 5
          · rw [upI_at (a := 68) (i := 5), if_pos y5, upI_at, if_neg (by omega), upI_at, if_neg (by omega), y5.1, y5.2, e5]
          · rw [upI_at (a := 68) (i := 5), if_neg y5]
            by_cases y8 : a = 68 ∧ j = 8
            · rw [upI_at, if_pos y8, upI_at, if_pos y8]; rfl
            · rw [upI_at, if_neg y8, upI_at (a := 68) (i := 8), if_neg y8, upI_at (a := 68) (i := 8), if_neg y8]
      · have wL : isC 97 122 B (tS n B k) = true := by rw [es]; exact (mL.mp zL).2
        have ek : tK n B k = 1 := by unfold tK tkd; rw [if_neg nz, if_pos wL]
        have ee : tE n B k = tL n B i := by unfold tE ten; rw [if_neg nz, if_pos wL, es]
        have bF : frM I (upI (upI I 68 6 (nI i)) 68 8 0) := frM_tr (frM_up (by omega)) (frM_up (by omega))
        have F6 : (upI (upI I 68 6 (nI i)) 68 8 0) 68 6 = nI i := by rw [upI_at, if_neg (by omega)]; exact upI_same
        have F3 : (upI (upI I 68 6 (nI i)) 68 8 0) 68 3 = 0 := by rw [upI_at, if_neg (by omega), upI_at, if_neg (by omega)]; exact J3
        have F8 : (upI (upI I 68 6 (nI i)) 68 8 0) 68 8 = 0 := upI_same
        refine let_loop (R := tL n B i) (MB_fr hM bF) ?_ (n - i) i _ (by omega) rfl ?_
        · refine kk _ (frM_tr base (frM_tr bF (frM_tr (frM_up (by omega)) (frM_up (by omega))))) ⟨?_, ?_, fun w => by omega, fun _ => ⟨?_, ?_, ?_⟩⟩
          · rw [upI_at, if_neg (by omega), upI_at, if_pos ⟨rfl, rfl⟩, ee]
          · rw [upI_at, if_neg (by omega), upI_at, if_neg (by omega), F6, es]
          · rw [upI_at, if_neg (by omega), upI_at, if_neg (by omega), F3]
          · rw [upI_at, if_pos ⟨rfl, rfl⟩, ek]; rfl
          · rw [upI_at, if_neg (by omega), upI_at, if_neg (by omega), F8]; unfold tV; rw [if_neg (by omega)]; rfl
        · funext a j
          by_cases y5 : a = 68 ∧ j = 5
          · rw [upI_at (a := 68) (i := 5), if_pos y5, upI_at, if_neg (by omega), upI_at, if_neg (by omega), y5.1, y5.2, e5]
          · rw [upI_at (a := 68) (i := 5), if_neg y5]
    · have b := m32.mp z
      have ci : isC 32 32 B i = true := decide_eq_true (by omega)
      rw [if_pos ci] at hR
      refine spc_loop h h3 hk hRe kk m (i + 1) _ (by omega) hR ?_
      rw [hI]
      funext a j
      by_cases y : a = 68 ∧ j = 5
      · rw [upI_at, if_pos y, upI_at, if_pos y]
      · rw [upI_at, if_neg y, upI_at, if_neg y, upI_at, if_neg y]
theorem tX12_nextY {E : aE} {P : hI_ → hJ_ → Prop} {n : Nat} {B : Nat → Nat} {I : hI_} {J : hJ_} {k : Nat} (h : MB n B I) (h3 : I 68 3 = 0) (h5 : I 68 5 = nI k) (hk : k ≤ n) (kk : ∀ I2, frM I I2 → MT n B k I2 → P I2 J) : CallV E mX12_next [.ref 68] SH I J P := by
  refine wX12_next ⟨fun _ => ?_, fun z => absurd (by rw [h3]; exact Int32.le_refl _) z⟩
  refine spc_loop h h3 hk rfl kk (n - k) k I (by omega) rfl ?_
  funext a j
  by_cases y : a = 68 ∧ j = 5
  · rw [upI_at, if_pos y, y.1, y.2, h5]
  · rw [upI_at, if_neg y]
theorem tX12_nextN {E : aE} {P : hI_ → hJ_ → Prop} {I : hI_} {J : hJ_} {c : Nat} (h3 : I 68 3 = nI c) (hc : 0 < c) (hc2 : c < 100) (k : P I J) : CallV E mX12_next [.ref 68] SH I J P := by
  refine wX12_next ⟨fun z => ?_, fun _ => k⟩
  rw [h3] at z
  have := (nI_leJ (b := 0) (by omega) (by omega)).mp z
  omega
