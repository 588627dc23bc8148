theorem SH_len : SH.length = 94 := rfl
def HJ7_fill_53178_5 (E : aE) (P : hI_ → hJ_ → Prop) (a n : Nat) (v1 : Int32) (v2 : Int32) (v3 : Int32) (I : hI_) (J : hJ_) : Prop := V E mJ7_fill_53178 (kV SH P) 5 [.ref a, .int v1, .int v2, .int v3] [] (SH, I, J) (0, 0)
set_option maxHeartbeats 4000000 in
set_option maxRecDepth 20000 in
theorem wJ7_fill_53178 {E : aE} {P : hI_ → hJ_ → Prop} {I : hI_} {J : hJ_} {a n : Nat} {v : Int32} (ha : SH[a]? = some (.inl (0, n, []))) (k : HJ7_fill_53178_5 E P a n v (0 : Int32) (Int32.ofNat n) I J) : CallV E mJ7_fill_53178 [.ref a, .int v] SH I J P := by
  refine Call_of (L := [.ref a, .int v, .retAddr 0, .retAddr 0]) ok_J7_fill_53178.1 rfl rfl ?_
  refine V_iconst (v := (0 : Int32)) dJ7_fill_53178_0 rfl ?_
  refine U_istore_n (L2 := [.ref a, .int v, .int (0 : Int32), .retAddr 0]) dJ7_fill_53178_1 (by decide) rfl ?_
  refine V_aload_n dJ7_fill_53178_2 rfl ?_
  refine U_alen (v := Int32.ofNat n) dJ7_fill_53178_3 ha (by decide) rfl ?_
  refine U_istore_n (L2 := [.ref a, .int v, .int (0 : Int32), .int (Int32.ofNat n)]) dJ7_fill_53178_4 (by decide) rfl ?_
  exact k
set_option maxHeartbeats 4000000 in
set_option maxRecDepth 20000 in
theorem wJ7_fill_53178_5 {E : aE} {P : hI_ → hJ_ → Prop} {I : hI_} {J : hJ_} {a n : Nat} {v1 : Int32} {v2 : Int32} {v3 : Int32} (ha : SH[a]? = some (.inl (0, n, []))) (k : ((v3 ≤ v2 → P I J) ∧ (¬ (v3 ≤ v2) → (vp_in v2 n) ∧ HJ7_fill_53178_5 E P a n v1 (v2 + (1 : Int32)) v3 (upI I a v2.toNatClampNeg v1) J))) : HJ7_fill_53178_5 E P a n v1 v2 v3 I J := by
  show V E mJ7_fill_53178 (kV SH P) 5 [.ref a, .int v1, .int v2, .int v3] [] (SH, I, J) (0, 0)
  refine V_iload_n dJ7_fill_53178_5 rfl ?_
  refine V_iload_n dJ7_fill_53178_6 rfl ?_
  refine V_icmp_ge dJ7_fill_53178_7 (fun c1 => ?_) (fun c1 => ?_)
  · have k := k.1 c1
    exact V_vret dJ7_fill_53178_20 rfl rfl rfl ⟨_, _, rfl, k⟩
  · have k := k.2 c1
    refine V_aload_n dJ7_fill_53178_10 rfl ?_
    refine V_iload_n dJ7_fill_53178_11 rfl ?_
    refine V_iload_n dJ7_fill_53178_12 rfl ?_
    obtain ⟨hb2, k⟩ := k
    refine U_iast dJ7_fill_53178_13 ha hb2 ?_
    refine U_iinc (v := v2 + (1 : Int32)) (L2 := [.ref a, .int v1, .int (v2 + (1 : Int32)), .int v3]) dJ7_fill_53178_14 (by decide) rfl rfl rfl ?_
    refine V_goto dJ7_fill_53178_17 ?_
    exact k
theorem tfillI_loop {E : aE} {P : hI_ → hJ_ → Prop} {J : hJ_} {a n : Nat} {v : Int32} (ha : SH[a]? = some (.inl (0, n, []))) (hn : n < 2147483648) : ∀ (m i : Nat) (I : hI_), i + m = n → P (fun q => if q = a then (fun j => if i ≤ j ∧ j < n then v else I a j) else I q) J → HJ7_fill_53178_5 E P a n v (nI i) (nI n) I J
  | 0, i, I, h, k => by
    refine wJ7_fill_53178_5 ha ⟨fun _ => ?_, fun c => absurd (by rw [show i = n by omega]; exact Int32.le_refl _) c⟩
    have e : (fun q => if q = a then (fun j => if i ≤ j ∧ j < n then v else I a j) else I q) = I := by
      funext q j
      by_cases hq : q = a
      · subst hq
        have : ¬ (i ≤ j ∧ j < n) := by omega
        simp [this]
      · simp [hq]
    rw [e] at k
    exact k
  | m + 1, i, I, h, k => by
    refine wJ7_fill_53178_5 ha ⟨fun c => absurd c (nI_ge (by omega) (by omega)), fun _ => ⟨vp_in_nI (by omega) (by omega), ?_⟩⟩
    rw [nI_1, nI_clamp (by omega)]
    refine tfillI_loop ha hn m (i + 1) _ (by omega) ?_
    have e : (fun q => if q = a then (fun j => if i + 1 ≤ j ∧ j < n then v else upI I a i v a j) else upI I a i v q) = (fun q => if q = a then (fun j => if i ≤ j ∧ j < n then v else I a j) else I q) := by
      funext q j
      by_cases hq : q = a
      · subst hq
        simp only [if_true, upI_at]
        by_cases hj : j = i
        · subst hj
          simp; omega
        · by_cases h1 : i ≤ j ∧ j < n
          · rw [if_pos (by omega), if_pos h1]
          · rw [if_neg (by omega), if_neg h1, if_neg (by omega)]
      · simp [hq, upI]
    rw [e]
    exact k
theorem tfillI {E : aE} {P : hI_ → hJ_ → Prop} {I : hI_} {J : hJ_} {a n : Nat} {v : Int32} (ha : SH[a]? = some (.inl (0, n, []))) (hn : n < 2147483648) (k : P (flI I a n v) J) : CallV E mJ7_fill_53178 [.ref a, .int v] SH I J P := by
  refine wJ7_fill_53178 ha ?_
  refine tfillI_loop ha hn n 0 _ (by omega) ?_
  have e : flI I a n v = (fun q => if q = a then (fun j => if 0 ≤ j ∧ j < n then v else I a j) else I q) := by
    funext q j
    simp [flI]
  rw [e] at k
  exact k
def HJ7_fill_d0a16_6 (E : aE) (P : hI_ → hJ_ → Prop) (a n : Nat) (v1 : Int64) (v3 : Int32) (v4 : Int32) (I : hI_) (J : hJ_) : Prop := V E mJ7_fill_d0a16 (kV SH P) 6 [.ref a, .long v1, .retAddr 0, .int v3, .int v4] [] (SH, I, J) (0, 0)
set_option maxHeartbeats 4000000 in
set_option maxRecDepth 20000 in
theorem wJ7_fill_d0a16 {E : aE} {P : hI_ → hJ_ → Prop} {I : hI_} {J : hJ_} {a n : Nat} {v : Int64} (ha : SH[a]? = some (.inl (3, n, []))) (k : HJ7_fill_d0a16_6 E P a n v (0 : Int32) (Int32.ofNat n) I J) : CallV E mJ7_fill_d0a16 [.ref a, .long v] SH I J P := by
  refine Call_of (L := [.ref a, .long v, .retAddr 0, .retAddr 0, .retAddr 0]) ok_J7_fill_d0a16.1 rfl rfl ?_
  refine V_iconst (v := (0 : Int32)) dJ7_fill_d0a16_0 rfl ?_
  refine U_istore_n (L2 := [.ref a, .long v, .retAddr 0, .int (0 : Int32), .retAddr 0]) dJ7_fill_d0a16_1 (by decide) rfl ?_
  refine V_aload_n dJ7_fill_d0a16_2 rfl ?_
  refine U_alen (v := Int32.ofNat n) dJ7_fill_d0a16_3 ha (by decide) rfl ?_
  refine U_istore (L2 := [.ref a, .long v, .retAddr 0, .int (0 : Int32), .int (Int32.ofNat n)]) dJ7_fill_d0a16_4 (by decide) rfl ?_
  exact k
set_option maxHeartbeats 4000000 in
set_option maxRecDepth 20000 in
theorem wJ7_fill_d0a16_6 {E : aE} {P : hI_ → hJ_ → Prop} {I : hI_} {J : hJ_} {a n : Nat} {v1 : Int64} {v3 : Int32} {v4 : Int32} (ha : SH[a]? = some (.inl (3, n, []))) (k : ((v4 ≤ v3 → P I J) ∧ (¬ (v4 ≤ v3) → (vp_in v3 n) ∧ HJ7_fill_d0a16_6 E P a n v1 (v3 + (1 : Int32)) v4 I (upJ J a v3.toNatClampNeg v1)))) : HJ7_fill_d0a16_6 E P a n v1 v3 v4 I J := by
  show V E mJ7_fill_d0a16 (kV SH P) 6 [.ref a, .long v1, .retAddr 0, .int v3, .int v4] [] (SH, I, J) (0, 0)
  refine V_iload_n dJ7_fill_d0a16_6 rfl ?_
  refine V_iload dJ7_fill_d0a16_7 rfl ?_
  refine V_icmp_ge dJ7_fill_d0a16_9 (fun c1 => ?_) (fun c1 => ?_)
  · have k := k.1 c1
    exact V_vret dJ7_fill_d0a16_22 rfl rfl rfl ⟨_, _, rfl, k⟩
  · have k := k.2 c1
    refine V_aload_n dJ7_fill_d0a16_12 rfl ?_
    refine V_iload_n dJ7_fill_d0a16_13 rfl ?_
    refine V_lload_n dJ7_fill_d0a16_14 rfl ?_
    obtain ⟨hb2, k⟩ := k
    refine U_last dJ7_fill_d0a16_15 ha hb2 ?_
    refine U_iinc (v := v3 + (1 : Int32)) (L2 := [.ref a, .long v1, .retAddr 0, .int (v3 + (1 : Int32)), .int v4]) dJ7_fill_d0a16_16 (by decide) rfl rfl rfl ?_
    refine V_goto dJ7_fill_d0a16_19 ?_
    exact k
theorem upJ_at {J : hJ_} {a i b j : Nat} {v : Int64} : upJ J a i v b j = if b = a ∧ j = i then v else J b j := by
  unfold upJ vp_updL
  by_cases h1 : b = a
  · subst h1
    by_cases h2 : j = i <;> simp [h2]
  · simp [h1]
theorem tfillJ_loop {E : aE} {P : hI_ → hJ_ → Prop} {I : hI_} {a n : Nat} {v : Int64} (ha : SH[a]? = some (.inl (3, n, []))) (hn : n < 2147483648) : ∀ (m i : Nat) (J : hJ_), i + m = n → P I (fun q => if q = a then (fun j => if i ≤ j ∧ j < n then v else J a j) else J q) → HJ7_fill_d0a16_6 E P a n v (nI i) (nI n) I J
  | 0, i, J, h, k => by
    refine wJ7_fill_d0a16_6 ha ⟨fun _ => ?_, fun c => absurd (by rw [show i = n by omega]; exact Int32.le_refl _) c⟩
    have e : (fun q => if q = a then (fun j => if i ≤ j ∧ j < n then v else J a j) else J q) = J := by
      funext q j
      by_cases hq : q = a
      · subst hq
        have : ¬ (i ≤ j ∧ j < n) := by omega
        simp [this]
      · simp [hq]
    rw [e] at k
    exact k
  | m + 1, i, J, h, k => by
    refine wJ7_fill_d0a16_6 ha ⟨fun c => absurd c (nI_ge (by omega) (by omega)), fun _ => ⟨vp_in_nI (by omega) (by omega), ?_⟩⟩
    rw [nI_1, nI_clamp (by omega)]
    refine tfillJ_loop ha hn m (i + 1) _ (by omega) ?_
    have e : (fun q => if q = a then (fun j => if i + 1 ≤ j ∧ j < n then v else upJ J a i v a j) else upJ J a i v q) = (fun q => if q = a then (fun j => if i ≤ j ∧ j < n then v else J a j) else J q) := by
      funext q j
      by_cases hq : q = a
      · subst hq
        simp only [if_true, upJ_at]
        by_cases hj : j = i
        · subst hj
          simp; omega
        · by_cases h1 : i ≤ j ∧ j < n
          · rw [if_pos (by omega), if_pos h1]
          · rw [if_neg (by omega), if_neg h1, if_neg (by omega)]
      · simp [hq, upJ]
    rw [e]
    exact k
theorem tfillJ {E : aE} {P : hI_ → hJ_ → Prop} {I : hI_} {J : hJ_} {a n : Nat} {v : Int64} (ha : SH[a]? = some (.inl (3, n, []))) (hn : n < 2147483648) (k : P I (flJ J a n v)) : CallV E mJ7_fill_d0a16 [.ref a, .long v] SH I J P := by
  refine wJ7_fill_d0a16 ha ?_
  refine tfillJ_loop ha hn n 0 _ (by omega) ?_
  have e : flJ J a n v = (fun q => if q = a then (fun j => if 0 ≤ j ∧ j < n then v else J a j) else J q) := by
    funext q j
    simp [flJ]
  rw [e] at k
  exact k
theorem sp_v {j : UInt32} (hj : j.toNat < 9) : aSp (j + 16) := by
  refine Or.inr (Or.inl ?_)
  rw [sp16 hj]
  omega
set_option maxHeartbeats 4000000 in
set_option maxRecDepth 20000 in
theorem wJ0_coder_7d493 {E : aE} {P : Int32 → hI_ → hJ_ → Prop} {I : hI_} {J : hJ_} {j : UInt32}  (hj : j.toNat < 9) (k : (narrow .byte (.int (0 : Int32)) = .int (0 : Int32)) ∧ P (0 : Int32) I J) : CallI E mJ0_coder_7d493 [.float j] SH I J P := by
  refine Call_of (L := [.float j]) ok_J0_coder_7d493.1 rfl rfl ?_
  refine V_getC dJ0_coder_7d493_0 (gt_2 233 rfl rfl) ?_
  refine V_if_eq dJ0_coder_7d493_3 (fun q => absurd q (by decide)) (fun _ => ?_)
  refine V_aloadS_n dJ0_coder_7d493_6 (Or.inl hj) rfl ?_
  refine V_getSc dJ0_coder_7d493_7 (gt_7 41 rfl rfl) hj ?_
  refine V_goto dJ0_coder_7d493_10 ?_
  obtain ⟨hz1, k⟩ := k
  exact V_iret dJ0_coder_7d493_14 ⟨_, rfl, hz1⟩ rfl rfl ⟨_, _, _, rfl, rfl, k⟩
set_option maxHeartbeats 4000000 in
set_option maxRecDepth 20000 in
theorem wJ0_isLatin1_aae02 {E : aE} {P : Int32 → hI_ → hJ_ → Prop} {I : hI_} {J : hJ_} {j : UInt32}  (hj : j.toNat < 9) (k : P (1 : Int32) I J) : CallI E mJ0_isLatin1_aae02 [.float j] SH I J P := by
  refine Call_of (L := [.float j]) ok_J0_isLatin1_aae02.1 rfl rfl ?_
  refine V_getC dJ0_isLatin1_aae02_0 (gt_2 233 rfl rfl) ?_
  refine V_if_eq dJ0_isLatin1_aae02_3 (fun q => absurd q (by decide)) (fun _ => ?_)
  refine V_aloadS_n dJ0_isLatin1_aae02_6 (Or.inl hj) rfl ?_
  refine V_getSc dJ0_isLatin1_aae02_7 (gt_7 41 rfl rfl) hj ?_
  refine V_if_ne dJ0_isLatin1_aae02_10 (fun q => absurd q (by decide)) (fun _ => ?_)
  refine V_iconst (v := (1 : Int32)) dJ0_isLatin1_aae02_13 rfl ?_
  refine V_goto dJ0_isLatin1_aae02_14 ?_
  exact V_iret dJ0_isLatin1_aae02_18 ⟨_, rfl, rfl⟩ rfl rfl ⟨_, _, _, rfl, rfl, k⟩
set_option maxHeartbeats 4000000 in
set_option maxRecDepth 20000 in
theorem wJ0_length_8abf5 {E : aE} {P : Int32 → hI_ → hJ_ → Prop} {I : hI_} {J : hJ_} {j : UInt32}  (hj : j.toNat < 9) (k : CallI E mJ0_coder_7d493 [.float j] SH I J (fun x1 I2 J3 => P ((Int32.ofNat (sLen.getD j.toNat 0)) >>> (x1 &&& 31)) I2 J3)) : CallI E mJ0_length_8abf5 [.float j] SH I J P := by
  refine Call_of (L := [.float j]) ok_J0_length_8abf5.1 rfl rfl ?_
  refine V_aloadS_n dJ0_length_8abf5_0 (Or.inl hj) rfl ?_
  refine V_getSv dJ0_length_8abf5_1 (gt_7 40 rfl rfl) hj ?_
  refine V_lenS (v := Int32.ofNat (sLen.getD j.toNat 0)) dJ0_length_8abf5_4 hj rfl ?_
  refine V_aloadS_n dJ0_length_8abf5_5 (Or.inl hj) rfl ?_
  refine U_callVs [] dJ0_length_8abf5_6 ov_J0_335 rfl hj ⟨rfl, rfl, rfl⟩ rfl rfl rfl (CallI_mono k (fun x1 I2 J3 k => ?_))
  refine V_ishr dJ0_length_8abf5_9 ?_
  exact V_iret dJ0_length_8abf5_10 ⟨_, rfl, rfl⟩ rfl rfl ⟨_, _, _, rfl, rfl, k⟩
set_option maxHeartbeats 4000000 in
set_option maxRecDepth 20000 in
theorem wJ3_checkIndex_8e157 {E : aE} {P : Int32 → hI_ → hJ_ → Prop} {I : hI_} {J : hJ_} {a0 : Int32} {a1 : Int32} (k : ((a0 < (0 : Int32) → False) ∧ (¬ (a0 < (0 : Int32)) → ((a0 < a1 → P a0 I J) ∧ (¬ (a0 < a1) → False))))) : CallI E mJ3_checkIndex_8e157 [.int a0, .int a1, .float 33] SH I J P := by
  refine Call_of (L := [.int a0, .int a1, .float 33]) ok_J3_checkIndex_8e157.1 rfl rfl ?_
  refine V_iload_n dJ3_checkIndex_8e157_0 rfl ?_
  refine V_if_lt dJ3_checkIndex_8e157_1 (fun c1 => ?_) (fun c1 => ?_)
  · have k := k.1 c1
    exact k.elim
  · have k := k.2 c1
    refine V_iload_n dJ3_checkIndex_8e157_4 rfl ?_
    refine V_iload_n dJ3_checkIndex_8e157_5 rfl ?_
    refine V_icmp_lt dJ3_checkIndex_8e157_6 (fun c2 => ?_) (fun c2 => ?_)
    · have k := k.1 c2
      refine V_iload_n dJ3_checkIndex_8e157_16 rfl ?_
      exact V_iret dJ3_checkIndex_8e157_17 ⟨_, rfl, rfl⟩ rfl rfl ⟨_, _, _, rfl, rfl, k⟩
    · have k := k.2 c2
      exact k.elim
set_option maxHeartbeats 4000000 in
set_option maxRecDepth 20000 in
theorem wJ0_checkIndex_df160 {E : aE} {P : hI_ → hJ_ → Prop} {I : hI_} {J : hJ_} {a0 : Int32} {a1 : Int32} (k : CallI E mJ3_checkIndex_8e157 [.int a0, .int a1, .float 33] SH I J (fun x1 I2 J3 => P I2 J3)) : CallV E mJ0_checkIndex_df160 [.int a0, .int a1] SH I J P := by
  refine Call_of (L := [.int a0, .int a1]) ok_J0_checkIndex_df160.1 rfl rfl ?_
  refine V_iload_n dJ0_checkIndex_df160_0 rfl ?_
  refine V_iload_n dJ0_checkIndex_df160_1 rfl ?_
  refine V_getF dJ0_checkIndex_df160_2 (gt_3 9 rfl rfl) ?_
  refine U_callS1 [.int a0, .int a1, .float 33] dJ0_checkIndex_df160_5 os_J0_1059 ⟨rfl, rfl, rfl⟩ rfl rfl rfl (CallI_mono k (fun x1 I2 J3 k => ?_))
  refine V_popI dJ0_checkIndex_df160_8 ?_
  exact V_vret dJ0_checkIndex_df160_9 rfl rfl rfl ⟨_, _, rfl, k⟩
set_option maxHeartbeats 4000000 in
set_option maxRecDepth 20000 in
theorem wJ1_charAt_3b067 {E : aE} {P : Int32 → hI_ → hJ_ → Prop} {I : hI_} {J : hJ_} {j : UInt32} {a1 : Int32} (hj : j.toNat < 9) (k : CallV E mJ0_checkIndex_df160 [.int a1, .int (Int32.ofNat (sLen.getD j.toNat 0))] SH I J (fun I2 J3 => (vp_in a1 (sLen.getD j.toNat 0)) ∧ (narrow .char (.int (((((sByt.getD j.toNat []).getD a1.toNatClampNeg 0) &&& (255 : Int32)).toUInt32 % 65536).toInt32)) = .int (((((sByt.getD j.toNat []).getD a1.toNatClampNeg 0) &&& (255 : Int32)).toUInt32 % 65536).toInt32)) ∧ P (((((sByt.getD j.toNat []).getD a1.toNatClampNeg 0) &&& (255 : Int32)).toUInt32 % 65536).toInt32) I2 J3)) : CallI E mJ1_charAt_3b067 [.float (j + 16), .int a1] SH I J P := by
  refine Call_of (L := [.float (j + 16), .int a1]) ok_J1_charAt_3b067.1 rfl rfl ?_
  refine V_iload_n dJ1_charAt_3b067_0 rfl ?_
  refine V_aloadS_n dJ1_charAt_3b067_1 (sp_v hj) rfl ?_
  refine V_lenS (v := Int32.ofNat (sLen.getD j.toNat 0)) dJ1_charAt_3b067_2 hj rfl ?_
  refine U_callS0 [.int a1, .int (Int32.ofNat (sLen.getD j.toNat 0))] dJ1_charAt_3b067_3 os_J1_9 ⟨rfl, rfl, rfl⟩ rfl rfl rfl (CallV_mono k (fun I2 J3 k => ?_))
  refine V_aloadS_n dJ1_charAt_3b067_6 (sp_v hj) rfl ?_
  refine V_iload_n dJ1_charAt_3b067_7 rfl ?_
  obtain ⟨hb4, k⟩ := k
  refine V_baldS (v := (sByt.getD j.toNat []).getD a1.toNatClampNeg 0) dJ1_charAt_3b067_8 hj hb4 rfl ?_
  refine V_sipush (v := (255 : Int32)) dJ1_charAt_3b067_9 rfl ?_
  refine V_iand dJ1_charAt_3b067_12 ?_
  refine V_i2c dJ1_charAt_3b067_13 ?_
  obtain ⟨hz5, k⟩ := k
  exact V_iret dJ1_charAt_3b067_14 ⟨_, rfl, hz5⟩ rfl rfl ⟨_, _, _, rfl, rfl, k⟩
set_option maxHeartbeats 4000000 in
set_option maxRecDepth 20000 in
theorem wJ0_charAt_5068e {E : aE} {P : Int32 → hI_ → hJ_ → Prop} {I : hI_} {J : hJ_} {j : UInt32} {a0 : Int32} (hj : j.toNat < 9) (k : CallI E mJ0_isLatin1_aae02 [.float j] SH I J (fun x1 I2 J3 => ((x1 = (0 : Int32) → False) ∧ (¬ (x1 = (0 : Int32)) → CallI E mJ1_charAt_3b067 [.float (j + 16), .int a0] SH I2 J3 (fun x5 I6 J7 => (narrow .char (.int x5) = .int x5) ∧ P x5 I6 J7))))) : CallI E mJ0_charAt_5068e [.float j, .int a0] SH I J P := by
  refine Call_of (L := [.float j, .int a0]) ok_J0_charAt_5068e.1 rfl rfl ?_
  refine V_aloadS_n dJ0_charAt_5068e_0 (Or.inl hj) rfl ?_
  refine U_callVs [] dJ0_charAt_5068e_1 ov_J0_492 rfl hj ⟨rfl, rfl, rfl⟩ rfl rfl rfl (CallI_mono k (fun x1 I2 J3 k => ?_))
  refine V_if_eq dJ0_charAt_5068e_4 (fun c4 => ?_) (fun c4 => ?_)
  · have k := k.1 c4
    exact k.elim
  · have k := k.2 c4
    refine V_aloadS_n dJ0_charAt_5068e_7 (Or.inl hj) rfl ?_
    refine V_getSv dJ0_charAt_5068e_8 (gt_7 40 rfl rfl) hj ?_
    refine V_iload_n dJ0_charAt_5068e_11 rfl ?_
    refine U_callS1 [.float (j + 16), .int a0] dJ0_charAt_5068e_12 os_J0_495 ⟨rfl, rfl, rfl⟩ rfl rfl rfl (CallI_mono k (fun x5 I6 J7 k => ?_))
    obtain ⟨hz8, k⟩ := k
    exact V_iret dJ0_charAt_5068e_15 ⟨_, rfl, hz8⟩ rfl rfl ⟨_, _, _, rfl, rfl, k⟩
theorem slen_lt : ∀ j, j < 9 → sLen.getD j 0 < 10 ∧ sLen.getD j 0 = (sByt.getD j []).length := by decide +kernel
theorem sbyt_ok : ∀ j, j < 9 → ∀ k, k < sLen.getD j 0 → ((((sByt.getD j []).getD k 0) &&& 255).toUInt32 % 65536).toInt32 = (sByt.getD j []).getD k 0 ∧ narrow .char (.int ((sByt.getD j []).getD k 0)) = .int ((sByt.getD j []).getD k 0) := by decide +kernel
theorem tstrlen {E : aE} {P : Int32 → hI_ → hJ_ → Prop} {I : hI_} {J : hJ_} {j : UInt32} (hj : j.toNat < 9) (k : P (Int32.ofNat (sLen.getD j.toNat 0)) I J) : CallI E mJ0_length_8abf5 [.float j] SH I J P := by
  refine wJ0_length_8abf5 hj (wJ0_coder_7d493 hj ⟨rfl, ?_⟩)
  have := (slen_lt _ hj).1
  rw [show ∀ x : Int32, x >>> ((0 : Int32) &&& 31) = x from fun x => by
    rw [show (0 : Int32) &&& 31 = 0 from rfl]
    apply Int32.toBitVec_inj.mp
    simp]
  exact k
theorem tstrchr {E : aE} {P : Int32 → hI_ → hJ_ → Prop} {I : hI_} {J : hJ_} {j : UInt32} {i : Int32} (hj : j.toNat < 9) (hi : vp_in i (sLen.getD j.toNat 0)) (k : P ((sByt.getD j.toNat []).getD i.toNatClampNeg 0) I J) : CallI E mJ0_charAt_5068e [.float j, .int i] SH I J P := by
  have hl := (slen_lt _ hj).1
  obtain ⟨q, hq, rfl⟩ := vp_in_of hi (by omega)
  rw [nI_clamp (by omega)] at k
  obtain ⟨b1, b2⟩ := sbyt_ok _ hj q hq
  refine wJ0_charAt_5068e hj (wJ0_isLatin1_aae02 hj ⟨fun c => absurd c (by decide), fun _ => ?_⟩)
  refine wJ1_charAt_3b067 hj (wJ0_checkIndex_df160 (wJ3_checkIndex_8e157 ⟨fun c => absurd c (nI_pos (by omega)), fun _ => ⟨fun _ => ?_, fun c => absurd (nI_lt hq (by omega)) c⟩⟩))
  rw [nI_clamp (by omega), b1]
  exact ⟨hi, b2, b2, k⟩
set_option maxHeartbeats 4000000 in
set_option maxRecDepth 20000 in
theorem wX8_byteAt {E : aE} {P : Int32 → hI_ → hJ_ → Prop} {I : hI_} {J : hJ_} {a0 : Int32} (k : ((¬ (a0 < (0 : Int32))) → (¬ ((I 1 1) ≤ a0)) → (¬ ((320 : Int32) ≤ a0)) → vp_in a0 320) ∧ P (if a0 < (0 : Int32) then (-1 : Int32) else (if (I 1 1) ≤ a0 then (-1 : Int32) else (if (320 : Int32) ≤ a0 then (-1 : Int32) else (I 2 a0.toNatClampNeg)))) I J) : CallI E mX8_byteAt [.ref 1, .int a0] SH I J P := by
  refine Call_of (L := [.ref 1, .int a0]) ok_X8_byteAt.1 rfl rfl ?_
  refine V_iload_n dX8_byteAt_0 rfl ?_
  obtain ⟨hc2004, k⟩ := k
  have key1 : ∀ (y2003 : Int32), y2003 = (if a0 < (0 : Int32) then (-1 : Int32) else (if (I 1 1) ≤ a0 then (-1 : Int32) else (if (320 : Int32) ≤ a0 then (-1 : Int32) else (I 2 a0.toNatClampNeg)))) → V E mX8_byteAt (kI SH P) 29 [.ref 1, .int a0] [.int y2003] (SH, I, J) (0, 0) := by
    intro y2003 ey2003
    subst ey2003
    exact V_iret dX8_byteAt_29 ⟨_, rfl, rfl⟩ rfl rfl ⟨_, _, _, rfl, rfl, k⟩
  refine V_if_lt dX8_byteAt_1 (fun c2005 => ?_) (fun c2005 => ?_)
  · refine V_iconst (v := (-1 : Int32)) dX8_byteAt_28 rfl ?_
    exact key1 _ (by rw [if_pos c2005])
  · refine V_iload_n dX8_byteAt_4 rfl ?_
    refine V_aload_n dX8_byteAt_5 rfl ?_
    refine U_getI dX8_byteAt_6 fl_X8_15 s_1 rfl ?_
    refine V_icmp_ge dX8_byteAt_9 (fun c2006 => ?_) (fun c2006 => ?_)
    · refine V_iconst (v := (-1 : Int32)) dX8_byteAt_28 rfl ?_
      exact key1 _ (by rw [if_neg c2005, if_pos c2006])
    · refine V_iload_n dX8_byteAt_12 rfl ?_
      refine V_sipush (v := (320 : Int32)) dX8_byteAt_13 rfl ?_
      refine V_icmp_ge dX8_byteAt_16 (fun c2007 => ?_) (fun c2007 => ?_)
      · refine V_iconst (v := (-1 : Int32)) dX8_byteAt_28 rfl ?_
        exact key1 _ (by rw [if_neg c2005, if_neg c2006, if_pos c2007])
      · refine V_aload_n dX8_byteAt_19 rfl ?_
        refine U_getR dX8_byteAt_20 fl_X8_9 s_1 rfl ?_
        refine V_iload_n dX8_byteAt_23 rfl ?_
        have hb2002 := hc2004 c2005 c2006 c2007
        refine U_bald dX8_byteAt_24 s_2 hb2002 ?_
        refine V_goto dX8_byteAt_25 ?_
        exact key1 _ (by rw [if_neg c2005, if_neg c2006, if_neg c2007])
def byt (I : hI_) (i : Int32) : Int32 := if 0 ≤ i ∧ i < I 1 1 ∧ i < 320 then I 2 i.toNatClampNeg else -1
theorem tX8_byteAt {E : aE} {P : Int32 → hI_ → hJ_ → Prop} {I : hI_} {J : hJ_} {i : Int32} (k : P (byt I i) I J) : CallI E mX8_byteAt [.ref 1, .int i] SH I J P := by
  refine wX8_byteAt ⟨fun c1 _ c3 => ?_, ?_⟩
  · rw [vp_in_iff]
    have h1 := Int32.le_iff_toInt_le.mp (Int32.not_lt.mp c1)
    have h3 := Int32.lt_iff_toInt_lt.mp (Int32.not_le.mp c3)
    exact ⟨h1, h3⟩
  · unfold byt at k
    by_cases h1 : i < 0
    · rw [if_neg (fun q => Int32.not_lt.mpr q.1 h1)] at k; rw [if_pos h1]; exact k
    rw [if_neg h1]
    by_cases h2 : I 1 1 ≤ i
    · rw [if_neg (fun q => Int32.not_lt.mpr h2 q.2.1)] at k; rw [if_pos h2]; exact k
    rw [if_neg h2]
    by_cases h3 : (320 : Int32) ≤ i
    · rw [if_neg (fun q => Int32.not_lt.mpr h3 q.2.2)] at k; rw [if_pos h3]; exact k
    rw [if_neg h3]
    rw [if_pos ⟨Int32.not_lt.mp h1, Int32.not_le.mp h2, Int32.not_le.mp h3⟩] at k
    exact k
def HX8_isName_28 (E : aE) (P : Int32 → hI_ → hJ_ → Prop) (j : UInt32) (v2 : Int32) (I : hI_) (J : hJ_) : Prop := V E mX8_isName (kI SH P) 28 [.ref 1, .float j, .int v2] [] (SH, I, J) (0, 0)
set_option maxHeartbeats 4000000 in
set_option maxRecDepth 20000 in
theorem wX8_isName {E : aE} {P : Int32 → hI_ → hJ_ → Prop} {I : hI_} {J : hJ_} {j : UInt32}  (hj : j.toNat < 9) (k : ((¬ (I 1 3) = (1 : Int32) → P (0 : Int32) I J) ∧ ((I 1 3) = (1 : Int32) → ((((I 1 2) - (I 1 4)) = (Int32.ofNat (sLen.getD j.toNat 0)) → HX8_isName_28 E P j (0 : Int32) I J) ∧ (¬ (((I 1 2) - (I 1 4)) = (Int32.ofNat (sLen.getD j.toNat 0))) → P (0 : Int32) I J))))) : CallI E mX8_isName [.ref 1, .float j] SH I J P := by
  refine Call_of (L := [.ref 1, .float j, .retAddr 0]) ok_X8_isName.1 rfl rfl ?_
  refine V_aload_n dX8_isName_0 rfl ?_
  refine U_getI dX8_isName_1 fl_X8_33 s_1 rfl ?_
  refine V_iconst (v := (1 : Int32)) dX8_isName_4 rfl ?_
  refine V_icmp_ne dX8_isName_5 (fun c1 => ?_) (fun c1 => ?_)
  · have k := k.1 c1
    refine V_iconst (v := (0 : Int32)) dX8_isName_24 rfl ?_
    exact V_iret dX8_isName_25 ⟨_, rfl, rfl⟩ rfl rfl ⟨_, _, _, rfl, rfl, k⟩
  · have k := k.2 c1
    refine V_aload_n dX8_isName_8 rfl ?_
    refine U_getI dX8_isName_9 fl_X8_19 s_1 rfl ?_
    refine V_aload_n dX8_isName_12 rfl ?_
    refine U_getI dX8_isName_13 fl_X8_26 s_1 rfl ?_
    refine V_isub dX8_isName_16 ?_
    refine V_aloadS_n dX8_isName_17 (Or.inl hj) rfl ?_
    refine U_callVs [] dX8_isName_18 ov_X8_39 rfl hj ⟨rfl, rfl, rfl⟩ rfl rfl rfl (tstrlen (by first | decide | assumption) ?_)
    refine V_icmp_eq dX8_isName_21 (fun c2 => ?_) (fun c2 => ?_)
    · have k := k.1 c2
      refine V_iconst (v := (0 : Int32)) dX8_isName_26 rfl ?_
      refine U_istore_n (L2 := [.ref 1, .float j, .int (0 : Int32)]) dX8_isName_27 (by decide) rfl ?_
      exact k
    · have k := k.2 c2
      refine V_iconst (v := (0 : Int32)) dX8_isName_24 rfl ?_
      exact V_iret dX8_isName_25 ⟨_, rfl, rfl⟩ rfl rfl ⟨_, _, _, rfl, rfl, k⟩
set_option maxHeartbeats 4000000 in
set_option maxRecDepth 20000 in
theorem wX8_isName_28 {E : aE} {P : Int32 → hI_ → hJ_ → Prop} {I : hI_} {J : hJ_} {j : UInt32} {v2 : Int32} (hj : j.toNat < 9) (k : (((Int32.ofNat (sLen.getD j.toNat 0)) ≤ v2 → P (1 : Int32) I J) ∧ (¬ ((Int32.ofNat (sLen.getD j.toNat 0)) ≤ v2) → (vp_in v2 (sLen.getD j.toNat 0)) ∧ (((byt I ((I 1 4) + v2)) = ((sByt.getD j.toNat []).getD v2.toNatClampNeg 0) → HX8_isName_28 E P j (v2 + (1 : Int32)) I J) ∧ (¬ ((byt I ((I 1 4) + v2)) = ((sByt.getD j.toNat []).getD v2.toNatClampNeg 0)) → P (0 : Int32) I J))))) : HX8_isName_28 E P j v2 I J := by
  show V E mX8_isName (kI SH P) 28 [.ref 1, .float j, .int v2] [] (SH, I, J) (0, 0)
  refine V_iload_n dX8_isName_28 rfl ?_
  refine V_aloadS_n dX8_isName_29 (Or.inl hj) rfl ?_
  refine U_callVs [] dX8_isName_30 ov_X8_39 rfl hj ⟨rfl, rfl, rfl⟩ rfl rfl rfl (tstrlen (by first | decide | assumption) ?_)
  refine V_icmp_ge dX8_isName_33 (fun c1 => ?_) (fun c1 => ?_)
  · have k := k.1 c1
    refine V_iconst (v := (1 : Int32)) dX8_isName_62 rfl ?_
    exact V_iret dX8_isName_63 ⟨_, rfl, rfl⟩ rfl rfl ⟨_, _, _, rfl, rfl, k⟩
  · have k := k.2 c1
    refine V_aload_n dX8_isName_36 rfl ?_
    refine V_aload_n dX8_isName_37 rfl ?_
    refine U_getI dX8_isName_38 fl_X8_26 s_1 rfl ?_
    refine V_iload_n dX8_isName_41 rfl ?_
    refine V_iadd dX8_isName_42 ?_
    refine U_callV1 [.int ((I 1 4) + v2)] dX8_isName_43 ov_X8_29 s_1 rfl ⟨rfl, rfl, rfl⟩ rfl rfl rfl (tX8_byteAt ?_)
    refine V_aloadS_n dX8_isName_46 (Or.inl hj) rfl ?_
    refine V_iload_n dX8_isName_47 rfl ?_
    obtain ⟨hp2, k⟩ := k
    refine U_callVs [.int v2] dX8_isName_48 ov_X8_44 rfl hj ⟨rfl, rfl, rfl⟩ rfl rfl rfl (tstrchr (by first | decide | assumption) hp2 ?_)
    refine V_icmp_eq dX8_isName_51 (fun c3 => ?_) (fun c3 => ?_)
    · have k := k.1 c3
      refine U_iinc (v := v2 + (1 : Int32)) (L2 := [.ref 1, .float j, .int (v2 + (1 : Int32))]) dX8_isName_56 (by decide) rfl rfl rfl ?_
      refine V_goto dX8_isName_59 ?_
      exact k
    · have k := k.2 c3
      refine V_iconst (v := (0 : Int32)) dX8_isName_54 rfl ?_
      exact V_iret dX8_isName_55 ⟨_, rfl, rfl⟩ rfl rfl ⟨_, _, _, rfl, rfl, k⟩
/-- the token read last is that name -/
def isNm (I : hI_) (j : UInt32) : Prop := I 1 3 = 1 ∧ I 1 2 - I 1 4 = Int32.ofNat (sLen.getD j.toNat 0) ∧ ∀ k, k < sLen.getD j.toNat 0 → byt I (I 1 4 + nI k) = (sByt.getD j.toNat []).getD k 0
def isNmB (I : hI_) (j : UInt32) : Bool := decide (I 1 3 = 1) && (decide (I 1 2 - I 1 4 = Int32.ofNat (sLen.getD j.toNat 0)) && (List.range (sLen.getD j.toNat 0)).all (fun k => decide (byt I (I 1 4 + nI k) = (sByt.getD j.toNat []).getD k 0)))
theorem isNmB_iff {I : hI_} {j : UInt32} : isNmB I j = true ↔ isNm I j := by
  simp [isNmB, isNm, List.all_eq_true]
theorem tX8_isName_loop {E : aE} {P : Int32 → hI_ → hJ_ → Prop} {I : hI_} {J : hJ_} {j : UInt32} (hj : j.toNat < 9) (k1 : (∀ q, q < sLen.getD j.toNat 0 → byt I (I 1 4 + nI q) = (sByt.getD j.toNat []).getD q 0) → P 1 I J) (k0 : ¬ (∀ q, q < sLen.getD j.toNat 0 → byt I (I 1 4 + nI q) = (sByt.getD j.toNat []).getD q 0) → P 0 I J) : ∀ (m i : Nat), i + m = sLen.getD j.toNat 0 → (∀ q, q < i → byt I (I 1 4 + nI q) = (sByt.getD j.toNat []).getD q 0) → HX8_isName_28 E P j (nI i) I J
  | 0, i, h, hi => by
    have hl := (slen_lt _ hj).1
    refine wX8_isName_28 hj ⟨fun _ => ?_, fun c => absurd (nI_le (show sLen.getD j.toNat 0 ≤ i by omega) (by omega)) c⟩
    exact k1 (fun q hq => hi q (by omega))
  | m + 1, i, h, hi => by
    have hl := (slen_lt _ hj).1
    refine wX8_isName_28 hj ⟨fun c => absurd c (nI_ge (show i < sLen.getD j.toNat 0 by omega) (by omega)), fun _ => ⟨vp_in_nI (by omega) (by omega), ?_⟩⟩
    rw [nI_clamp (by omega)]
    refine ⟨fun c => ?_, fun c => ?_⟩
    · rw [nI_1]
      refine tX8_isName_loop hj k1 k0 m (i + 1) (by omega) (fun q hq => ?_)
      by_cases e : q = i
      · subst e; exact c
      · exact hi q (by omega)
    · exact k0 (fun z => c (z i (by omega)))
theorem tX8_isName {E : aE} {P : Int32 → hI_ → hJ_ → Prop} {I : hI_} {J : hJ_} {j : UInt32} (hj : j.toNat < 9) (k : P (b2i (isNmB I j = true)) I J) : CallI E mX8_isName [.ref 1, .float j] SH I J P := by
  have k1 : isNm I j → P 1 I J := fun h => by rw [b2i_1.mpr (isNmB_iff.mpr h)] at k; exact k
  have k0 : ¬ isNm I j → P 0 I J := fun h => by rw [b2i_0.mpr (fun q => h (isNmB_iff.mp q))] at k; exact k
  refine wX8_isName hj ⟨fun c => k0 (fun q => c q.1), fun c => ⟨fun c2 => ?_, fun c2 => k0 (fun q => c2 q.2.1)⟩⟩
  exact tX8_isName_loop hj (fun h => k1 ⟨c, c2, h⟩) (fun h => k0 (fun q => h q.2.2)) (sLen.getD j.toNat 0) 0 (by omega) (fun q hq => by omega)
set_option maxHeartbeats 4000000 in
set_option maxRecDepth 20000 in
theorem wX3_allMoves {E : aE} {P : Int32 → hI_ → hJ_ → Prop} {I : hI_} {J : hJ_}  (k : P (((I 9 0) + (I 9 1)) + (I 9 2)) I J) : CallI E mX3_allMoves [.ref 3] SH I J P := by
  refine Call_of (L := [.ref 3]) ok_X3_allMoves.1 rfl rfl ?_
  refine V_aload_n dX3_allMoves_0 rfl ?_
  refine U_getR dX3_allMoves_1 fl_X3_27 s_3 rfl ?_
  refine V_iconst (v := (0 : Int32)) dX3_allMoves_4 rfl ?_
  refine U_ialdx (x := I 9 0) dX3_allMoves_5 s_9 (by unfold vp_in; decide) rfl ?_
  refine V_aload_n dX3_allMoves_6 rfl ?_
  refine U_getR dX3_allMoves_7 fl_X3_27 s_3 rfl ?_
  refine V_iconst (v := (1 : Int32)) dX3_allMoves_10 rfl ?_
  refine U_ialdx (x := I 9 1) dX3_allMoves_11 s_9 (by unfold vp_in; decide) rfl ?_
  refine V_iadd dX3_allMoves_12 ?_
  refine V_aload_n dX3_allMoves_13 rfl ?_
  refine U_getR dX3_allMoves_14 fl_X3_27 s_3 rfl ?_
  refine V_iconst (v := (2 : Int32)) dX3_allMoves_17 rfl ?_
  refine U_ialdx (x := I 9 2) dX3_allMoves_18 s_9 (by unfold vp_in; decide) rfl ?_
  refine V_iadd dX3_allMoves_19 ?_
  exact V_iret dX3_allMoves_20 ⟨_, rfl, rfl⟩ rfl rfl ⟨_, _, _, rfl, rfl, k⟩
theorem tX3_allMoves3 {E : aE} {P : Int32 → hI_ → hJ_ → Prop} {I : hI_} {J : hJ_} (k : P (I 9 0 + I 9 1 + I 9 2) I J) : CallI E mX3_allMoves [.ref 3] SH I J P := wX3_allMoves k
