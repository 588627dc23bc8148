/-! the deals in their order, and what of each is struck -/
def pD (I : hI_) (d : Nat) : Nat := (I 82 (170 + 4 * d)).toInt.toNat
def cD (I : hI_) (d : Nat) : Nat := (I 82 (170 + 4 * d + 1)).toInt.toNat
def mD (I : hI_) (d : Nat) : Nat := (I 82 (170 + 4 * d + 2)).toInt.toNat
def uD (I : hI_) (d : Nat) : Nat := (I 82 (170 + 4 * d + 3)).toInt.toNat
noncomputable def aD (I : hI_) (d : Nat) : Nat := arr (wI I) (pD I d) (mD I d) (qN I (cD I d))
noncomputable def rkD (I : hI_) (d : Nat) : Nat := if I 73 6 = 0 then mD I d else if I 73 6 = 1 then aD I d - mD I d else d
noncomputable def kD (I : hI_) (d : Nat) : Nat := (aD I d * 20000 + rkD I d) * 100 + d
theorem toN_nI {x : Int32} {n : Nat} (hn : n < 1000000) (h : x = nI n) : x.toInt.toNat = n := by
  rw [h, nI_toInt (by omega)]; rfl
theorem deal_ok {I : hI_} (h : Rel I) {d : Nat} (hd : d < nD I) : (I 82 (170 + 4 * d) = nI (pD I d) ∧ pD I d < nP I) ∧ (I 82 (170 + 4 * d + 1) = nI (cD I d) ∧ cD I d < nC I) ∧ (I 82 (170 + 4 * d + 2) = nI (mD I d) ∧ mD I d ≤ 999) ∧ (I 82 (170 + 4 * d + 3) = nI (uD I d) ∧ 1 ≤ uD I d ∧ uD I d ≤ 99) ∧ (mD I d ≤ aD I d ∧ aD I d ≤ 1495) ∧ qN I (cD I d) ≠ pD I d := by
  obtain ⟨-, p, c, m, q, t, b0, b1, b2, b3, b4, b5, b6, b7, b8, b9, b10, b11, b12, b13⟩ := Rel_deal h hd
  have hP := (Rel_P h).2.2
  have hC := (Rel_C h).2.2
  have e0 : pD I d = p := toN_nI (by omega) b0
  have e1 : cD I d = c := toN_nI (by omega) b1
  have e2 : mD I d = m := toN_nI (by omega) b2
  have eq : qN I c = q := toN_nI (by omega) b7
  have ea : aD I d = arr (wI I) p m q := by unfold aD; rw [e0, e1, e2, eq]
  have hw := Rel_wok h
  have hc : arr (wI I) p m q < 10000 := arr_conn hw (t := t) (by omega) (by omega) (by omega)
  have hl : m ≤ arr (wI I) p m q := arr_late (by omega)
  have h15 := arr_1500 hw (a := p) (t := m) (v := q) (by omega) hc
  have u0 := b6.1
  have u1 := b6.2
  refine ⟨⟨by rw [e0]; exact b0, by omega⟩, ⟨by rw [e1]; exact b1, by omega⟩, ⟨by rw [e2]; exact b2, by omega⟩, ⟨ofT (by omega), by unfold uD; omega, by unfold uD; omega⟩, ⟨by omega, by omega⟩, by rw [e1, eq, e0]; exact b8⟩
theorem deal_at {I : hI_} (h : Rel I) {d : Nat} (hd : d < nD I) : rat I 26 27 (nI d) 0 = nI (pD I d) ∧ rat I 26 27 (nI d) 1 = nI (cD I d) ∧ rat I 26 27 (nI d) 2 = nI (mD I d) ∧ rat I 26 27 (nI d) 3 = nI (uD I d) ∧ rat I 26 27 (nI d) 4 = nI (aD I d) := by
  have ok := deal_ok h hd
  obtain ⟨f, p, c, m, q, t, b0, b1, b2, b3, b4, b5, b6, b7, b8, b9, b10, b11, b12, b13⟩ := Rel_deal h hd
  have hP := (Rel_P h).2.2
  have hC := (Rel_C h).2.2
  have e0 : pD I d = p := toN_nI (by omega) b0
  have e1 : cD I d = c := toN_nI (by omega) b1
  have e2 : mD I d = m := toN_nI (by omega) b2
  have eq : qN I c = q := toN_nI (by omega) b7
  have ea : aD I d = arr (wI I) p m q := by unfold aD; rw [e0, e1, e2, eq]
  exact ⟨(f 0 (by omega)).trans ok.1.1, (f 1 (by omega)).trans ok.2.1.1, (f 2 (by omega)).trans ok.2.2.1.1, (f 3 (by omega)).trans ok.2.2.2.1.1, by rw [ea]; exact b12⟩
theorem rk_le {I : hI_} (h : Rel I) {d : Nat} (hd : d < nD I) : rkD I d ≤ 1495 := by
  have ok := deal_ok h hd
  have hD := (Rel_D h).2.2
  unfold rkD
  split
  · omega
  · split
    · omega
    · omega
theorem kD_lt {I : hI_} (h : Rel I) {d e : Nat} (hd : d < nD I) (he : e < nD I) : kD I d < kD I e ↔ (aD I d < aD I e ∨ (aD I d = aD I e ∧ (rkD I d < rkD I e ∨ (rkD I d = rkD I e ∧ d < e)))) := by
  have r1 := rk_le h hd
  have r2 := rk_le h he
  have hD := (Rel_D h).2.2
  unfold kD
  omega
theorem kD_inj {I : hI_} (h : Rel I) {d e : Nat} (hd : d < nD I) (he : e < nD I) (hk : kD I d = kD I e) : d = e := by
  have r1 := rk_le h hd
  have r2 := rk_le h he
  have hD := (Rel_D h).2.2
  unfold kD at hk
  omega
theorem nI_ltJ {a b : Nat} (ha : a < 1000000) (hb : b < 1000000) : (nI a < nI b) ↔ a < b := by
  rw [Int32.lt_iff_toInt_lt, nI_toInt (by omega), nI_toInt (by omega)]; omega
theorem nI_leJ {a b : Nat} (ha : a < 1000000) (hb : b < 1000000) : (nI a ≤ nI b) ↔ a ≤ b := by
  rw [Int32.le_iff_toInt_le, nI_toInt (by omega), nI_toInt (by omega)]; omega
theorem nI_eqI {a b : Nat} (ha : a < 1000000) (hb : b < 1000000) : (nI a = nI b) ↔ a = b := nI_eq (by omega) (by omega)
/-- the rule, told to both -/
theorem Rel_rule {I : hI_} (h : Rel I) : I 3 9 = I 73 6 := h.2.1.2.2.2.2.2.1.1
set_option maxHeartbeats 4000000 in
set_option maxRecDepth 20000 in
theorem wX7_isAhead {E : aE} {P : Int32 → hI_ → hJ_ → Prop} {I : hI_} {J : hJ_} {a0 : Int32} {a1 : Int32} (k : (rok I 26 5 24) ∧ (rok I 26 5 24) ∧ (((rat I 26 27 a0 (4 : Int32)) = (rat I 26 27 a1 (4 : Int32)) → (rok I 26 5 24) ∧ (rok I 26 5 24) ∧ ((¬ (I 3 9) = (0 : Int32) → P (b2i (((I 3 9) = (1 : Int32)) ∧ (¬ (((rat I 26 27 a1 (4 : Int32)) - (rat I 26 27 a1 (2 : Int32))) ≤ ((rat I 26 27 a0 (4 : Int32)) - (rat I 26 27 a0 (2 : Int32))))))) I J) ∧ ((I 3 9) = (0 : Int32) → P (b2i (¬ ((rat I 26 27 a1 (2 : Int32)) ≤ (rat I 26 27 a0 (2 : Int32))))) I J))) ∧ (¬ ((rat I 26 27 a0 (4 : Int32)) = (rat I 26 27 a1 (4 : Int32))) → P (b2i (¬ ((rat I 26 27 a1 (4 : Int32)) ≤ (rat I 26 27 a0 (4 : Int32))))) I J))) : CallI E mX7_isAhead [.ref 29, .int a0, .int a1] SH I J P := by
  refine Call_of (L := [.ref 29, .int a0, .int a1, .retAddr 0, .retAddr 0, .retAddr 0, .retAddr 0]) ok_X7_isAhead.1 rfl rfl ?_
  refine V_aload_n dX7_isAhead_0 rfl ?_
  refine U_getR dX7_isAhead_1 fl_X7_52 s_29 rfl ?_
  refine V_iload_n dX7_isAhead_4 rfl ?_
  refine V_iconst (v := (4 : Int32)) dX7_isAhead_5 rfl ?_
  obtain ⟨hp1, k⟩ := k
  refine U_callV1 [.int a0, .int (4 : Int32)] dX7_isAhead_6 ov_X7_59 s_26 rfl ⟨rfl, rfl, rfl⟩ rfl rfl rfl (tX5_at s_26 s_27 (by decide) hp1 ?_)
  refine U_istore_n (L2 := [.ref 29, .int a0, .int a1, .int (rat I 26 27 a0 (4 : Int32)), .retAddr 0, .retAddr 0, .retAddr 0]) dX7_isAhead_9 (by decide) rfl ?_
  refine V_aload_n dX7_isAhead_10 rfl ?_
  refine U_getR dX7_isAhead_11 fl_X7_52 s_29 rfl ?_
  refine V_iload_n dX7_isAhead_14 rfl ?_
  refine V_iconst (v := (4 : Int32)) dX7_isAhead_15 rfl ?_
  obtain ⟨hp2, k⟩ := k
  refine U_callV1 [.int a1, .int (4 : Int32)] dX7_isAhead_16 ov_X7_59 s_26 rfl ⟨rfl, rfl, rfl⟩ rfl rfl rfl (tX5_at s_26 s_27 (by decide) hp2 ?_)
  refine U_istore (L2 := [.ref 29, .int a0, .int a1, .int (rat I 26 27 a0 (4 : Int32)), .int (rat I 26 27 a1 (4 : Int32)), .retAddr 0, .retAddr 0]) dX7_isAhead_19 (by decide) rfl ?_
  refine V_iload_n dX7_isAhead_21 rfl ?_
  refine V_iload dX7_isAhead_22 rfl ?_
  refine V_icmp_eq dX7_isAhead_24 (fun c3 => ?_) (fun c3 => ?_)
  · have k := k.1 c3
    refine V_aload_n dX7_isAhead_39 rfl ?_
    refine U_getR dX7_isAhead_40 fl_X7_52 s_29 rfl ?_
    refine V_iload_n dX7_isAhead_43 rfl ?_
    refine V_iconst (v := (2 : Int32)) dX7_isAhead_44 rfl ?_
    obtain ⟨hp4, k⟩ := k
    refine U_callV1 [.int a0, .int (2 : Int32)] dX7_isAhead_45 ov_X7_59 s_26 rfl ⟨rfl, rfl, rfl⟩ rfl rfl rfl (tX5_at s_26 s_27 (by decide) hp4 ?_)
    refine U_istore (L2 := [.ref 29, .int a0, .int a1, .int (rat I 26 27 a0 (4 : Int32)), .int (rat I 26 27 a1 (4 : Int32)), .int (rat I 26 27 a0 (2 : Int32)), .retAddr 0]) dX7_isAhead_48 (by decide) rfl ?_
    refine V_aload_n dX7_isAhead_50 rfl ?_
    refine U_getR dX7_isAhead_51 fl_X7_52 s_29 rfl ?_
    refine V_iload_n dX7_isAhead_54 rfl ?_
    refine V_iconst (v := (2 : Int32)) dX7_isAhead_55 rfl ?_
    obtain ⟨hp5, k⟩ := k
    refine U_callV1 [.int a1, .int (2 : Int32)] dX7_isAhead_56 ov_X7_59 s_26 rfl ⟨rfl, rfl, rfl⟩ rfl rfl rfl (tX5_at s_26 s_27 (by decide) hp5 ?_)
    refine U_istore (L2 := [.ref 29, .int a0, .int a1, .int (rat I 26 27 a0 (4 : Int32)), .int (rat I 26 27 a1 (4 : Int32)), .int (rat I 26 27 a0 (2 : Int32)), .int (rat I 26 27 a1 (2 : Int32))]) dX7_isAhead_59 (by decide) rfl ?_
    refine V_aload_n dX7_isAhead_61 rfl ?_
    refine U_getR dX7_isAhead_62 fl_X7_30 s_29 rfl ?_
    refine U_getI dX7_isAhead_65 fl_X7_78 s_3 rfl ?_
    refine V_if_ne dX7_isAhead_68 (fun c6 => ?_) (fun c6 => ?_)
    · have k := k.1 c6
      refine V_aload_n dX7_isAhead_84 rfl ?_
      refine U_getR dX7_isAhead_85 fl_X7_30 s_29 rfl ?_
      refine U_getI dX7_isAhead_88 fl_X7_78 s_3 rfl ?_
      refine V_iconst (v := (1 : Int32)) dX7_isAhead_91 rfl ?_
      have key7 : ∀ (y2008 : Int32), y2008 = (b2i (((I 3 9) = (1 : Int32)) ∧ (¬ (((rat I 26 27 a1 (4 : Int32)) - (rat I 26 27 a1 (2 : Int32))) ≤ ((rat I 26 27 a0 (4 : Int32)) - (rat I 26 27 a0 (2 : Int32))))))) → V E mX7_isAhead (kI SH P) 112 [.ref 29, .int a0, .int a1, .int (rat I 26 27 a0 (4 : Int32)), .int (rat I 26 27 a1 (4 : Int32)), .int (rat I 26 27 a0 (2 : Int32)), .int (rat I 26 27 a1 (2 : Int32))] [.int y2008] (SH, I, J) (0, 0) := by
        intro y2008 ey2008
        subst ey2008
        exact V_iret dX7_isAhead_112 ⟨_, rfl, b2i_nar⟩ rfl rfl ⟨_, _, _, rfl, rfl, k⟩
      refine V_icmp_ne dX7_isAhead_92 (fun c2009 => ?_) (fun c2009 => ?_)
      · refine V_iconst (v := (0 : Int32)) dX7_isAhead_111 rfl ?_
        exact key7 _ ((b2i_0.mpr (fun q => c2009 q.1)).symm)
      · refine V_iload_n dX7_isAhead_95 rfl ?_
        refine V_iload dX7_isAhead_96 rfl ?_
        refine V_isub dX7_isAhead_98 ?_
        refine V_iload dX7_isAhead_99 rfl ?_
        refine V_iload dX7_isAhead_101 rfl ?_
        refine V_isub dX7_isAhead_103 ?_
        refine V_icmp_ge dX7_isAhead_104 (fun c2010 => ?_) (fun c2010 => ?_)
        · refine V_iconst (v := (0 : Int32)) dX7_isAhead_111 rfl ?_
          exact key7 _ ((b2i_0.mpr (fun q => (fun q => q c2010) q.2)).symm)
        · refine V_iconst (v := (1 : Int32)) dX7_isAhead_107 rfl ?_
          refine V_goto dX7_isAhead_108 ?_
          exact key7 _ ((b2i_1.mpr (⟨c2009, c2010⟩)).symm)
    · have k := k.2 c6
      refine V_iload dX7_isAhead_71 rfl ?_
      refine V_iload dX7_isAhead_73 rfl ?_
      have key2011 : ∀ (y4012 : Int32), y4012 = (b2i (¬ ((rat I 26 27 a1 (2 : Int32)) ≤ (rat I 26 27 a0 (2 : Int32))))) → V E mX7_isAhead (kI SH P) 83 [.ref 29, .int a0, .int a1, .int (rat I 26 27 a0 (4 : Int32)), .int (rat I 26 27 a1 (4 : Int32)), .int (rat I 26 27 a0 (2 : Int32)), .int (rat I 26 27 a1 (2 : Int32))] [.int y4012] (SH, I, J) (0, 0) := by
        intro y4012 ey4012
        subst ey4012
        exact V_iret dX7_isAhead_83 ⟨_, rfl, b2i_nar⟩ rfl rfl ⟨_, _, _, rfl, rfl, k⟩
      refine V_icmp_ge dX7_isAhead_75 (fun c4013 => ?_) (fun c4013 => ?_)
      · refine V_iconst (v := (0 : Int32)) dX7_isAhead_82 rfl ?_
        exact key2011 _ ((b2i_0.mpr (fun q => q c4013)).symm)
      · refine V_iconst (v := (1 : Int32)) dX7_isAhead_78 rfl ?_
        refine V_goto dX7_isAhead_79 ?_
        exact key2011 _ ((b2i_1.mpr (c4013)).symm)
  · have k := k.2 c3
    refine V_iload_n dX7_isAhead_27 rfl ?_
    refine V_iload dX7_isAhead_28 rfl ?_
    have key4014 : ∀ (y6015 : Int32), y6015 = (b2i (¬ ((rat I 26 27 a1 (4 : Int32)) ≤ (rat I 26 27 a0 (4 : Int32))))) → V E mX7_isAhead (kI SH P) 38 [.ref 29, .int a0, .int a1, .int (rat I 26 27 a0 (4 : Int32)), .int (rat I 26 27 a1 (4 : Int32)), .retAddr 0, .retAddr 0] [.int y6015] (SH, I, J) (0, 0) := by
      intro y6015 ey6015
      subst ey6015
      exact V_iret dX7_isAhead_38 ⟨_, rfl, b2i_nar⟩ rfl rfl ⟨_, _, _, rfl, rfl, k⟩
    refine V_icmp_ge dX7_isAhead_30 (fun c6016 => ?_) (fun c6016 => ?_)
    · refine V_iconst (v := (0 : Int32)) dX7_isAhead_37 rfl ?_
      exact key4014 _ ((b2i_0.mpr (fun q => q c6016)).symm)
    · refine V_iconst (v := (1 : Int32)) dX7_isAhead_33 rfl ?_
      refine V_goto dX7_isAhead_34 ?_
      exact key4014 _ ((b2i_1.mpr (c6016)).symm)
/-- the class's test, for one told later -/
theorem tX7_isAhead {E : aE} {P : Int32 → hI_ → hJ_ → Prop} {I : hI_} {J : hJ_} {d e : Nat} (h : Rel I) (hd : d < nD I) (he : e < d) (k : P (b2i (kD I d < kD I e)) I J) : CallI E mX7_isAhead [.ref 29, .int (nI d), .int (nI e)] SH I J P := by
  have hD := (Rel_D h).2.2
  have hr := (Rel_rows h).2.2
  obtain ⟨d0, d1, d2, d3, d4⟩ := deal_at h hd
  obtain ⟨e0, e1, e2, e3, e4⟩ := deal_at h (d := e) (by omega)
  have okd := deal_ok h hd
  have oke := deal_ok h (d := e) (by omega)
  have kl := kD_lt h hd (e := e) (by omega)
  have use : ∀ (p : Prop) (i : Decidable p), (p ↔ kD I d < kD I e) → P (@b2i p i) I J := fun p i hp => by
    have : @b2i p i = b2i (kD I d < kD I e) := b2i_congr hp
    rw [this]; exact k
  refine wX7_isAhead ⟨hr, hr, fun z => ⟨hr, hr, fun z2 => use _ _ ?_, fun z2 => use _ _ ?_⟩, fun z => use _ _ ?_⟩
  · rw [d4, e4, nI_eqI (by omega) (by omega)] at z
    rw [Rel_rule h] at z2 ⊢
    rw [d4, e4, d2, e2, nI_sub (by omega), nI_sub (by omega), nI_leJ (by omega) (by omega), kl]
    unfold rkD
    rw [if_neg z2, if_neg z2]
    by_cases z3 : I 73 6 = 1
    · rw [if_pos z3, if_pos z3]
      constructor
      · exact fun y => Or.inr ⟨z, Or.inl (by omega)⟩
      · exact fun y => ⟨z3, by omega⟩
    · rw [if_neg z3, if_neg z3]
      constructor
      · exact fun y => absurd y.1 z3
      · omega
  · rw [d4, e4, nI_eqI (by omega) (by omega)] at z
    rw [Rel_rule h] at z2
    rw [d2, e2, nI_leJ (by omega) (by omega), kl]
    unfold rkD
    rw [if_pos z2, if_pos z2]
    omega
  · rw [d4, e4, nI_eqI (by omega) (by omega)] at z
    rw [d4, e4, nI_leJ (by omega) (by omega), kl]
    omega
/-- a list of deals in their order -/
def srt (I : hI_) (n : Nat) (o : Nat → Nat) : Prop := (∀ i, i < n → o i < n) ∧ (∀ i j, i < j → j < n → kD I (o i) < kD I (o j)) ∧ ∀ e, e < n → ∃ i, i < n ∧ o i = e
def ins (o : Nat → Nat) (d i : Nat) (j : Nat) : Nat := if j < i then o j else if j = i then d else o (j - 1)
theorem srt_ins {I : hI_} {d i : Nat} {o : Nat → Nat} (hs : srt I d o) (hi : i ≤ d) (h1 : ∀ j, i ≤ j → j < d → kD I d < kD I (o j)) (h2 : 0 < i → kD I (o (i - 1)) < kD I d) : srt I (d + 1) (ins o d i) := by
  obtain ⟨s1, s2, s3⟩ := hs
  have h3 : ∀ j, j < i → kD I (o j) < kD I d := fun j hj => by
    by_cases e : j = i - 1
    · rw [e]; exact h2 (by omega)
    · have := s2 j (i - 1) (by omega) (by omega)
      have := h2 (by omega)
      omega
  refine ⟨fun j hj => ?_, fun j l hl hj => ?_, fun e he => ?_⟩
  · unfold ins
    split
    · have := s1 j (by omega); omega
    · split
      · omega
      · have := s1 (j - 1) (by omega); omega
  · unfold ins
    by_cases a1 : j < i
    · rw [if_pos a1]
      by_cases a2 : l < i
      · rw [if_pos a2]; exact s2 j l hl (by omega)
      · rw [if_neg a2]
        by_cases a3 : l = i
        · rw [if_pos a3]; exact h3 j a1
        · rw [if_neg a3]; exact s2 j (l - 1) (by omega) (by omega)
    · rw [if_neg a1, if_neg (show ¬ l < i by omega), if_neg (show ¬ l = i by omega)]
      by_cases a3 : j = i
      · rw [if_pos a3]; exact h1 (l - 1) (by omega) (by omega)
      · rw [if_neg a3]; exact s2 (j - 1) (l - 1) (by omega) (by omega)
  · by_cases q : e = d
    · exact ⟨i, by omega, by unfold ins; rw [if_neg (by omega), if_pos rfl]; exact q.symm⟩
    · obtain ⟨j, j1, j2⟩ := s3 e (by omega)
      by_cases a : j < i
      · exact ⟨j, by omega, by unfold ins; rw [if_pos a]; exact j2⟩
      · exact ⟨j + 1, by omega, by unfold ins; rw [if_neg (by omega), if_neg (by omega)]; exact j2⟩
def ag30 (I I2 : hI_) : Prop := ∀ a, a ≠ 30 → I2 a = I a
theorem ag30_X {I I2 : hI_} (h : ag30 I I2) : agX I I2 := fun a e => h a (fun z => by rw [z] at e; cases e)
theorem aD_e {I I2 : hI_} (hw : wI I2 = wI I) (h : I2 82 = I 82) (d : Nat) : aD I2 d = aD I d := by unfold aD pD mD cD qN cK; rw [hw, h]
theorem kD_e {I I2 : hI_} (hw : wI I2 = wI I) (h73 : I2 73 = I 73) (h : I2 82 = I 82) (d : Nat) : kD I2 d = kD I d := by
  have hm : mD I2 d = mD I d := by unfold mD; rw [h]
  unfold kD rkD
  rw [aD_e hw h, h73, hm]
def HX7_putInOrder_2 (E : aE) (P : hI_ → hJ_ → Prop) (v1 : Int32) (I : hI_) (J : hJ_) : Prop := V E mX7_putInOrder (kV SH P) 2 [.ref 29, .int v1, .retAddr 0] [] (SH, I, J) (0, 0)
def HX7_putInOrder_15 (E : aE) (P : hI_ → hJ_ → Prop) (v1 : Int32) (v2 : Int32) (I : hI_) (J : hJ_) : Prop := V E mX7_putInOrder (kV SH P) 15 [.ref 29, .int v1, .int v2] [] (SH, I, J) (0, 0)
set_option maxHeartbeats 4000000 in
set_option maxRecDepth 20000 in
theorem wX7_putInOrder {E : aE} {P : hI_ → hJ_ → Prop} {I : hI_} {J : hJ_}  (k : HX7_putInOrder_2 E P (0 : Int32) I J) : CallV E mX7_putInOrder [.ref 29] SH I J P := by
  refine Call_of (L := [.ref 29, .retAddr 0, .retAddr 0]) ok_X7_putInOrder.1 rfl rfl ?_
  refine V_iconst (v := (0 : Int32)) dX7_putInOrder_0 rfl ?_
  refine U_istore_n (L2 := [.ref 29, .int (0 : Int32), .retAddr 0]) dX7_putInOrder_1 (by decide) rfl ?_
  exact k
set_option maxHeartbeats 4000000 in
set_option maxRecDepth 20000 in
theorem wX7_putInOrder_2 {E : aE} {P : hI_ → hJ_ → Prop} {I : hI_} {J : hJ_} {v1 : Int32} (k : (((I 26 3) ≤ v1 → P I J) ∧ (¬ ((I 26 3) ≤ v1) → HX7_putInOrder_15 E P v1 v1 I J))) : HX7_putInOrder_2 E P v1 I J := by
  show V E mX7_putInOrder (kV SH P) 2 [.ref 29, .int v1, .retAddr 0] [] (SH, I, J) (0, 0)
  refine V_iload_n dX7_putInOrder_2 rfl ?_
  refine V_aload_n dX7_putInOrder_3 rfl ?_
  refine U_getR dX7_putInOrder_4 fl_X7_52 s_29 rfl ?_
  refine U_getI dX7_putInOrder_7 fl_X7_53 s_26 rfl ?_
  refine V_icmp_ge dX7_putInOrder_10 (fun c1 => ?_) (fun c1 => ?_)
  · have k := k.1 c1
    exact V_vret dX7_putInOrder_68 rfl rfl rfl ⟨_, _, rfl, k⟩
  · have k := k.2 c1
    refine V_iload_n dX7_putInOrder_13 rfl ?_
    refine U_istore_n (L2 := [.ref 29, .int v1, .int v1]) dX7_putInOrder_14 (by decide) rfl ?_
    exact k
set_option maxHeartbeats 4000000 in
set_option maxRecDepth 20000 in
theorem wX7_putInOrder_15 {E : aE} {P : hI_ → hJ_ → Prop} {I : hI_} {J : hJ_} {v1 : Int32} {v2 : Int32} (k : ((v2 ≤ (0 : Int32) → (vp_in v2 24) ∧ HX7_putInOrder_2 E P (v1 + (1 : Int32)) (upI I 30 v2.toNatClampNeg v1) J) ∧ (¬ (v2 ≤ (0 : Int32)) → (vp_in (v2 - (1 : Int32)) 24) ∧ CallI E mX7_isAhead [.ref 29, .int v1, .int (I 30 (v2 - (1 : Int32)).toNatClampNeg)] SH I J (fun x4 I5 J6 => ((x4 = (0 : Int32) → (vp_in v2 24) ∧ HX7_putInOrder_2 E P (v1 + (1 : Int32)) (upI I5 30 v2.toNatClampNeg v1) J6) ∧ (¬ (x4 = (0 : Int32)) → (vp_in (v2 - (1 : Int32)) 24) ∧ (vp_in v2 24) ∧ HX7_putInOrder_15 E P v1 (v2 + (-1 : Int32)) (upI I5 30 v2.toNatClampNeg (I5 30 (v2 - (1 : Int32)).toNatClampNeg)) J6)))))) : HX7_putInOrder_15 E P v1 v2 I J := by
  show V E mX7_putInOrder (kV SH P) 15 [.ref 29, .int v1, .int v2] [] (SH, I, J) (0, 0)
  refine V_iload_n dX7_putInOrder_15 rfl ?_
  refine V_if_le dX7_putInOrder_16 (fun c1 => ?_) (fun c1 => ?_)
  · have k := k.1 c1
    refine V_aload_n dX7_putInOrder_55 rfl ?_
    refine U_getR dX7_putInOrder_56 fl_X7_9 s_29 rfl ?_
    refine V_iload_n dX7_putInOrder_59 rfl ?_
    refine V_iload_n dX7_putInOrder_60 rfl ?_
    obtain ⟨hb2, k⟩ := k
    refine U_iast dX7_putInOrder_61 s_30 hb2 ?_
    refine U_iinc (v := v1 + (1 : Int32)) (L2 := [.ref 29, .int (v1 + (1 : Int32)), .int v2]) dX7_putInOrder_62 (by decide) rfl rfl rfl ?_
    refine V_goto dX7_putInOrder_65 ?_
    exact V_wk (wk_eq (wk_eq (wk_j (wk_nil)))) k
  · have k := k.2 c1
    refine V_aload_n dX7_putInOrder_19 rfl ?_
    refine V_iload_n dX7_putInOrder_20 rfl ?_
    refine V_aload_n dX7_putInOrder_21 rfl ?_
    refine U_getR dX7_putInOrder_22 fl_X7_9 s_29 rfl ?_
    refine V_iload_n dX7_putInOrder_25 rfl ?_
    refine V_iconst (v := (1 : Int32)) dX7_putInOrder_26 rfl ?_
    refine V_isub dX7_putInOrder_27 ?_
    obtain ⟨hb3, k⟩ := k
    refine U_iald dX7_putInOrder_28 s_30 hb3 ?_
    refine U_callV1 [.int v1, .int (I 30 (v2 - (1 : Int32)).toNatClampNeg)] dX7_putInOrder_29 ov_X7_74 s_29 rfl ⟨rfl, rfl, rfl⟩ rfl rfl rfl (CallI_mono k (fun x4 I5 J6 k => ?_))
    refine V_if_eq dX7_putInOrder_32 (fun c7 => ?_) (fun c7 => ?_)
    · have k := k.1 c7
      refine V_aload_n dX7_putInOrder_55 rfl ?_
      refine U_getR dX7_putInOrder_56 fl_X7_9 s_29 rfl ?_
      refine V_iload_n dX7_putInOrder_59 rfl ?_
      refine V_iload_n dX7_putInOrder_60 rfl ?_
      obtain ⟨hb8, k⟩ := k
      refine U_iast dX7_putInOrder_61 s_30 hb8 ?_
      refine U_iinc (v := v1 + (1 : Int32)) (L2 := [.ref 29, .int (v1 + (1 : Int32)), .int v2]) dX7_putInOrder_62 (by decide) rfl rfl rfl ?_
      refine V_goto dX7_putInOrder_65 ?_
      exact V_wk (wk_eq (wk_eq (wk_j (wk_nil)))) k
    · have k := k.2 c7
      refine V_aload_n dX7_putInOrder_35 rfl ?_
      refine U_getR dX7_putInOrder_36 fl_X7_9 s_29 rfl ?_
      refine V_iload_n dX7_putInOrder_39 rfl ?_
      refine V_aload_n dX7_putInOrder_40 rfl ?_
      refine U_getR dX7_putInOrder_41 fl_X7_9 s_29 rfl ?_
      refine V_iload_n dX7_putInOrder_44 rfl ?_
      refine V_iconst (v := (1 : Int32)) dX7_putInOrder_45 rfl ?_
      refine V_isub dX7_putInOrder_46 ?_
      obtain ⟨hb9, k⟩ := k
      refine U_iald dX7_putInOrder_47 s_30 hb9 ?_
      obtain ⟨hb10, k⟩ := k
      refine U_iast dX7_putInOrder_48 s_30 hb10 ?_
      refine U_iinc (v := v2 + (-1 : Int32)) (L2 := [.ref 29, .int v1, .int (v2 + (-1 : Int32))]) dX7_putInOrder_49 (by decide) rfl rfl rfl ?_
      refine V_goto dX7_putInOrder_52 ?_
      exact k
theorem ins_loop {E : aE} {P : hI_ → hJ_ → Prop} {I0 : hI_} {J : hJ_} {d : Nat} {o : Nat → Nat} (h : Rel I0) (hd : d < nD I0) (hs : srt I0 d o) (k : ∀ I2 o2, ag30 I0 I2 → srt I0 (d + 1) o2 → (∀ j, j < d + 1 → I2 30 j = nI (o2 j)) → HX7_putInOrder_2 E P (nI (d + 1)) I2 J) : ∀ (i : Nat) (I : hI_), i ≤ d → ag30 I0 I → (∀ j, j < i → I 30 j = nI (o j)) → (∀ j, i ≤ j → j < d → I 30 (j + 1) = nI (o j)) → (∀ j, i ≤ j → j < d → kD I0 d < kD I0 (o j)) → HX7_putInOrder_15 E P (nI d) (nI i) I J := by
  have hD := (Rel_D h).2.2
  have fin : ∀ (i : Nat) (I : hI_), i ≤ d → ag30 I0 I → (∀ j, j < i → I 30 j = nI (o j)) → (∀ j, i ≤ j → j < d → I 30 (j + 1) = nI (o j)) → (∀ j, i ≤ j → j < d → kD I0 d < kD I0 (o j)) → (0 < i → kD I0 (o (i - 1)) < kD I0 d) → vp_in (nI i) 24 ∧ HX7_putInOrder_2 E P (nI d + 1) (upI I 30 (nI i).toNatClampNeg (nI d)) J := fun i I hi hag q1 q2 q3 q4 => by
    refine ⟨vp_in_nI (by omega) (by omega), ?_⟩
    rw [nI_1, nI_clamp (by omega)]
    refine k _ (ins o d i) (fun a ha => ?_) (srt_ins hs hi q3 q4) (fun j hj => ?_)
    · rw [← hag a ha]; funext j; rw [upI_at, if_neg (fun z => ha z.1)]
    · rw [upI_at]
      unfold ins
      by_cases e : j = i
      · rw [if_pos ⟨rfl, e⟩, if_neg (by omega), if_pos e]
      · rw [if_neg (fun z => e z.2)]
        by_cases e2 : j < i
        · rw [if_pos e2]; exact q1 j e2
        · rw [if_neg e2, if_neg e]
          have := q2 (j - 1) (by omega) (by omega)
          rw [show j - 1 + 1 = j by omega] at this
          exact this
  intro i
  induction i with
  | zero =>
    intro I hi hag q1 q2 q3
    exact wX7_putInOrder_15 ⟨fun _ => fin 0 I hi hag q1 q2 q3 (fun z => absurd z (by omega)), fun z => absurd (Int32.le_refl _) z⟩
  | succ i ih =>
    intro I hi hag q1 q2 q3
    have hX := ag30_X hag
    have hR := Rel_agX hX h
    have vi : vp_in (nI i) 24 := vp_in_nI (by omega) (by omega)
    have vi1 : vp_in (nI (i + 1)) 24 := vp_in_nI (by omega) (by omega)
    have em : nI (i + 1) - 1 = nI i := by rw [← nI_1 i]; exact Int32.add_sub_cancel _ _
    have em2 : nI (i + 1) + (-1) = nI i := by rw [← em]; exact (Int32.sub_eq_add_neg _ _).symm
    have oi := hs.1 i (by omega)
    refine wX7_putInOrder_15 ⟨fun z => absurd z (nI_ge (b := i + 1) (a := 0) (by omega) (by omega)), fun _ => ?_⟩
    rw [em, em2, nI_clamp (n := i) (by omega), q1 i (by omega)]
    refine ⟨vi, tX7_isAhead hR (by rw [nD_X hX]; exact hd) oi ?_⟩
    rw [kD_e (wI_X hX) (hX 73 rfl) (hX 82 rfl), kD_e (wI_X hX) (hX 73 rfl) (hX 82 rfl)]
    refine ⟨fun z => fin (i + 1) I hi hag q1 q2 q3 (fun _ => ?_), fun z => ⟨vi, vi1, ?_⟩⟩
    · rw [Nat.add_sub_cancel]
      have : ¬ kD I0 d < kD I0 (o i) := fun y => by
        have e : b2i (kD I0 d < kD I0 (o i)) = 1 := if_pos y
        rw [e] at z; exact absurd z (by decide)
      rcases Nat.lt_or_ge (kD I0 (o i)) (kD I0 d) with y | y
      · exact y
      · have e := kD_inj h hd (e := o i) (by omega) (by omega)
        omega
    · have y : kD I0 d < kD I0 (o i) := by
        by_cases y : kD I0 d < kD I0 (o i)
        · exact y
        · exact absurd (if_neg y) z
      rw [q1 i (by omega), nI_clamp (n := i + 1) (by omega)]
      refine ih _ (by omega) (fun a ha => ?_) (fun j hj => ?_) (fun j h1 h2 => ?_) (fun j h1 h2 => ?_)
      · rw [← hag a ha]; funext j; rw [upI_at, if_neg (fun w => ha w.1)]
      · rw [upI_at, if_neg (fun w => by omega)]; exact q1 j (by omega)
      · rw [upI_at]
        by_cases e : j = i
        · rw [if_pos ⟨rfl, by omega⟩, e]
        · rw [if_neg (fun w => by omega)]; exact q2 j (by omega) h2
      · by_cases e : j = i
        · rw [e]; exact y
        · exact q3 j (by omega) h2
theorem ord_loop {E : aE} {P : hI_ → hJ_ → Prop} {I0 : hI_} {J : hJ_} (h : Rel I0) (k : ∀ I2 o2, ag30 I0 I2 → srt I0 (nD I0) o2 → (∀ j, j < nD I0 → I2 30 j = nI (o2 j)) → P I2 J) : ∀ (m d : Nat) (I : hI_) (o : Nat → Nat), d + m = nD I0 → ag30 I0 I → srt I0 d o → (∀ j, j < d → I 30 j = nI (o j)) → HX7_putInOrder_2 E P (nI d) I J
  | 0, d, I, o, hd, hag, hs, q => by
    have hD := Rel_D h
    have e : d = nD I0 := by omega
    refine wX7_putInOrder_2 ?_
    rw [hag 26 (by omega), hD.1, ← e]
    rw [← e] at k
    exact ⟨fun _ => k I o hag hs q, fun z => absurd (nI_le (Nat.le_refl d) (by omega)) z⟩
  | m + 1, d, I, o, hd, hag, hs, q => by
    have hD := Rel_D h
    refine wX7_putInOrder_2 ?_
    rw [hag 26 (by omega), hD.1]
    refine ⟨fun z => absurd z (nI_ge (by omega) (by omega)), fun _ => ?_⟩
    exact ins_loop h (by omega) hs (fun I2 o2 a1 a2 a3 => ord_loop h k m (d + 1) I2 o2 (by omega) a1 a2 a3) d I (Nat.le_refl d) hag q (fun j h1 h2 => absurd h2 (by omega)) (fun j h1 h2 => absurd h2 (by omega))
theorem tX7_putInOrder {E : aE} {P : hI_ → hJ_ → Prop} {I : hI_} {J : hJ_} (h : Rel I) (k : ∀ I2 o2, ag30 I I2 → srt I (nD I) o2 → (∀ j, j < nD I → I2 30 j = nI (o2 j)) → P I2 J) : CallV E mX7_putInOrder [.ref 29] SH I J P := wX7_putInOrder (ord_loop h k (nD I) 0 I (fun j => j) (by omega) (fun _ _ => rfl) ⟨fun i hi => by omega, fun i j _ hj => by omega, fun e he => by omega⟩ (fun j hj => by omega))
