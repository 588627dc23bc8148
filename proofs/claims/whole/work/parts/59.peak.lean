/-! the peak of a debt -/
noncomputable def dT (I : hI_) (p t : Nat) : Int := (dbt I p t (nD I)).toInt
theorem py_0 {I : hI_} {p d : Nat} (h : tk I d = 0) : py I p d = 0 := by
  have e : sS I d = 0 := by unfold sS; rw [h]; exact Int32.mul_zero
  unfold py
  rw [e, show -(0 : Int32) = 0 from rfl]
  split
  · split <;> rfl
  · split
    · split <;> rfl
    · rfl
theorem dbt_still {I : hI_} {p u : Nat} : ∀ n, (∀ d, d < n → tk I d ≠ 0 → aD I d ≠ u + 1) → dbt I p (u + 1) n = dbt I p u n
  | 0, _ => rfl
  | n + 1, h => by
    rw [dbt_s, dbt_s, dbt_still n (fun d hd => h d (by omega))]
    by_cases z : u + 1 < aD I n
    · rw [if_pos z, if_pos (by omega)]
    · rw [if_neg z]
      by_cases y : u < aD I n
      · rw [if_pos y]
        have e : tk I n = 0 := by
          by_cases w : tk I n = 0
          · exact w
          · exact absurd (show aD I n = u + 1 by omega) (h n (by omega) w)
        rw [py_0 e, Int32.add_zero]
      · rw [if_neg y]
theorem dT_ev (I : hI_) (p : Nat) : ∀ u, ∃ s, s ≤ u ∧ dT I p u = dT I p s ∧ (s = 0 ∨ ∃ d, d < nD I ∧ tk I d ≠ 0 ∧ aD I d = s)
  | 0 => ⟨0, Nat.le_refl _, rfl, Or.inl rfl⟩
  | u + 1 => by
    by_cases z : ∃ d, d < nD I ∧ tk I d ≠ 0 ∧ aD I d = u + 1
    · exact ⟨u + 1, Nat.le_refl _, rfl, Or.inr z⟩
    · obtain ⟨s, s1, s2, s3⟩ := dT_ev I p u
      refine ⟨s, by omega, ?_, s3⟩
      rw [← s2]
      unfold dT
      rw [dbt_still _ (fun d hd h1 h2 => z ⟨d, hd, h1, h2⟩)]
/-- a struck deal comes by the last minute -/
theorem tk_999 {I : hI_} (h : Rel I) {d : Nat} (hd : d < nD I) (ht : tk I d ≠ 0) : aD I d ≤ 999 := by
  have ok := deal_ok h hd
  have hC := (Rel_C h).2.2
  rw [tk_eq h hd] at ht
  by_cases z : stB I (nI (cD I d)) (nI (aD I d)) = true
  · unfold stB at z
    have z := (of_decide_eq_true z).2
    rw [nI_clamp (by omega)] at z
    have l := lu_le I (cD I d)
    have := (nI_ltJ (by omega) (by omega)).mp z
    omega
  · rw [if_neg z] at ht; exact absurd rfl ht
def pkO (I : hI_) (p : Nat) (b : Nat) : Prop := b ≤ 999 ∧ (∀ u, u ≤ 999 → dT I p u ≤ dT I p b) ∧ ∀ u, u < b → dT I p u < dT I p b
theorem pkO_eq {I : hI_} {p b c : Nat} (hb : pkO I p b) (hc : pkO I p c) : b = c := by
  have h1 := hb.2.1 c hc.1
  have h2 := hc.2.1 b hb.1
  rcases Nat.lt_trichotomy b c with z | z | z
  · have := hc.2.2 b z; omega
  · exact z
  · have := hb.2.2 c z; omega
def pkN (I : hI_) (p n b : Nat) : Prop := (b = 0 ∨ ∃ d, d < n ∧ tk I d ≠ 0 ∧ aD I d = b) ∧ dT I p 0 ≤ dT I p b ∧ (dT I p 0 = dT I p b → b = 0) ∧ ∀ d, d < n → tk I d ≠ 0 → dT I p (aD I d) ≤ dT I p b ∧ (dT I p (aD I d) = dT I p b → b ≤ aD I d)
theorem pkN_O {I : hI_} (h : Rel I) {p b : Nat} (hb : pkN I p (nD I) b) : pkO I p b := by
  obtain ⟨b1, b2, b3, b4⟩ := hb
  have key : ∀ u, dT I p u ≤ dT I p b ∧ (dT I p u = dT I p b → b ≤ u) := fun u => by
    obtain ⟨s, s1, s2, s3⟩ := dT_ev I p u
    rcases s3 with s3 | ⟨d, d1, d2, d3⟩
    · rw [s2, s3]; exact ⟨b2, fun z => by rw [b3 z]; omega⟩
    · have := b4 d d1 d2
      rw [s2, ← d3]
      exact ⟨this.1, fun z => by have := this.2 z; omega⟩
  refine ⟨?_, fun u _ => (key u).1, fun u hu => ?_⟩
  · rcases b1 with b1 | ⟨d, d1, d2, d3⟩
    · omega
    · rw [← d3]; exact tk_999 h d1 d2
  · have := (key u).1
    have := (key u).2
    omega
theorem pkN_le {I : hI_} (h : Rel I) {p b n : Nat} (hn : n ≤ nD I) (hb : pkN I p n b) : b ≤ 999 := by
  rcases hb.1 with b1 | ⟨d, d1, d2, d3⟩
  · omega
  · rw [← d3]; exact tk_999 h (by omega) d2
theorem pkN_skip {I : hI_} {p b n : Nat} (hb : pkN I p n b) (h0 : tk I n = 0) : pkN I p (n + 1) b := by
  obtain ⟨b1, b2, b3, b4⟩ := hb
  refine ⟨?_, b2, b3, fun d hd ht => ?_⟩
  · rcases b1 with b1 | ⟨d, d1, d2, d3⟩
    · exact Or.inl b1
    · exact Or.inr ⟨d, by omega, d2, d3⟩
  · by_cases e : d = n
    · rw [e] at ht; exact absurd h0 ht
    · exact b4 d (by omega) ht
theorem pkN_keep {I : hI_} {p b n : Nat} (hb : pkN I p n b) (h0 : dT I p (aD I n) ≤ dT I p b ∧ (dT I p (aD I n) = dT I p b → b ≤ aD I n)) : pkN I p (n + 1) b := by
  obtain ⟨b1, b2, b3, b4⟩ := hb
  refine ⟨?_, b2, b3, fun d hd ht => ?_⟩
  · rcases b1 with b1 | ⟨d, d1, d2, d3⟩
    · exact Or.inl b1
    · exact Or.inr ⟨d, by omega, d2, d3⟩
  · by_cases e : d = n
    · rw [e]; exact h0
    · exact b4 d (by omega) ht
theorem pkN_new {I : hI_} {p b n : Nat} (hb : pkN I p n b) (ht : tk I n ≠ 0) (h0 : dT I p b < dT I p (aD I n) ∨ (dT I p b = dT I p (aD I n) ∧ aD I n < b)) : pkN I p (n + 1) (aD I n) := by
  obtain ⟨-, b2, b3, b4⟩ := hb
  refine ⟨Or.inr ⟨n, by omega, ht, rfl⟩, by omega, fun z => ?_, fun d hd h2 => ?_⟩
  · rcases h0 with h0 | h0
    · omega
    · have := b3 (by omega); omega
  · by_cases e : d = n
    · rw [e]; exact ⟨by omega, fun _ => by omega⟩
    · have := b4 d (by omega) h2
      refine ⟨by omega, fun z => ?_⟩
      rcases h0 with h0 | h0
      · omega
      · have := this.2 (by omega); omega
def HX7_peakMinute_12 (E : aE) (P : Int32 → hI_ → hJ_ → Prop) (v1 : Int32) (v2 : Int32) (v3 : Int32) (v4 : Int32) (I : hI_) (J : hJ_) : Prop := V E mX7_peakMinute (kI SH P) 12 [.ref 29, .int v1, .int v2, .int v3, .int v4, .retAddr 0, .retAddr 0] [] (SH, I, J) (0, 0)
set_option maxHeartbeats 4000000 in
set_option maxRecDepth 20000 in
theorem wX7_peakMinute {E : aE} {P : Int32 → hI_ → hJ_ → Prop} {I : hI_} {J : hJ_} {a0 : Int32} (k : CallI E mX7_debt [.ref 29, .int a0, .int (0 : Int32)] SH I J (fun x1 I2 J3 => HX7_peakMinute_12 E P a0 (0 : Int32) x1 (0 : Int32) I2 J3)) : CallI E mX7_peakMinute [.ref 29, .int a0] SH I J P := by
  refine Call_of (L := [.ref 29, .int a0, .retAddr 0, .retAddr 0, .retAddr 0, .retAddr 0, .retAddr 0]) ok_X7_peakMinute.1 rfl rfl ?_
  refine V_iconst (v := (0 : Int32)) dX7_peakMinute_0 rfl ?_
  refine U_istore_n (L2 := [.ref 29, .int a0, .int (0 : Int32), .retAddr 0, .retAddr 0, .retAddr 0, .retAddr 0]) dX7_peakMinute_1 (by decide) rfl ?_
  refine V_aload_n dX7_peakMinute_2 rfl ?_
  refine V_iload_n dX7_peakMinute_3 rfl ?_
  refine V_iconst (v := (0 : Int32)) dX7_peakMinute_4 rfl ?_
  refine U_callV1 [.int a0, .int (0 : Int32)] dX7_peakMinute_5 ov_X7_103 s_29 rfl ⟨rfl, rfl, rfl⟩ rfl rfl rfl (CallI_mono k (fun x1 I2 J3 k => ?_))
  refine U_istore_n (L2 := [.ref 29, .int a0, .int (0 : Int32), .int x1, .retAddr 0, .retAddr 0, .retAddr 0]) dX7_peakMinute_8 (by decide) rfl ?_
  refine V_iconst (v := (0 : Int32)) dX7_peakMinute_9 rfl ?_
  refine U_istore (L2 := [.ref 29, .int a0, .int (0 : Int32), .int x1, .int (0 : Int32), .retAddr 0, .retAddr 0]) dX7_peakMinute_10 (by decide) rfl ?_
  exact k
set_option maxHeartbeats 4000000 in
set_option maxRecDepth 20000 in
theorem wX7_peakMinute_12 {E : aE} {P : Int32 → hI_ → hJ_ → Prop} {I : hI_} {J : hJ_} {v1 : Int32} {v2 : Int32} {v3 : Int32} {v4 : Int32} (k : (((I 26 3) ≤ v4 → P v2 I J) ∧ (¬ ((I 26 3) ≤ v4) → (vp_in v4 24) ∧ ((¬ (I 31 v4.toNatClampNeg) = (0 : Int32) → (rok I 26 5 24) ∧ CallI E mX7_debt [.ref 29, .int v1, .int (rat I 26 27 v4 (4 : Int32))] SH I J (fun x5 I6 J7 => HX7_peakMinute_12 E P v1 (if v3 < x5 then (rat I 26 27 v4 (4 : Int32)) else (if ¬ x5 = v3 then v2 else (if v2 ≤ (rat I 26 27 v4 (4 : Int32)) then v2 else (rat I 26 27 v4 (4 : Int32))))) (if v3 < x5 then x5 else (if ¬ x5 = v3 then v3 else (if v2 ≤ (rat I 26 27 v4 (4 : Int32)) then v3 else x5))) (v4 + (1 : Int32)) I6 J7)) ∧ ((I 31 v4.toNatClampNeg) = (0 : Int32) → HX7_peakMinute_12 E P v1 v2 v3 (v4 + (1 : Int32)) I J))))) : HX7_peakMinute_12 E P v1 v2 v3 v4 I J := by
  show V E mX7_peakMinute (kI SH P) 12 [.ref 29, .int v1, .int v2, .int v3, .int v4, .retAddr 0, .retAddr 0] [] (SH, I, J) (0, 0)
  refine V_iload dX7_peakMinute_12 rfl ?_
  refine V_aload_n dX7_peakMinute_14 rfl ?_
  refine U_getR dX7_peakMinute_15 fl_X7_52 s_29 rfl ?_
  refine U_getI dX7_peakMinute_18 fl_X7_53 s_26 rfl ?_
  refine V_icmp_ge dX7_peakMinute_21 (fun c1 => ?_) (fun c1 => ?_)
  · have k := k.1 c1
    refine V_iload_n dX7_peakMinute_88 rfl ?_
    exact V_iret dX7_peakMinute_89 ⟨_, rfl, rfl⟩ rfl rfl ⟨_, _, _, rfl, rfl, k⟩
  · have k := k.2 c1
    refine V_aload_n dX7_peakMinute_24 rfl ?_
    refine U_getR dX7_peakMinute_25 fl_X7_15 s_29 rfl ?_
    refine V_iload dX7_peakMinute_28 rfl ?_
    obtain ⟨hb2, k⟩ := k
    refine U_iald dX7_peakMinute_30 s_31 hb2 ?_
    refine V_if_ne dX7_peakMinute_31 (fun c3 => ?_) (fun c3 => ?_)
    · have k := k.1 c3
      refine V_aload_n dX7_peakMinute_37 rfl ?_
      refine U_getR dX7_peakMinute_38 fl_X7_52 s_29 rfl ?_
      refine V_iload dX7_peakMinute_41 rfl ?_
      refine V_iconst (v := (4 : Int32)) dX7_peakMinute_43 rfl ?_
      obtain ⟨hp4, k⟩ := k
      refine U_callV1 [.int v4, .int (4 : Int32)] dX7_peakMinute_44 ov_X7_59 s_26 rfl ⟨rfl, rfl, rfl⟩ rfl rfl rfl (tX5_at s_26 s_27 (by decide) hp4 ?_)
      refine U_istore (L2 := [.ref 29, .int v1, .int v2, .int v3, .int v4, .int (rat I 26 27 v4 (4 : Int32)), .retAddr 0]) dX7_peakMinute_47 (by decide) rfl ?_
      refine V_aload_n dX7_peakMinute_49 rfl ?_
      refine V_iload_n dX7_peakMinute_50 rfl ?_
      refine V_iload dX7_peakMinute_51 rfl ?_
      refine U_callV1 [.int v1, .int (rat I 26 27 v4 (4 : Int32))] dX7_peakMinute_53 ov_X7_103 s_29 rfl ⟨rfl, rfl, rfl⟩ rfl rfl rfl (CallI_mono k (fun x5 I6 J7 k => ?_))
      refine U_istore (L2 := [.ref 29, .int v1, .int v2, .int v3, .int v4, .int (rat I 26 27 v4 (4 : Int32)), .int x5]) dX7_peakMinute_56 (by decide) rfl ?_
      refine V_iload dX7_peakMinute_58 rfl ?_
      refine V_iload_n dX7_peakMinute_60 rfl ?_
      have key8 : ∀ (y2009 : Int32) (y2010 : Int32), y2009 = (if v3 < x5 then (rat I 26 27 v4 (4 : Int32)) else (if ¬ x5 = v3 then v2 else (if v2 ≤ (rat I 26 27 v4 (4 : Int32)) then v2 else (rat I 26 27 v4 (4 : Int32))))) → y2010 = (if v3 < x5 then x5 else (if ¬ x5 = v3 then v3 else (if v2 ≤ (rat I 26 27 v4 (4 : Int32)) then v3 else x5))) → V E mX7_peakMinute (kI SH P) 82 [.ref 29, .int v1, .int y2009, .int y2010, .int v4, .int (rat I 26 27 v4 (4 : Int32)), .int x5] [] (SH, I6, J7) (0, 0) := by
        intro y2009 y2010 ey2009 ey2010
        subst ey2009
        subst ey2010
        refine U_iinc (v := v4 + (1 : Int32)) (L2 := [.ref 29, .int v1, .int (if v3 < x5 then (rat I 26 27 v4 (4 : Int32)) else (if ¬ x5 = v3 then v2 else (if v2 ≤ (rat I 26 27 v4 (4 : Int32)) then v2 else (rat I 26 27 v4 (4 : Int32))))), .int (if v3 < x5 then x5 else (if ¬ x5 = v3 then v3 else (if v2 ≤ (rat I 26 27 v4 (4 : Int32)) then v3 else x5))), .int (v4 + (1 : Int32)), .int (rat I 26 27 v4 (4 : Int32)), .int x5]) dX7_peakMinute_82 (by decide) rfl rfl rfl ?_
        refine V_goto dX7_peakMinute_85 ?_
        exact V_wk (wk_eq (wk_eq (wk_eq (wk_eq (wk_eq (wk_j (wk_j (wk_nil)))))))) k
      refine V_icmp_gt dX7_peakMinute_61 (fun c2011 => ?_) (fun c2011 => ?_)
      · refine V_iload dX7_peakMinute_76 rfl ?_
        refine U_istore_n (L2 := [.ref 29, .int v1, .int (rat I 26 27 v4 (4 : Int32)), .int v3, .int v4, .int (rat I 26 27 v4 (4 : Int32)), .int x5]) dX7_peakMinute_78 (by decide) rfl ?_
        refine V_iload dX7_peakMinute_79 rfl ?_
        refine U_istore_n (L2 := [.ref 29, .int v1, .int (rat I 26 27 v4 (4 : Int32)), .int x5, .int v4, .int (rat I 26 27 v4 (4 : Int32)), .int x5]) dX7_peakMinute_81 (by decide) rfl ?_
        exact key8 _ _ (by rw [if_pos c2011]) (by rw [if_pos c2011])
      · refine V_iload dX7_peakMinute_64 rfl ?_
        refine V_iload_n dX7_peakMinute_66 rfl ?_
        refine V_icmp_ne dX7_peakMinute_67 (fun c2012 => ?_) (fun c2012 => ?_)
        · exact key8 _ _ (by rw [if_neg c2011, if_pos c2012]) (by rw [if_neg c2011, if_pos c2012])
        · refine V_iload dX7_peakMinute_70 rfl ?_
          refine V_iload_n dX7_peakMinute_72 rfl ?_
          refine V_icmp_ge dX7_peakMinute_73 (fun c2013 => ?_) (fun c2013 => ?_)
          · exact key8 _ _ (by rw [if_neg c2011, if_neg (not_not_intro c2012), if_pos c2013]) (by rw [if_neg c2011, if_neg (not_not_intro c2012), if_pos c2013])
          · refine V_iload dX7_peakMinute_76 rfl ?_
            refine U_istore_n (L2 := [.ref 29, .int v1, .int (rat I 26 27 v4 (4 : Int32)), .int v3, .int v4, .int (rat I 26 27 v4 (4 : Int32)), .int x5]) dX7_peakMinute_78 (by decide) rfl ?_
            refine V_iload dX7_peakMinute_79 rfl ?_
            refine U_istore_n (L2 := [.ref 29, .int v1, .int (rat I 26 27 v4 (4 : Int32)), .int x5, .int v4, .int (rat I 26 27 v4 (4 : Int32)), .int x5]) dX7_peakMinute_81 (by decide) rfl ?_
            exact key8 _ _ (by rw [if_neg c2011, if_neg (not_not_intro c2012), if_neg c2013]) (by rw [if_neg c2011, if_neg (not_not_intro c2012), if_neg c2013])
    · have k := k.2 c3
      refine V_goto dX7_peakMinute_34 ?_
      refine U_iinc (v := v4 + (1 : Int32)) (L2 := [.ref 29, .int v1, .int v2, .int v3, .int (v4 + (1 : Int32)), .retAddr 0, .retAddr 0]) dX7_peakMinute_82 (by decide) rfl rfl rfl ?_
      refine V_goto dX7_peakMinute_85 ?_
      exact k
theorem peakX_loop {E : aE} {P : Int32 → hI_ → hJ_ → Prop} {I0 I : hI_} {J : hJ_} {p : Nat} (h : Rel I0) (hs : SX I0 I (fun _ => true)) (k : ∀ b, pkO I0 p b → P (nI b) I J) : ∀ (m n b : Nat), n + m = nD I0 → pkN I0 p n b → HX7_peakMinute_12 E P (nI p) (nI b) (dbt I0 p b (nD I0)) (nI n) I J
  | 0, n, b, hn, hb => by
    have hD := Rel_D h
    have e : n = nD I0 := by omega
    rw [e] at hb
    refine wX7_peakMinute_12 ?_
    rw [hs.1 26 rfl, hD.1, e]
    exact ⟨fun _ => k b (pkN_O h hb), fun z => absurd (nI_le (Nat.le_refl _) (by omega)) z⟩
  | m + 1, n, b, hn, hb => by
    have hD := Rel_D h
    have hnn : n < nD I0 := by omega
    have ok := deal_ok h hnn
    have tl := tk_le h hnn
    have hR := Rel_agX hs.1 h
    have bl := pkN_le h (by omega) hb
    have rc := fun b2 h2 => peakX_loop (E := E) h hs k m (n + 1) b2 (by omega) h2
    refine wX7_peakMinute_12 ?_
    rw [hs.1 26 rfl, hD.1, (deal_atX h hs.1 hnn).2.2.2.2, nI_clamp (by omega), hs.2.2 n hnn rfl, nI_1 n]
    refine ⟨fun z => absurd z (nI_ge (by omega) (by omega)), fun _ => ⟨vp_in_nI (by omega) (by omega), fun z => ⟨(Rel_rows hR).2.2, tX7_debt h hs (by omega) ?_⟩, fun z => rc b (pkN_skip hb ((nI_eqI (b := 0) (by omega) (by omega)).mp z))⟩⟩
    have ht : tk I0 n ≠ 0 := fun y => z (by rw [y]; rfl)
    have ba : (nI b ≤ nI (aD I0 n)) ↔ b ≤ aD I0 n := nI_leJ (by omega) (by omega)
    by_cases y : dbt I0 p b (nD I0) < dbt I0 p (aD I0 n) (nD I0)
    · rw [if_pos y, if_pos y]
      exact rc _ (pkN_new hb ht (Or.inl (Int32.lt_iff_toInt_lt.mp y)))
    · rw [if_neg y, if_neg y]
      have y' : dT I0 p (aD I0 n) ≤ dT I0 p b := Int.not_lt.mp (fun q => y (Int32.lt_iff_toInt_lt.mpr q))
      by_cases w : dbt I0 p (aD I0 n) (nD I0) = dbt I0 p b (nD I0)
      · rw [if_neg (show ¬ ¬ dbt I0 p (aD I0 n) (nD I0) = dbt I0 p b (nD I0) from fun v => v w), if_neg (show ¬ ¬ dbt I0 p (aD I0 n) (nD I0) = dbt I0 p b (nD I0) from fun v => v w)]
        by_cases v : b ≤ aD I0 n
        · rw [if_pos (ba.mpr v), if_pos (ba.mpr v)]
          exact rc b (pkN_keep hb ⟨y', fun _ => v⟩)
        · rw [if_neg (fun q => v (ba.mp q)), if_neg (fun q => v (ba.mp q))]
          exact rc _ (pkN_new hb ht (Or.inr ⟨by unfold dT; rw [w], by omega⟩))
      · rw [if_pos w, if_pos w]
        refine rc b (pkN_keep hb ⟨y', fun q => absurd (Int32.toInt_inj.mp q) w⟩)
def HX12_peak_39 (E : aE) (P : Int32 → hI_ → hJ_ → Prop) (v1 : Int32) (v2 : Int32) (v3 : Int32) (v4 : Int32) (v5 : Int32) (I : hI_) (J : hJ_) : Prop := V E mX12_peak (kI SH P) 39 [.ref 68, .int v1, .int v2, .int v3, .int v4, .int v5, .retAddr 0] [] (SH, I, J) (0, 0)
set_option maxHeartbeats 4000000 in
set_option maxRecDepth 20000 in
theorem wX12_peak {E : aE} {P : Int32 → hI_ → hJ_ → Prop} {I : hI_} {J : hJ_} {a0 : Int32} {a1 : Int32} (k : ((¬ (0 ≤ a0 ∧ a0 ≤ I 73 0 - 1) → P (-1000000 : Int32) I J) ∧ ((0 ≤ a0 ∧ a0 ≤ I 73 0 - 1) → ((((0 : Int32) ≤ a1 ∧ a1 ≤ (1 : Int32)) → CallV E mX12_layStruck [.ref 68] SH I J (fun I4 J5 => CallI E mX12_owed [.ref 68, .int a0, .int (0 : Int32)] SH I4 J5 (fun x6 I7 J8 => HX12_peak_39 E P a0 a1 (0 : Int32) x6 (1 : Int32) I7 J8))) ∧ (¬ (((0 : Int32) ≤ a1 ∧ a1 ≤ (1 : Int32))) → P (-1000000 : Int32) I J))))) : CallI E mX12_peak [.ref 68, .int a0, .int a1] SH I J P := by
  refine Call_of (L := [.ref 68, .int a0, .int a1, .retAddr 0, .retAddr 0, .retAddr 0, .retAddr 0]) ok_X12_peak.1 rfl rfl ?_
  refine V_aload_n dX12_peak_0 rfl ?_
  refine V_iload_n dX12_peak_1 rfl ?_
  refine U_callV1 [.int a0] dX12_peak_2 ov_X12_167 s_68 rfl ⟨rfl, rfl, rfl⟩ rfl rfl rfl (tX12_isPlace ?_)
  refine U_ifb_eq dX12_peak_5 (fun c1 => ?_) (fun c1 => ?_)
  · have k := k.1 c1
    refine V_ldc_w (v := (-1000000 : Int32)) dX12_peak_18 (gt_6 188 rfl rfl) ?_
    exact V_iret dX12_peak_21 ⟨_, rfl, rfl⟩ rfl rfl ⟨_, _, _, rfl, rfl, k⟩
  · have k := k.2 c1
    refine V_iload_n dX12_peak_8 rfl ?_
    refine V_i2l dX12_peak_9 ?_
    refine V_lconst (v := (0 : Int64)) dX12_peak_10 rfl ?_
    refine V_lconst (v := (1 : Int64)) dX12_peak_11 rfl ?_
    refine U_callS1 [.long a1.toInt64, .long (0 : Int64), .long (1 : Int64)] dX12_peak_12 os_X12_91 ⟨rfl, rfl, rfl⟩ rfl rfl rfl (tX12_in32 (v := a1) (lo := (0 : Int32)) (hi := (1 : Int32)) rfl (by decide) (by decide) ?_)
    refine U_ifb_ne dX12_peak_15 (fun c2 => ?_) (fun c2 => ?_)
    · have k := k.1 c2
      refine V_aload_n dX12_peak_22 rfl ?_
      refine U_callV0 [] dX12_peak_23 ov_X12_218 s_68 rfl ⟨rfl, rfl, rfl⟩ rfl rfl rfl (CallV_mono k (fun I4 J5 k => ?_))
      refine V_iconst (v := (0 : Int32)) dX12_peak_26 rfl ?_
      refine U_istore_n (L2 := [.ref 68, .int a0, .int a1, .int (0 : Int32), .retAddr 0, .retAddr 0, .retAddr 0]) dX12_peak_27 (by decide) rfl ?_
      refine V_aload_n dX12_peak_28 rfl ?_
      refine V_iload_n dX12_peak_29 rfl ?_
      refine V_iconst (v := (0 : Int32)) dX12_peak_30 rfl ?_
      refine U_callV1 [.int a0, .int (0 : Int32)] dX12_peak_31 ov_X12_248 s_68 rfl ⟨rfl, rfl, rfl⟩ rfl rfl rfl (CallI_mono k (fun x6 I7 J8 k => ?_))
      refine U_istore (L2 := [.ref 68, .int a0, .int a1, .int (0 : Int32), .int x6, .retAddr 0, .retAddr 0]) dX12_peak_34 (by decide) rfl ?_
      refine V_iconst (v := (1 : Int32)) dX12_peak_36 rfl ?_
      refine U_istore (L2 := [.ref 68, .int a0, .int a1, .int (0 : Int32), .int x6, .int (1 : Int32), .retAddr 0]) dX12_peak_37 (by decide) rfl ?_
      exact k
    · have k := k.2 c2
      refine V_ldc_w (v := (-1000000 : Int32)) dX12_peak_18 (gt_6 188 rfl rfl) ?_
      exact V_iret dX12_peak_21 ⟨_, rfl, rfl⟩ rfl rfl ⟨_, _, _, rfl, rfl, k⟩
set_option maxHeartbeats 4000000 in
set_option maxRecDepth 20000 in
theorem wX12_peak_39 {E : aE} {P : Int32 → hI_ → hJ_ → Prop} {I : hI_} {J : hJ_} {v1 : Int32} {v2 : Int32} {v3 : Int32} {v4 : Int32} {v5 : Int32} (k : (((999 : Int32) < v5 → P (if ¬ v2 = (0 : Int32) then v4 else v3) I J) ∧ (¬ ((999 : Int32) < v5) → CallI E mX12_owed [.ref 68, .int v1, .int v5] SH I J (fun x2005 I2006 J2007 => HX12_peak_39 E P v1 v2 (if x2005 ≤ v4 then v3 else v5) (if x2005 ≤ v4 then v4 else x2005) (v5 + (1 : Int32)) I2006 J2007)))) : HX12_peak_39 E P v1 v2 v3 v4 v5 I J := by
  show V E mX12_peak (kI SH P) 39 [.ref 68, .int v1, .int v2, .int v3, .int v4, .int v5, .retAddr 0] [] (SH, I, J) (0, 0)
  refine V_iload dX12_peak_39 rfl ?_
  refine V_sipush (v := (999 : Int32)) dX12_peak_41 rfl ?_
  refine V_icmp_gt dX12_peak_44 (fun c1 => ?_) (fun c1 => ?_)
  · have k := k.1 c1
    refine V_iload_n dX12_peak_92 rfl ?_
    have key2 : ∀ (y2003 : Int32), y2003 = (if ¬ v2 = (0 : Int32) then v4 else v3) → V E mX12_peak (kI SH P) 102 [.ref 68, .int v1, .int v2, .int v3, .int v4, .int v5, .retAddr 0] [.int y2003] (SH, I, J) (0, 0) := by
      intro y2003 ey2003
      subst ey2003
      exact V_iret dX12_peak_102 ⟨_, rfl, rfl⟩ rfl rfl ⟨_, _, _, rfl, rfl, k⟩
    refine V_if_ne dX12_peak_93 (fun c2004 => ?_) (fun c2004 => ?_)
    · refine V_iload dX12_peak_100 rfl ?_
      exact key2 _ (by rw [if_pos c2004])
    · refine V_iload_n dX12_peak_96 rfl ?_
      refine V_goto dX12_peak_97 ?_
      exact key2 _ (by rw [if_neg (not_not_intro c2004)])
  · have k := k.2 c1
    refine V_aload_n dX12_peak_47 rfl ?_
    refine V_iload_n dX12_peak_48 rfl ?_
    refine V_iload dX12_peak_49 rfl ?_
    refine U_callV1 [.int v1, .int v5] dX12_peak_51 ov_X12_248 s_68 rfl ⟨rfl, rfl, rfl⟩ rfl rfl rfl (CallI_mono k (fun x2005 I2006 J2007 k => ?_))
    refine U_istore (L2 := [.ref 68, .int v1, .int v2, .int v3, .int v4, .int v5, .int x2005]) dX12_peak_54 (by decide) rfl ?_
    refine V_iload dX12_peak_56 rfl ?_
    refine V_iload dX12_peak_58 rfl ?_
    have key2008 : ∀ (y4009 : Int32), y4009 = (if x2005 ≤ v4 then v3 else v5) → V E mX12_peak (kI SH P) 69 [.ref 68, .int v1, .int v2, .int v3, .int v4, .int v5, .int x2005] [.int y4009] (SH, I2006, J2007) (0, 0) := by
      intro y4009 ey4009
      subst ey4009
      refine U_istore_n (L2 := [.ref 68, .int v1, .int v2, .int (if x2005 ≤ v4 then v3 else v5), .int v4, .int v5, .int x2005]) dX12_peak_69 (by decide) rfl ?_
      refine V_iload dX12_peak_70 rfl ?_
      refine V_iload dX12_peak_72 rfl ?_
      have key4010 : ∀ (y6011 : Int32), y6011 = (if x2005 ≤ v4 then v4 else x2005) → V E mX12_peak (kI SH P) 84 [.ref 68, .int v1, .int v2, .int (if x2005 ≤ v4 then v3 else v5), .int v4, .int v5, .int x2005] [.int y6011] (SH, I2006, J2007) (0, 0) := by
        intro y6011 ey6011
        subst ey6011
        refine U_istore (L2 := [.ref 68, .int v1, .int v2, .int (if x2005 ≤ v4 then v3 else v5), .int (if x2005 ≤ v4 then v4 else x2005), .int v5, .int x2005]) dX12_peak_84 (by decide) rfl ?_
        refine U_iinc (v := v5 + (1 : Int32)) (L2 := [.ref 68, .int v1, .int v2, .int (if x2005 ≤ v4 then v3 else v5), .int (if x2005 ≤ v4 then v4 else x2005), .int (v5 + (1 : Int32)), .int x2005]) dX12_peak_86 (by decide) rfl rfl rfl ?_
        refine V_goto dX12_peak_89 ?_
        exact V_wk (wk_eq (wk_eq (wk_eq (wk_eq (wk_eq (wk_eq (wk_j (wk_nil)))))))) k
      refine V_icmp_le dX12_peak_74 (fun c6012 => ?_) (fun c6012 => ?_)
      · refine V_iload dX12_peak_82 rfl ?_
        exact key4010 _ (by rw [if_pos c6012])
      · refine V_iload dX12_peak_77 rfl ?_
        refine V_goto dX12_peak_79 ?_
        exact key4010 _ (by rw [if_neg c6012])
    refine V_icmp_le dX12_peak_60 (fun c6013 => ?_) (fun c6013 => ?_)
    · refine V_iload_n dX12_peak_68 rfl ?_
      exact key2008 _ (by rw [if_pos c6013])
    · refine V_iload dX12_peak_63 rfl ?_
      refine V_goto dX12_peak_65 ?_
      exact key2008 _ (by rw [if_neg c6013])
theorem peakM_loop {E : aE} {P : Int32 → hI_ → hJ_ → Prop} {I0 I : hI_} {J : hJ_} {p : Nat} {w : Int32} (h : Rel I0) (hs : SM I0 I (fun _ => true)) (k : ∀ b, pkO I0 p b → P (if ¬ w = 0 then dbt I0 p b (nD I0) else nI b) I J) : ∀ (m t b : Nat), t + m = 1000 → b < t → (∀ u, u < t → dT I0 p u ≤ dT I0 p b) → (∀ u, u < b → dT I0 p u < dT I0 p b) → HX12_peak_39 E P (nI p) w (nI b) (dbt I0 p b (nD I0)) (nI t) I J
  | 0, t, b, ht, hb, h1, h2 => by
    refine wX12_peak_39 ⟨fun _ => k b ⟨by omega, fun u hu => h1 u (by omega), h2⟩, fun z => absurd (nI_lt (a := 999) (by omega) (by omega)) z⟩
  | m + 1, t, b, ht, hb, h1, h2 => by
    refine wX12_peak_39 ⟨fun z => absurd z (nI_nlt (a := 999) (by omega) (by omega)), fun _ => tX12_owed h hs (by omega) ?_⟩
    rw [nI_1 t]
    by_cases y : dbt I0 p t (nD I0) ≤ dbt I0 p b (nD I0)
    · rw [if_pos y, if_pos y]
      have y := Int32.le_iff_toInt_le.mp y
      refine peakM_loop h hs k m (t + 1) b (by omega) (by omega) (fun u hu => ?_) h2
      by_cases e : u = t
      · rw [e]; exact y
      · exact h1 u (by omega)
    · rw [if_neg y, if_neg y]
      have y' : dT I0 p b < dT I0 p t := Int.not_le.mp (fun q => y (Int32.le_iff_toInt_le.mpr q))
      refine peakM_loop h hs k m (t + 1) t (by omega) (by omega) (fun u hu => ?_) (fun u hu => ?_)
      · by_cases e : u = t
        · rw [e]; exact Int.le_refl _
        · have := h1 u (by omega); omega
      · have := h1 u hu; omega
theorem pkO_X {I I2 : hI_} (h : agX I I2) {p b : Nat} (hb : pkO I p b) : pkO I2 p b := by
  have e : ∀ t, dT I2 p t = dT I p t := fun t => by unfold dT; rw [dbt_X h, nD_X h]
  unfold pkO at hb ⊢
  simp only [e]
  exact hb
set_option maxHeartbeats 4000000 in
set_option maxRecDepth 20000 in
theorem wX11_peak {E : aE} {P : Int32 → hI_ → hJ_ → Prop} {I : hI_} {J : hJ_} {a0 : Int32} {a1 : Int32} (k : ((¬ (0 ≤ a0 ∧ a0 ≤ I 3 6 - 1) → P (-1000000 : Int32) I J) ∧ ((0 ≤ a0 ∧ a0 ≤ I 3 6 - 1) → ((((0 : Int32) ≤ a1 ∧ a1 ≤ (1 : Int32)) → CallV E mX7_settle [.ref 29] SH I J (fun I4 J5 => CallI E mX7_peakMinute [.ref 29, .int a0] SH I4 J5 (fun x6 I7 J8 => ((¬ a1 = (0 : Int32) → CallI E mX7_debt [.ref 29, .int a0, .int x6] SH I7 J8 (fun x10 I11 J12 => P x10 I11 J12)) ∧ (a1 = (0 : Int32) → P x6 I7 J8))))) ∧ (¬ (((0 : Int32) ≤ a1 ∧ a1 ≤ (1 : Int32))) → P (-1000000 : Int32) I J))))) : CallI E mX11_peak [.ref 0, .int a0, .int a1] SH I J P := by
  refine Call_of (L := [.ref 0, .int a0, .int a1, .retAddr 0]) ok_X11_peak.1 rfl rfl ?_
  refine V_aload_n dX11_peak_0 rfl ?_
  refine V_iload_n dX11_peak_1 rfl ?_
  refine U_callV1 [.int a0] dX11_peak_2 ov_X11_148 s_0 rfl ⟨rfl, rfl, rfl⟩ rfl rfl rfl (tX11_isPlace ?_)
  refine U_ifb_eq dX11_peak_5 (fun c1 => ?_) (fun c1 => ?_)
  · have k := k.1 c1
    refine V_ldc_w (v := (-1000000 : Int32)) dX11_peak_17 (gt_4 114 rfl rfl) ?_
    exact V_iret dX11_peak_20 ⟨_, rfl, rfl⟩ rfl rfl ⟨_, _, _, rfl, rfl, k⟩
  · have k := k.2 c1
    refine V_iload_n dX11_peak_8 rfl ?_
    refine V_iconst (v := (0 : Int32)) dX11_peak_9 rfl ?_
    refine V_iconst (v := (1 : Int32)) dX11_peak_10 rfl ?_
    refine U_callS1 [.int a1, .int (0 : Int32), .int (1 : Int32)] dX11_peak_11 os_X11_104 ⟨rfl, rfl, rfl⟩ rfl rfl rfl (tX11_within ?_)
    refine U_ifb_ne dX11_peak_14 (fun c2 => ?_) (fun c2 => ?_)
    · have k := k.1 c2
      refine V_aload_n dX11_peak_21 rfl ?_
      refine U_getR dX11_peak_22 fl_X11_60 s_0 rfl ?_
      refine U_callV0 [] dX11_peak_25 ov_X11_215 s_29 rfl ⟨rfl, rfl, rfl⟩ rfl rfl rfl (CallV_mono k (fun I4 J5 k => ?_))
      refine V_aload_n dX11_peak_28 rfl ?_
      refine U_getR dX11_peak_29 fl_X11_60 s_0 rfl ?_
      refine V_iload_n dX11_peak_32 rfl ?_
      refine U_callV1 [.int a0] dX11_peak_33 ov_X11_275 s_29 rfl ⟨rfl, rfl, rfl⟩ rfl rfl rfl (CallI_mono k (fun x6 I7 J8 k => ?_))
      refine U_istore_n (L2 := [.ref 0, .int a0, .int a1, .int x6]) dX11_peak_36 (by decide) rfl ?_
      refine V_iload_n dX11_peak_37 rfl ?_
      refine V_if_ne dX11_peak_38 (fun c9 => ?_) (fun c9 => ?_)
      · have k := k.1 c9
        refine V_aload_n dX11_peak_45 rfl ?_
        refine U_getR dX11_peak_46 fl_X11_60 s_0 rfl ?_
        refine V_iload_n dX11_peak_49 rfl ?_
        refine V_iload_n dX11_peak_50 rfl ?_
        refine U_callV1 [.int a0, .int x6] dX11_peak_51 ov_X11_266 s_29 rfl ⟨rfl, rfl, rfl⟩ rfl rfl rfl (CallI_mono k (fun x10 I11 J12 k => ?_))
        exact V_iret dX11_peak_54 ⟨_, rfl, rfl⟩ rfl rfl ⟨_, _, _, rfl, rfl, k⟩
      · have k := k.2 c9
        refine V_iload_n dX11_peak_41 rfl ?_
        refine V_goto dX11_peak_42 ?_
        exact V_iret dX11_peak_54 ⟨_, rfl, rfl⟩ rfl rfl ⟨_, _, _, rfl, rfl, k⟩
    · have k := k.2 c2
      refine V_ldc_w (v := (-1000000 : Int32)) dX11_peak_17 (gt_4 114 rfl rfl) ?_
      exact V_iret dX11_peak_20 ⟨_, rfl, rfl⟩ rfl rfl ⟨_, _, _, rfl, rfl, k⟩
theorem op_peak {E : aE} {I : hI_} {J : hJ_} {P : hI_ → hJ_ → Prop} {a0 a1 : Int32} (h : Rel I) (hP : ∀ I2 J2, Rel I2 → P I2 J2) : Op2 E mX11_peak mX12_peak [.int a0, .int a1] I J P := by
  have hp := Rel_P h
  have e := Rel_pl h
  have kI := hP I J h
  refine wX11_peak ⟨fun c1 => wX12_peak ⟨fun _ => ⟨rfl, kI⟩, fun d => absurd (by rw [e]; exact d) c1⟩, fun c1 => ⟨fun c2 => ?_, fun c2 => wX12_peak ⟨fun _ => ⟨rfl, kI⟩, fun _ => ⟨fun d => absurd d c2, fun _ => ⟨rfl, kI⟩⟩⟩⟩⟩
  rw [e] at c1
  have c1' := c1
  rw [hp.2.1] at c1'
  obtain ⟨x, hx, rfl⟩ := in_lt (by omega) c1'
  refine tX7_settle h (fun I2 hs => ?_)
  have hR := Rel_agX hs.1 h
  have d1 : 0 ≤ nI x ∧ nI x ≤ I2 73 0 - 1 := by rw [hs.1 73 rfl]; exact c1
  have hM : ∀ (b : Nat) (v : Int32), pkO I x b → v = (if ¬ a1 = 0 then dbt I x b (nD I) else nI b) → CallI E mX12_peak [.ref 68, .int (nI x), .int a1] SH I2 J (fun r2 I3 J3 => v = r2 ∧ P I3 J3) := fun b v hb hv => by
    refine wX12_peak ⟨fun d => absurd d1 d, fun _ => ⟨fun _ => ?_, fun d => absurd c2 d⟩⟩
    refine tX12_layStruck hR (fun I4 hm => tX12_owed (t := 0) hR hm (by omega) ?_)
    refine peakM_loop hR hm (fun b2 hb2 => ⟨?_, hP I4 J (Rel_agM hm.1 hR)⟩) 999 1 0 (by omega) (by omega) (fun u hu => ?_) (fun u hu => by omega)
    · have : u = 0 := by omega
      rw [this]; exact Int.le_refl _
    · have e2 := pkO_eq hb2 (pkO_X hs.1 hb)
      rw [hv, e2, dbt_X hs.1, nD_X hs.1]
  refine wX7_peakMinute (tX7_debt (t := 0) h hs (by omega) ?_)
  refine peakX_loop h hs (fun b hb => ?_) (nD I) 0 0 (by omega) ⟨Or.inl rfl, Int.le_refl _, fun _ => rfl, fun d hd => by omega⟩
  refine ⟨fun z => ?_, fun z => ?_⟩
  · have := hb.1
    refine tX7_debt h hs (by omega) (hM b _ hb ?_)
    rw [if_pos z]
  · refine hM b _ hb ?_
    rw [if_neg (fun v => v z)]
