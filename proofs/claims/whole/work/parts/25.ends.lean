/-! until when a call stands -/
def cOK (I : hI_) (c : Int32) : Prop := Rel I ∧ ∃ k : Nat, k < nC I ∧ c = nI k
def cK (I : hI_) (c j : Nat) : Int32 := I 82 (72 + 8 * c + j)
/-- the minute of taking back; 10000: never -/
def bkN (I : hI_) (c : Nat) : Nat := if cK I c 7 = 0 then 10000 else (cK I c 7).toInt.toNat - 1
/-- the price at a minute is further from that at the call's own than its number says -/
def offB (I : hI_) (c t : Nat) : Bool := decide ((cK I c 6).toInt < (prc I (cK I c 0) (nI t)).toInt - (prc I (cK I c 0) (cK I c 1)).toInt ∨ (cK I c 6).toInt < (prc I (cK I c 0) (cK I c 1)).toInt - (prc I (cK I c 0) (nI t)).toInt)
def mN (I : hI_) (c : Nat) : Nat := (cK I c 1).toInt.toNat
/-- the first minute behind the call's own at which the price is off; 1000: none -/
def foN (I : hI_) (c : Nat) : Nat := opn (fun t => !offB I c t) (999 - mN I c) (mN I c + 1)
/-- the first minute from its own on in which a call stands no more; 10000: never -/
def endN (I : hI_) (c : Nat) : Nat := if cK I c 5 = 1 then min (bkN I c) ((cK I c 6).toInt.toNat + 1) else if cK I c 5 = 2 then (if foN I c < min (bkN I c) 1000 then foN I c else bkN I c) else bkN I c
def lu (I : hI_) (c : Nat) : Nat := min (endN I c) 1000
def stB (I : hI_) (c t : Int32) : Bool := decide (its I c 1 ≤ t ∧ t < nI (lu I c.toNatClampNeg))
theorem cOK_12 {I : hI_} {c : Int32} (h : cOK I c) (j : Nat) (hj : j < 8) : inC c (nI j) := by
  obtain ⟨h1, k, hk, rfl⟩ := h
  exact inC_nI (by have := (Rel_C h1).2.2; omega) hj
/-- a call's numbers -/
theorem cK_bet {I : hI_} (h : Rel I) {c : Nat} (hc : c < nC I) : bet 0 (cK I c 0) (nP I - 1) ∧ bet 0 (cK I c 1) 999 ∧ bet 0 (cK I c 2) 1 ∧ bet 1 (cK I c 3) 999 ∧ bet 1 (cK I c 4) 99 ∧ bet 0 (cK I c 5) 2 ∧ (cK I c 5 = 1 → bet (cK I c 1).toInt (cK I c 6) 999) ∧ (cK I c 5 = 2 → bet 0 (cK I c 6) 999) ∧ (cK I c 5 = 0 → cK I c 6 = 0) := by
  obtain ⟨e, hb, -⟩ := Rel_call h hc
  unfold callB at hb
  have e0 := (e 0 (by omega)).2
  simp only [Nat.add_zero] at e0
  rw [e0, (e 1 (by omega)).2, (e 2 (by omega)).2, (e 3 (by omega)).2, (e 4 (by omega)).2, (e 5 (by omega)).2, (e 6 (by omega)).2] at hb
  exact hb
theorem cK_place {I : hI_} (h : Rel I) {c : Nat} (hc : c < nC I) : prOK I (cK I c 0) := by
  have hb := (cK_bet h hc).1
  exact ⟨h, (cK I c 0).toInt.toNat, by have := hb.1; have := hb.2; omega, ofT hb.1⟩
theorem cK_min {I : hI_} (h : Rel I) {c : Nat} (hc : c < nC I) : cK I c 1 = nI (mN I c) ∧ mN I c ≤ 999 := by
  have hb := (cK_bet h hc).2.1
  exact ⟨ofT hb.1, by unfold mN; have := hb.2; omega⟩
/-- taking back, as both keep it -/
theorem cK_back {I : hI_} (h : Rel I) {c : Nat} (hc : c < nC I) : (bkN I c = 10000 ∧ cK I c 7 = 0 ∧ rat I 24 25 (nI c) 7 = -4) ∨ (mN I c ≤ bkN I c ∧ bkN I c ≤ 999 ∧ cK I c 7 = nI (bkN I c + 1) ∧ rat I 24 25 (nI c) 7 = nI (bkN I c)) := by
  obtain ⟨-, -, e7, hb⟩ := Rel_call h hc
  have hm := cK_min h hc
  rcases hb with ⟨h1, h2⟩ | ⟨h1, h2⟩
  · left
    refine ⟨?_, h2, e7.trans h1⟩
    unfold bkN
    rw [if_pos (show cK I c 7 = 0 from h2)]
  · right
    have hm1 : (I 82 (72 + 8 * c + 1)).toInt = mN I c := by
      have := hm.1
      unfold cK at this
      rw [this, nI_toInt (by omega)]
    have g1 := h1.1
    have g2 := h1.2
    rw [hm1] at g1
    have e : I 25 (8 * c + 7) = nI (I 25 (8 * c + 7)).toInt.toNat := ofT (by omega)
    have e2 : cK I c 7 = nI ((I 25 (8 * c + 7)).toInt.toNat + 1) := by
      show I 82 (72 + 8 * c + 7) = _
      rw [h2, e, nI_1, ← e]
    have e3 : bkN I c = (I 25 (8 * c + 7)).toInt.toNat := by
      unfold bkN
      rw [e2, if_neg (nI_ne0 (by omega) (by omega)), nI_toInt (by omega)]
      omega
    refine ⟨by omega, by omega, by rw [e2, e3], by rw [e7, e3]; exact e⟩
theorem its_cK {I : hI_} {c j : Nat} (hc : c < 12) (hj : j < 8) : its I (nI c) (nI j) = cK I c j := its_nI I hc hj
theorem tbk_N {I : hI_} (h : Rel I) {c : Nat} (hc : c < nC I) : tbk I (nI c) = nI (bkN I c) := by
  have h12 := (Rel_C h).2.2
  unfold tbk
  rw [show its I (nI c) 7 = cK I c 7 from its_cK (j := 7) (by omega) (by omega)]
  rcases cK_back h hc with ⟨h1, h2, -⟩ | ⟨h1, h2, h3, -⟩
  · rw [if_pos h2, h1]; rfl
  · rw [h3, if_neg (nI_ne0 (by omega) (by omega))]
    exact nI_pred _
theorem prc_bet {I : hI_} {p t : Int32} (hp : prOK I p) : bet 1 (prc I p t) 999 := by
  obtain ⟨h, x, hx, rfl⟩ := hp
  have hP := Rel_P h
  unfold prc
  rw [nI_clamp (by omega)]
  exact prS_bet (h.2.1.2.2.2.2.2.2.2.1 x (by rw [hP.2.1, nI_toInt (by omega)]; omega)).2 (nS I) (fun j hj => (Rel_step h hj).2.2.2)
/-- between steps the price stands still -/
theorem prc_still {I : hI_} (h : Rel I) {p : Int32} {t : Nat} (ht : t + 1 ≤ 10000) (hn : ∀ k, k < nS I → I 82 (3 * k) = p → I 82 (3 * k + 1) ≠ nI (t + 1)) : prc I p (nI (t + 1)) = prc I p (nI t) := by
  unfold prc
  rw [prS_eq (nS I) (fun k hk hp => ?_)]
  have hb := (Rel_step h hk).2.2.1
  have e := ofT hb.1
  have g2 := hb.2
  have hne := hn k hk hp
  rw [e] at hne ⊢
  generalize hx : (I 82 (3 * k + 1)).toInt.toNat = x at hne ⊢
  have hx9 : x ≤ 999 := by omega
  have : x ≠ t + 1 := fun z => hne (by rw [z])
  rw [nI_leI (by omega) (by omega), nI_leI (by omega) (by omega)]
  omega
def HX1_lastUnmoved_36 (E : aE) (P : Int32 → hI_ → hJ_ → Prop) (v1 : Int32) (v2 : Int32) (v3 : Int32) (v4 : Int32) (v5 : Int32) (v6 : Int32) (I : hI_) (J : hJ_) : Prop := V E mX1_lastUnmoved (kI SH P) 36 [.ref 21, .int v1, .int v2, .int v3, .int v4, .int v5, .int v6, .retAddr 0] [] (SH, I, J) (0, 0)
set_option maxHeartbeats 4000000 in
set_option maxRecDepth 20000 in
theorem wX1_lastUnmoved {E : aE} {P : Int32 → hI_ → hJ_ → Prop} {I : hI_} {J : hJ_} {a0 : Int32} (k : (rok I 24 8 12) ∧ (rok I 24 8 12) ∧ (prOK I (rat I 24 25 a0 (0 : Int32))) ∧ HX1_lastUnmoved_36 E P a0 (rat I 24 25 a0 (0 : Int32)) (rat I 24 25 a0 (1 : Int32)) (prc I (rat I 24 25 a0 (0 : Int32)) (rat I 24 25 a0 (1 : Int32))) (999 : Int32) (0 : Int32) I J) : CallI E mX1_lastUnmoved [.ref 21, .int a0] SH I J P := by
  refine Call_of (L := [.ref 21, .int a0, .retAddr 0, .retAddr 0, .retAddr 0, .retAddr 0, .retAddr 0, .retAddr 0]) ok_X1_lastUnmoved.1 rfl rfl ?_
  refine V_aload_n dX1_lastUnmoved_0 rfl ?_
  refine U_getR dX1_lastUnmoved_1 fl_X1_20 s_21 rfl ?_
  refine V_iload_n dX1_lastUnmoved_4 rfl ?_
  refine V_iconst (v := (0 : Int32)) dX1_lastUnmoved_5 rfl ?_
  obtain ⟨hp1, k⟩ := k
  refine U_callV1 [.int a0, .int (0 : Int32)] dX1_lastUnmoved_6 ov_X1_44 s_24 rfl ⟨rfl, rfl, rfl⟩ rfl rfl rfl (tX5_at s_24 s_25 (by decide) hp1 ?_)
  refine U_istore_n (L2 := [.ref 21, .int a0, .int (rat I 24 25 a0 (0 : Int32)), .retAddr 0, .retAddr 0, .retAddr 0, .retAddr 0, .retAddr 0]) dX1_lastUnmoved_9 (by decide) rfl ?_
  refine V_aload_n dX1_lastUnmoved_10 rfl ?_
  refine U_getR dX1_lastUnmoved_11 fl_X1_20 s_21 rfl ?_
  refine V_iload_n dX1_lastUnmoved_14 rfl ?_
  refine V_iconst (v := (1 : Int32)) dX1_lastUnmoved_15 rfl ?_
  obtain ⟨hp2, k⟩ := k
  refine U_callV1 [.int a0, .int (1 : Int32)] dX1_lastUnmoved_16 ov_X1_44 s_24 rfl ⟨rfl, rfl, rfl⟩ rfl rfl rfl (tX5_at s_24 s_25 (by decide) hp2 ?_)
  refine U_istore_n (L2 := [.ref 21, .int a0, .int (rat I 24 25 a0 (0 : Int32)), .int (rat I 24 25 a0 (1 : Int32)), .retAddr 0, .retAddr 0, .retAddr 0, .retAddr 0]) dX1_lastUnmoved_19 (by decide) rfl ?_
  refine V_aload_n dX1_lastUnmoved_20 rfl ?_
  refine V_iload_n dX1_lastUnmoved_21 rfl ?_
  refine V_iload_n dX1_lastUnmoved_22 rfl ?_
  obtain ⟨hp3, k⟩ := k
  refine U_callV1 [.int (rat I 24 25 a0 (0 : Int32)), .int (rat I 24 25 a0 (1 : Int32))] dX1_lastUnmoved_23 ov_X1_57 s_21 rfl ⟨rfl, rfl, rfl⟩ rfl rfl rfl (tX1_priceAt hp3 ?_)
  refine U_istore (L2 := [.ref 21, .int a0, .int (rat I 24 25 a0 (0 : Int32)), .int (rat I 24 25 a0 (1 : Int32)), .int (prc I (rat I 24 25 a0 (0 : Int32)) (rat I 24 25 a0 (1 : Int32))), .retAddr 0, .retAddr 0, .retAddr 0]) dX1_lastUnmoved_26 (by decide) rfl ?_
  refine V_sipush (v := (999 : Int32)) dX1_lastUnmoved_28 rfl ?_
  refine U_istore (L2 := [.ref 21, .int a0, .int (rat I 24 25 a0 (0 : Int32)), .int (rat I 24 25 a0 (1 : Int32)), .int (prc I (rat I 24 25 a0 (0 : Int32)) (rat I 24 25 a0 (1 : Int32))), .int (999 : Int32), .retAddr 0, .retAddr 0]) dX1_lastUnmoved_31 (by decide) rfl ?_
  refine V_iconst (v := (0 : Int32)) dX1_lastUnmoved_33 rfl ?_
  refine U_istore (L2 := [.ref 21, .int a0, .int (rat I 24 25 a0 (0 : Int32)), .int (rat I 24 25 a0 (1 : Int32)), .int (prc I (rat I 24 25 a0 (0 : Int32)) (rat I 24 25 a0 (1 : Int32))), .int (999 : Int32), .int (0 : Int32), .retAddr 0]) dX1_lastUnmoved_34 (by decide) rfl ?_
  exact k
set_option maxHeartbeats 4000000 in
set_option maxRecDepth 20000 in
theorem wX1_lastUnmoved_36 {E : aE} {P : Int32 → hI_ → hJ_ → Prop} {I : hI_} {J : hJ_} {v1 : Int32} {v2 : Int32} {v3 : Int32} {v4 : Int32} {v5 : Int32} {v6 : Int32} (k : (((I 22 3) ≤ v6 → P v5 I J) ∧ (¬ ((I 22 3) ≤ v6) → (rok I 22 3 24) ∧ (rok I 22 3 24) ∧ (((rat I 22 23 v6 (0 : Int32)) = v2) → (¬ ((rat I 22 23 v6 (1 : Int32)) ≤ v3)) → (¬ (v5 < (rat I 22 23 v6 (1 : Int32)))) → prOK I v2) ∧ (((rat I 22 23 v6 (0 : Int32)) = v2) → (¬ ((rat I 22 23 v6 (1 : Int32)) ≤ v3)) → (¬ (v5 < (rat I 22 23 v6 (1 : Int32)))) → rok I 24 8 12) ∧ HX1_lastUnmoved_36 E P v1 v2 v3 v4 (if ¬ (rat I 22 23 v6 (0 : Int32)) = v2 then v5 else (if (rat I 22 23 v6 (1 : Int32)) ≤ v3 then v5 else (if v5 < (rat I 22 23 v6 (1 : Int32)) then v5 else (if (jabs ((prc I v2 (rat I 22 23 v6 (1 : Int32))) - v4)) ≤ (rat I 24 25 v1 (6 : Int32)) then v5 else ((rat I 22 23 v6 (1 : Int32)) - (1 : Int32)))))) (v6 + (1 : Int32)) I J))) : HX1_lastUnmoved_36 E P v1 v2 v3 v4 v5 v6 I J := by
  show V E mX1_lastUnmoved (kI SH P) 36 [.ref 21, .int v1, .int v2, .int v3, .int v4, .int v5, .int v6, .retAddr 0] [] (SH, I, J) (0, 0)
  refine V_iload dX1_lastUnmoved_36 rfl ?_
  refine V_aload_n dX1_lastUnmoved_38 rfl ?_
  refine U_getR dX1_lastUnmoved_39 fl_X1_14 s_21 rfl ?_
  refine U_getI dX1_lastUnmoved_42 fl_X1_30 s_22 rfl ?_
  refine V_icmp_ge dX1_lastUnmoved_45 (fun c1 => ?_) (fun c1 => ?_)
  · have k := k.1 c1
    refine V_iload dX1_lastUnmoved_125 rfl ?_
    exact V_iret dX1_lastUnmoved_127 ⟨_, rfl, rfl⟩ rfl rfl ⟨_, _, _, rfl, rfl, k⟩
  · have k := k.2 c1
    refine V_aload_n dX1_lastUnmoved_48 rfl ?_
    refine U_getR dX1_lastUnmoved_49 fl_X1_14 s_21 rfl ?_
    refine V_iload dX1_lastUnmoved_52 rfl ?_
    refine V_iconst (v := (1 : Int32)) dX1_lastUnmoved_54 rfl ?_
    obtain ⟨hp2, k⟩ := k
    refine U_callV1 [.int v6, .int (1 : Int32)] dX1_lastUnmoved_55 ov_X1_44 s_22 rfl ⟨rfl, rfl, rfl⟩ rfl rfl rfl (tX5_at s_22 s_23 (by decide) hp2 ?_)
    refine U_istore (L2 := [.ref 21, .int v1, .int v2, .int v3, .int v4, .int v5, .int v6, .int (rat I 22 23 v6 (1 : Int32))]) dX1_lastUnmoved_58 (by decide) rfl ?_
    refine V_aload_n dX1_lastUnmoved_60 rfl ?_
    refine U_getR dX1_lastUnmoved_61 fl_X1_14 s_21 rfl ?_
    refine V_iload dX1_lastUnmoved_64 rfl ?_
    refine V_iconst (v := (0 : Int32)) dX1_lastUnmoved_66 rfl ?_
    obtain ⟨hp3, k⟩ := k
    refine U_callV1 [.int v6, .int (0 : Int32)] dX1_lastUnmoved_67 ov_X1_44 s_22 rfl ⟨rfl, rfl, rfl⟩ rfl rfl rfl (tX5_at s_22 s_23 (by decide) hp3 ?_)
    refine V_iload_n dX1_lastUnmoved_70 rfl ?_
    obtain ⟨hc2008, hc2009, k⟩ := k
    have key4 : ∀ (y2007 : Int32), y2007 = (if ¬ (rat I 22 23 v6 (0 : Int32)) = v2 then v5 else (if (rat I 22 23 v6 (1 : Int32)) ≤ v3 then v5 else (if v5 < (rat I 22 23 v6 (1 : Int32)) then v5 else (if (jabs ((prc I v2 (rat I 22 23 v6 (1 : Int32))) - v4)) ≤ (rat I 24 25 v1 (6 : Int32)) then v5 else ((rat I 22 23 v6 (1 : Int32)) - (1 : Int32)))))) → V E mX1_lastUnmoved (kI SH P) 119 [.ref 21, .int v1, .int v2, .int v3, .int v4, .int y2007, .int v6, .int (rat I 22 23 v6 (1 : Int32))] [] (SH, I, J) (0, 0) := by
      intro y2007 ey2007
      subst ey2007
      refine U_iinc (v := v6 + (1 : Int32)) (L2 := [.ref 21, .int v1, .int v2, .int v3, .int v4, .int (if ¬ (rat I 22 23 v6 (0 : Int32)) = v2 then v5 else (if (rat I 22 23 v6 (1 : Int32)) ≤ v3 then v5 else (if v5 < (rat I 22 23 v6 (1 : Int32)) then v5 else (if (jabs ((prc I v2 (rat I 22 23 v6 (1 : Int32))) - v4)) ≤ (rat I 24 25 v1 (6 : Int32)) then v5 else ((rat I 22 23 v6 (1 : Int32)) - (1 : Int32)))))), .int (v6 + (1 : Int32)), .int (rat I 22 23 v6 (1 : Int32))]) dX1_lastUnmoved_119 (by decide) rfl rfl rfl ?_
      refine V_goto dX1_lastUnmoved_122 ?_
      exact V_wk (wk_eq (wk_eq (wk_eq (wk_eq (wk_eq (wk_eq (wk_eq (wk_j (wk_nil))))))))) k
    refine V_icmp_ne dX1_lastUnmoved_71 (fun c2010 => ?_) (fun c2010 => ?_)
    · exact key4 _ (by rw [if_pos c2010])
    · refine V_iload_n dX1_lastUnmoved_74 rfl ?_
      refine V_iload dX1_lastUnmoved_75 rfl ?_
      refine V_icmp_ge dX1_lastUnmoved_77 (fun c2011 => ?_) (fun c2011 => ?_)
      · exact key4 _ (by rw [if_neg (not_not_intro c2010), if_pos c2011])
      · refine V_iload dX1_lastUnmoved_80 rfl ?_
        refine V_iload dX1_lastUnmoved_82 rfl ?_
        refine V_icmp_gt dX1_lastUnmoved_84 (fun c2012 => ?_) (fun c2012 => ?_)
        · exact key4 _ (by rw [if_neg (not_not_intro c2010), if_neg c2011, if_pos c2012])
        · refine V_aload_n dX1_lastUnmoved_87 rfl ?_
          refine V_iload_n dX1_lastUnmoved_88 rfl ?_
          refine V_iload dX1_lastUnmoved_89 rfl ?_
          have hp2005 := hc2008 c2010 c2011 c2012
          refine U_callV1 [.int v2, .int (rat I 22 23 v6 (1 : Int32))] dX1_lastUnmoved_91 ov_X1_57 s_21 rfl ⟨rfl, rfl, rfl⟩ rfl rfl rfl (tX1_priceAt hp2005 ?_)
          refine V_iload dX1_lastUnmoved_94 rfl ?_
          refine V_isub dX1_lastUnmoved_96 ?_
          refine V_mabs dX1_lastUnmoved_97 om_X1_60 rfl ?_
          refine V_aload_n dX1_lastUnmoved_100 rfl ?_
          refine U_getR dX1_lastUnmoved_101 fl_X1_20 s_21 rfl ?_
          refine V_iload_n dX1_lastUnmoved_104 rfl ?_
          refine V_bipush (v := (6 : Int32)) dX1_lastUnmoved_105 rfl ?_
          have hp2006 := hc2009 c2010 c2011 c2012
          refine U_callV1 [.int v1, .int (6 : Int32)] dX1_lastUnmoved_107 ov_X1_44 s_24 rfl ⟨rfl, rfl, rfl⟩ rfl rfl rfl (tX5_at s_24 s_25 (by decide) hp2006 ?_)
          refine V_icmp_le dX1_lastUnmoved_110 (fun c2013 => ?_) (fun c2013 => ?_)
          · exact key4 _ (by rw [if_neg (not_not_intro c2010), if_neg c2011, if_neg c2012, if_pos c2013])
          · refine V_iload dX1_lastUnmoved_113 rfl ?_
            refine V_iconst (v := (1 : Int32)) dX1_lastUnmoved_115 rfl ?_
            refine V_isub dX1_lastUnmoved_116 ?_
            refine U_istore (L2 := [.ref 21, .int v1, .int v2, .int v3, .int v4, .int ((rat I 22 23 v6 (1 : Int32)) - (1 : Int32)), .int v6, .int (rat I 22 23 v6 (1 : Int32))]) dX1_lastUnmoved_117 (by decide) rfl ?_
            exact key4 _ (by rw [if_neg (not_not_intro c2010), if_neg c2011, if_neg c2012, if_neg c2013])
def HX12_ends_76 (E : aE) (P : Int32 → hI_ → hJ_ → Prop) (v1 : Int32) (v2 : Int32) (v3 : Int32) (v4 : Int32) (I : hI_) (J : hJ_) : Prop := V E mX12_ends (kI SH P) 76 [.ref 68, .int v1, .int v2, .int v3, .int v4, .retAddr 0] [] (SH, I, J) (0, 0)
set_option maxHeartbeats 4000000 in
set_option maxRecDepth 20000 in
theorem wX12_ends {E : aE} {P : Int32 → hI_ → hJ_ → Prop} {I : hI_} {J : hJ_} {a0 : Int32} (k : (inC a0 7) ∧ (inC a0 (5 : Int32)) ∧ (((its I a0 (5 : Int32)) = (1 : Int32)) → inC a0 (6 : Int32)) ∧ (((its I a0 (5 : Int32)) = (1 : Int32)) → (¬ ((tbk I a0) ≤ ((its I a0 (6 : Int32)) + (1 : Int32)))) → inC a0 (6 : Int32)) ∧ (inC a0 (5 : Int32)) ∧ ((¬ (its I a0 (5 : Int32)) = (2 : Int32) → P (if ¬ (its I a0 (5 : Int32)) = (1 : Int32) then (tbk I a0) else (if (tbk I a0) ≤ ((its I a0 (6 : Int32)) + (1 : Int32)) then (tbk I a0) else ((its I a0 (6 : Int32)) + (1 : Int32)))) I J) ∧ ((its I a0 (5 : Int32)) = (2 : Int32) → (inC a0 (0 : Int32)) ∧ (inC a0 (1 : Int32)) ∧ (prOK I (its I a0 (0 : Int32))) ∧ (inC a0 (1 : Int32)) ∧ HX12_ends_76 E P a0 (if ¬ (its I a0 (5 : Int32)) = (1 : Int32) then (tbk I a0) else (if (tbk I a0) ≤ ((its I a0 (6 : Int32)) + (1 : Int32)) then (tbk I a0) else ((its I a0 (6 : Int32)) + (1 : Int32)))) (prc I (its I a0 (0 : Int32)) (its I a0 (1 : Int32))) ((its I a0 (1 : Int32)) + (1 : Int32)) I J))) : CallI E mX12_ends [.ref 68, .int a0] SH I J P := by
  refine Call_of (L := [.ref 68, .int a0, .retAddr 0, .retAddr 0, .retAddr 0, .retAddr 0]) ok_X12_ends.1 rfl rfl ?_
  refine V_aload_n dX12_ends_0 rfl ?_
  refine V_iload_n dX12_ends_1 rfl ?_
  obtain ⟨hp1, k⟩ := k
  refine U_callV1 [.int a0] dX12_ends_2 ov_X12_210 s_68 rfl ⟨rfl, rfl, rfl⟩ rfl rfl rfl (tX12_takenBack hp1 ?_)
  refine U_istore_n (L2 := [.ref 68, .int a0, .int (tbk I a0), .retAddr 0, .retAddr 0, .retAddr 0]) dX12_ends_5 (by decide) rfl ?_
  refine V_aload_n dX12_ends_6 rfl ?_
  refine V_iload_n dX12_ends_7 rfl ?_
  refine V_iconst (v := (5 : Int32)) dX12_ends_8 rfl ?_
  obtain ⟨hp2, k⟩ := k
  refine U_callV1 [.int a0, .int (5 : Int32)] dX12_ends_9 ov_X12_202 s_68 rfl ⟨rfl, rfl, rfl⟩ rfl rfl rfl (tX12_its hp2 ?_)
  refine V_iconst (v := (1 : Int32)) dX12_ends_12 rfl ?_
  obtain ⟨hc2007, hc2008, k⟩ := k
  have key3 : ∀ (y2006 : Int32), y2006 = (if ¬ (its I a0 (5 : Int32)) = (1 : Int32) then (tbk I a0) else (if (tbk I a0) ≤ ((its I a0 (6 : Int32)) + (1 : Int32)) then (tbk I a0) else ((its I a0 (6 : Int32)) + (1 : Int32)))) → V E mX12_ends (kI SH P) 39 [.ref 68, .int a0, .int y2006, .retAddr 0, .retAddr 0, .retAddr 0] [] (SH, I, J) (0, 0) := by
    intro y2006 ey2006
    subst ey2006
    refine V_aload_n dX12_ends_39 rfl ?_
    refine V_iload_n dX12_ends_40 rfl ?_
    refine V_iconst (v := (5 : Int32)) dX12_ends_41 rfl ?_
    obtain ⟨hp2009, k⟩ := k
    refine U_callV1 [.int a0, .int (5 : Int32)] dX12_ends_42 ov_X12_202 s_68 rfl ⟨rfl, rfl, rfl⟩ rfl rfl rfl (tX12_its hp2009 ?_)
    refine V_iconst (v := (2 : Int32)) dX12_ends_45 rfl ?_
    refine V_icmp_ne dX12_ends_46 (fun c2010 => ?_) (fun c2010 => ?_)
    · have k := k.1 c2010
      refine V_iload_n dX12_ends_144 rfl ?_
      exact V_iret dX12_ends_145 ⟨_, rfl, rfl⟩ rfl rfl ⟨_, _, _, rfl, rfl, k⟩
    · have k := k.2 c2010
      refine V_aload_n dX12_ends_49 rfl ?_
      refine V_aload_n dX12_ends_50 rfl ?_
      refine V_iload_n dX12_ends_51 rfl ?_
      refine V_iconst (v := (0 : Int32)) dX12_ends_52 rfl ?_
      obtain ⟨hp2011, k⟩ := k
      refine U_callV1 [.int a0, .int (0 : Int32)] dX12_ends_53 ov_X12_202 s_68 rfl ⟨rfl, rfl, rfl⟩ rfl rfl rfl (tX12_its hp2011 ?_)
      refine V_aload_n dX12_ends_56 rfl ?_
      refine V_iload_n dX12_ends_57 rfl ?_
      refine V_iconst (v := (1 : Int32)) dX12_ends_58 rfl ?_
      obtain ⟨hp2012, k⟩ := k
      refine U_callV1 [.int a0, .int (1 : Int32)] dX12_ends_59 ov_X12_202 s_68 rfl ⟨rfl, rfl, rfl⟩ rfl rfl rfl (tX12_its hp2012 ?_)
      obtain ⟨hp2013, k⟩ := k
      refine U_callV1 [.int (its I a0 (0 : Int32)), .int (its I a0 (1 : Int32))] dX12_ends_62 ov_X12_193 s_68 rfl ⟨rfl, rfl, rfl⟩ rfl rfl rfl (tX12_priceAt hp2013 ?_)
      refine U_istore_n (L2 := [.ref 68, .int a0, .int (if ¬ (its I a0 (5 : Int32)) = (1 : Int32) then (tbk I a0) else (if (tbk I a0) ≤ ((its I a0 (6 : Int32)) + (1 : Int32)) then (tbk I a0) else ((its I a0 (6 : Int32)) + (1 : Int32)))), .int (prc I (its I a0 (0 : Int32)) (its I a0 (1 : Int32))), .retAddr 0, .retAddr 0]) dX12_ends_65 (by decide) rfl ?_
      refine V_aload_n dX12_ends_66 rfl ?_
      refine V_iload_n dX12_ends_67 rfl ?_
      refine V_iconst (v := (1 : Int32)) dX12_ends_68 rfl ?_
      obtain ⟨hp2014, k⟩ := k
      refine U_callV1 [.int a0, .int (1 : Int32)] dX12_ends_69 ov_X12_202 s_68 rfl ⟨rfl, rfl, rfl⟩ rfl rfl rfl (tX12_its hp2014 ?_)
      refine V_iconst (v := (1 : Int32)) dX12_ends_72 rfl ?_
      refine V_iadd dX12_ends_73 ?_
      refine U_istore (L2 := [.ref 68, .int a0, .int (if ¬ (its I a0 (5 : Int32)) = (1 : Int32) then (tbk I a0) else (if (tbk I a0) ≤ ((its I a0 (6 : Int32)) + (1 : Int32)) then (tbk I a0) else ((its I a0 (6 : Int32)) + (1 : Int32)))), .int (prc I (its I a0 (0 : Int32)) (its I a0 (1 : Int32))), .int ((its I a0 (1 : Int32)) + (1 : Int32)), .retAddr 0]) dX12_ends_74 (by decide) rfl ?_
      exact k
  refine V_icmp_ne dX12_ends_13 (fun c2015 => ?_) (fun c2015 => ?_)
  · exact key3 _ (by rw [if_pos c2015])
  · refine V_aload_n dX12_ends_16 rfl ?_
    refine V_iload_n dX12_ends_17 rfl ?_
    refine V_bipush (v := (6 : Int32)) dX12_ends_18 rfl ?_
    have hp2004 := hc2007 c2015
    refine U_callV1 [.int a0, .int (6 : Int32)] dX12_ends_20 ov_X12_202 s_68 rfl ⟨rfl, rfl, rfl⟩ rfl rfl rfl (tX12_its hp2004 ?_)
    refine V_iconst (v := (1 : Int32)) dX12_ends_23 rfl ?_
    refine V_iadd dX12_ends_24 ?_
    refine V_iload_n dX12_ends_25 rfl ?_
    refine V_icmp_ge dX12_ends_26 (fun c2016 => ?_) (fun c2016 => ?_)
    · exact key3 _ (by rw [if_neg (not_not_intro c2015), if_pos c2016])
    · refine V_aload_n dX12_ends_29 rfl ?_
      refine V_iload_n dX12_ends_30 rfl ?_
      refine V_bipush (v := (6 : Int32)) dX12_ends_31 rfl ?_
      have hp2005 := hc2008 c2015 c2016
      refine U_callV1 [.int a0, .int (6 : Int32)] dX12_ends_33 ov_X12_202 s_68 rfl ⟨rfl, rfl, rfl⟩ rfl rfl rfl (tX12_its hp2005 ?_)
      refine V_iconst (v := (1 : Int32)) dX12_ends_36 rfl ?_
      refine V_iadd dX12_ends_37 ?_
      refine U_istore_n (L2 := [.ref 68, .int a0, .int ((its I a0 (6 : Int32)) + (1 : Int32)), .retAddr 0, .retAddr 0, .retAddr 0]) dX12_ends_38 (by decide) rfl ?_
      exact key3 _ (by rw [if_neg (not_not_intro c2015), if_neg c2016])
set_option maxHeartbeats 4000000 in
set_option maxRecDepth 20000 in
theorem wX12_ends_76 {E : aE} {P : Int32 → hI_ → hJ_ → Prop} {I : hI_} {J : hJ_} {v1 : Int32} {v2 : Int32} {v3 : Int32} {v4 : Int32} (k : (((999 : Int32) < v4 → P v2 I J) ∧ (¬ ((999 : Int32) < v4) → ((v2 ≤ v4 → P v2 I J) ∧ (¬ (v2 ≤ v4) → (inC v1 (0 : Int32)) ∧ (prOK I (its I v1 (0 : Int32))) ∧ (inC v1 (6 : Int32)) ∧ ((¬ ((its I v1 (6 : Int32)) < ((prc I (its I v1 (0 : Int32)) v4) - v3))) → inC v1 (6 : Int32)) ∧ HX12_ends_76 E P v1 (if (its I v1 (6 : Int32)) < ((prc I (its I v1 (0 : Int32)) v4) - v3) then v4 else (if (-((prc I (its I v1 (0 : Int32)) v4) - v3)) ≤ (its I v1 (6 : Int32)) then v2 else v4)) v3 (v4 + (1 : Int32)) I J))))) : HX12_ends_76 E P v1 v2 v3 v4 I J := by
  show V E mX12_ends (kI SH P) 76 [.ref 68, .int v1, .int v2, .int v3, .int v4, .retAddr 0] [] (SH, I, J) (0, 0)
  refine V_iload dX12_ends_76 rfl ?_
  refine V_sipush (v := (999 : Int32)) dX12_ends_78 rfl ?_
  refine V_icmp_gt dX12_ends_81 (fun c1 => ?_) (fun c1 => ?_)
  · have k := k.1 c1
    refine V_iload_n dX12_ends_144 rfl ?_
    exact V_iret dX12_ends_145 ⟨_, rfl, rfl⟩ rfl rfl ⟨_, _, _, rfl, rfl, k⟩
  · have k := k.2 c1
    refine V_iload dX12_ends_84 rfl ?_
    refine V_iload_n dX12_ends_86 rfl ?_
    refine V_icmp_ge dX12_ends_87 (fun c2 => ?_) (fun c2 => ?_)
    · have k := k.1 c2
      refine V_iload_n dX12_ends_144 rfl ?_
      exact V_iret dX12_ends_145 ⟨_, rfl, rfl⟩ rfl rfl ⟨_, _, _, rfl, rfl, k⟩
    · have k := k.2 c2
      refine V_aload_n dX12_ends_90 rfl ?_
      refine V_aload_n dX12_ends_91 rfl ?_
      refine V_iload_n dX12_ends_92 rfl ?_
      refine V_iconst (v := (0 : Int32)) dX12_ends_93 rfl ?_
      obtain ⟨hp3, k⟩ := k
      refine U_callV1 [.int v1, .int (0 : Int32)] dX12_ends_94 ov_X12_202 s_68 rfl ⟨rfl, rfl, rfl⟩ rfl rfl rfl (tX12_its hp3 ?_)
      refine V_iload dX12_ends_97 rfl ?_
      obtain ⟨hp4, k⟩ := k
      refine U_callV1 [.int (its I v1 (0 : Int32)), .int v4] dX12_ends_99 ov_X12_193 s_68 rfl ⟨rfl, rfl, rfl⟩ rfl rfl rfl (tX12_priceAt hp4 ?_)
      refine V_iload_n dX12_ends_102 rfl ?_
      refine V_isub dX12_ends_103 ?_
      refine U_istore (L2 := [.ref 68, .int v1, .int v2, .int v3, .int v4, .int ((prc I (its I v1 (0 : Int32)) v4) - v3)]) dX12_ends_104 (by decide) rfl ?_
      refine V_iload dX12_ends_106 rfl ?_
      refine V_aload_n dX12_ends_108 rfl ?_
      refine V_iload_n dX12_ends_109 rfl ?_
      refine V_bipush (v := (6 : Int32)) dX12_ends_110 rfl ?_
      obtain ⟨hp5, k⟩ := k
      refine U_callV1 [.int v1, .int (6 : Int32)] dX12_ends_112 ov_X12_202 s_68 rfl ⟨rfl, rfl, rfl⟩ rfl rfl rfl (tX12_its hp5 ?_)
      obtain ⟨hc2009, k⟩ := k
      have key6 : ∀ (y2008 : Int32), y2008 = (if (its I v1 (6 : Int32)) < ((prc I (its I v1 (0 : Int32)) v4) - v3) then v4 else (if (-((prc I (its I v1 (0 : Int32)) v4) - v3)) ≤ (its I v1 (6 : Int32)) then v2 else v4)) → V E mX12_ends (kI SH P) 137 [.ref 68, .int v1, .int v2, .int v3, .int v4, .int ((prc I (its I v1 (0 : Int32)) v4) - v3)] [.int y2008] (SH, I, J) (0, 0) := by
        intro y2008 ey2008
        subst ey2008
        refine U_istore_n (L2 := [.ref 68, .int v1, .int (if (its I v1 (6 : Int32)) < ((prc I (its I v1 (0 : Int32)) v4) - v3) then v4 else (if (-((prc I (its I v1 (0 : Int32)) v4) - v3)) ≤ (its I v1 (6 : Int32)) then v2 else v4)), .int v3, .int v4, .int ((prc I (its I v1 (0 : Int32)) v4) - v3)]) dX12_ends_137 (by decide) rfl ?_
        refine U_iinc (v := v4 + (1 : Int32)) (L2 := [.ref 68, .int v1, .int (if (its I v1 (6 : Int32)) < ((prc I (its I v1 (0 : Int32)) v4) - v3) then v4 else (if (-((prc I (its I v1 (0 : Int32)) v4) - v3)) ≤ (its I v1 (6 : Int32)) then v2 else v4)), .int v3, .int (v4 + (1 : Int32)), .int ((prc I (its I v1 (0 : Int32)) v4) - v3)]) dX12_ends_138 (by decide) rfl rfl rfl ?_
        refine V_goto dX12_ends_141 ?_
        exact V_wk (wk_eq (wk_eq (wk_eq (wk_eq (wk_eq (wk_j (wk_nil))))))) k
      refine V_icmp_gt dX12_ends_115 (fun c2010 => ?_) (fun c2010 => ?_)
      · refine V_iload dX12_ends_131 rfl ?_
        refine V_goto dX12_ends_133 ?_
        exact key6 _ (by rw [if_pos c2010])
      · refine V_iload dX12_ends_118 rfl ?_
        refine V_ineg dX12_ends_120 ?_
        refine V_aload_n dX12_ends_121 rfl ?_
        refine V_iload_n dX12_ends_122 rfl ?_
        refine V_bipush (v := (6 : Int32)) dX12_ends_123 rfl ?_
        have hp2007 := hc2009 c2010
        refine U_callV1 [.int v1, .int (6 : Int32)] dX12_ends_125 ov_X12_202 s_68 rfl ⟨rfl, rfl, rfl⟩ rfl rfl rfl (tX12_its hp2007 ?_)
        refine V_icmp_le dX12_ends_128 (fun c2011 => ?_) (fun c2011 => ?_)
        · refine V_iload_n dX12_ends_136 rfl ?_
          exact key6 _ (by rw [if_neg c2010, if_pos c2011])
        · refine V_iload dX12_ends_131 rfl ?_
          refine V_goto dX12_ends_133 ?_
          exact key6 _ (by rw [if_neg c2010, if_neg c2011])
theorem opn_le {c : Nat → Bool} : ∀ n t, opn c n t ≤ t + n
  | 0, t => Nat.le_refl _
  | n + 1, t => by
    unfold opn
    split
    · have := opn_le (c := c) n (t + 1); omega
    · omega
theorem opn_or {c : Nat → Bool} : ∀ n t, opn c n t = t + n ∨ c (opn c n t) = false
  | 0, t => Or.inl rfl
  | n + 1, t => by
    unfold opn
    split
    · rcases opn_or (c := c) n (t + 1) with h | h
      · left; omega
      · right; exact h
    · rename_i h; right; simpa using h
theorem d_off {a b V : Int32} (ha : bet 1 a 999) (hb : bet 1 b 999) : (a - b).toInt = a.toInt - b.toInt ∧ (-(a - b)).toInt = b.toInt - a.toInt := by
  obtain ⟨a1, a2⟩ := ha
  obtain ⟨b1, b2⟩ := hb
  have e : (a - b).toInt = a.toInt - b.toInt := ti_sub (by omega) (by omega)
  refine ⟨e, ?_⟩
  rw [ti_neg (by omega), e]
  omega
theorem jabs_off {a b V : Int32} (ha : bet 1 a 999) (hb : bet 1 b 999) (hV : 0 ≤ V.toInt) : (jabs (a - b) ≤ V) ↔ ¬ (V.toInt < a.toInt - b.toInt ∨ V.toInt < b.toInt - a.toInt) := by
  obtain ⟨e1, e2⟩ := d_off (V := V) ha hb
  unfold jabs
  have z : (0 : Int32).toInt = 0 := rfl
  by_cases h : (0 : Int32) ≤ a - b
  · rw [if_pos h, Int32.le_iff_toInt_le, e1]
    have h := Int32.le_iff_toInt_le.mp h
    omega
  · rw [if_neg h, Int32.zero_sub, Int32.le_iff_toInt_le, e2]
    have h := Int32.lt_iff_toInt_lt.mp (Int32.not_le.mp h)
    omega
theorem fo_lo {I : hI_} {c : Nat} (hm : mN I c ≤ 999) : mN I c + 1 ≤ foN I c ∧ foN I c ≤ 1000 ∧ (∀ u, mN I c < u → u < foN I c → offB I c u = false) ∧ (foN I c ≤ 999 → offB I c (foN I c) = true) := by
  unfold foN
  refine ⟨opn_ge _ _, ?_, fun u h1 h2 => ?_, fun h => ?_⟩
  · have := opn_le (c := fun t => !offB I c t) (999 - mN I c) (mN I c + 1); omega
  · have := opn_shut (c := fun t => !offB I c t) _ _ u (by omega) h2
    simpa using this
  · rcases opn_or (c := fun t => !offB I c t) (999 - mN I c) (mN I c + 1) with h1 | h1
    · omega
    · simpa using h1
theorem offB_own {I : hI_} (h : Rel I) {c : Nat} (hc : c < nC I) (hV : 0 ≤ (cK I c 6).toInt) : offB I c (mN I c) = false := by
  unfold offB
  rw [(cK_min h hc).1]
  have : mN I c = mN I c := rfl
  simp
  omega
/-- the first minute that is off is that of a step -/
theorem fo_step {I : hI_} (h : Rel I) {c : Nat} (hc : c < nC I) (hV : 0 ≤ (cK I c 6).toInt) (hf : foN I c ≤ 999) : ∃ k, k < nS I ∧ I 82 (3 * k) = cK I c 0 ∧ I 82 (3 * k + 1) = nI (foN I c) := by
  have hm := (cK_min h hc).2
  obtain ⟨f1, f2, f3, f4⟩ := fo_lo (I := I) (c := c) hm
  apply Classical.byContradiction
  intro hn
  have e := prc_still h (p := cK I c 0) (t := foN I c - 1) (by omega) (fun k hk hp he => hn ⟨k, hk, hp, by rw [he]; congr 1; omega⟩)
  rw [show foN I c - 1 + 1 = foN I c by omega] at e
  have h1 := f4 hf
  have h2 : offB I c (foN I c - 1) = false := by
    by_cases q : foN I c - 1 = mN I c
    · rw [q]; exact offB_own h hc hV
    · exact f3 _ (by omega) (by omega)
  unfold offB at h1 h2
  rw [e] at h1
  rw [h1] at h2
  cases h2
theorem unm_loop {E : aE} {P : Int32 → hI_ → hJ_ → Prop} {I : hI_} {J : hJ_} {c : Nat} (h : Rel I) (hc : c < nC I) (h2 : cK I c 5 = 2) (k : P (nI (foN I c) - 1) I J) : ∀ (m i x : Nat), i + m = nS I → x ≤ 999 → (∀ q, q < i → I 82 (3 * q) = cK I c 0 → mN I c < (I 82 (3 * q + 1)).toInt.toNat → offB I c (I 82 (3 * q + 1)).toInt.toNat = true → x < (I 82 (3 * q + 1)).toInt.toNat) → (x = 999 ∨ (mN I c ≤ x ∧ offB I c (x + 1) = true)) → HX1_lastUnmoved_36 E P (nI c) (cK I c 0) (cK I c 1) (prc I (cK I c 0) (cK I c 1)) (nI x) (nI i) I J
  | 0, i, x, hi, hx, g1, g2 => by
    have hS := Rel_S h
    have : i = nS I := by omega
    subst this
    have hV := ((cK_bet h hc).2.2.2.2.2.2.2.1 h2).1
    have hm := (cK_min h hc).2
    obtain ⟨f1, f2, f3, f4⟩ := fo_lo (I := I) (c := c) hm
    refine wX1_lastUnmoved_36 ⟨fun _ => ?_, fun q => absurd (by rw [hS.1]; exact Int32.le_refl _) q⟩
    have e : foN I c = x + 1 := by
      have a1 : foN I c ≤ x + 1 := by
        rcases g2 with g2 | ⟨g2, g3⟩
        · omega
        · rcases Nat.lt_or_ge (x + 1) (foN I c) with q | q
          · have := f3 (x + 1) (by omega) q
            rw [g3] at this; cases this
          · exact q
      have a2 : x + 1 ≤ foN I c := by
        rcases Nat.lt_or_ge x (foN I c) with q | q
        · exact q
        · obtain ⟨j, hj, j1, j2⟩ := fo_step h hc hV (by omega)
          have e2 : (I 82 (3 * j + 1)).toInt.toNat = foN I c := by rw [j2, nI_toInt (by omega)]; omega
          have := g1 j hj j1 (by rw [e2]; omega) (by rw [e2]; exact f4 (by omega))
          omega
      omega
    rw [e, nI_pred] at k
    exact k
  | m + 1, i, x, hi, hx, g1, g2 => by
    have hS := Rel_S h
    have hr := (Rel_rows h).1
    have hr2 := (Rel_rows h).2.1
    have hC := (Rel_C h).2.2
    have hV := (cK_bet h hc).2.2.2.2.2.2.2.1 h2
    have hm := cK_min h hc
    have hpl := cK_place h hc
    obtain ⟨⟨e0, e1, e2⟩, -, b1, -⟩ := Rel_step h (k := i) (by omega)
    have e6 : rat I 24 25 (nI c) 6 = cK I c 6 := ((Rel_call h hc).1 6 (by omega)).1
    refine wX1_lastUnmoved_36 ⟨fun q => absurd q (by rw [hS.1]; exact nI_ge (by omega) (by omega)), fun _ => ⟨hr, hr, fun _ _ _ => hpl, fun _ _ _ => hr2, ?_⟩⟩
    rw [e0, e1, e6, nI_1]
    obtain ⟨y, hy, ey⟩ : ∃ y : Nat, y ≤ 999 ∧ I 82 (3 * i + 1) = nI y := ⟨(I 82 (3 * i + 1)).toInt.toNat, by have := b1.2; omega, ofT b1.1⟩
    have eyN : (I 82 (3 * i + 1)).toInt.toNat = y := by rw [ey, nI_toInt (by omega)]; omega
    have hoff : (jabs (prc I (cK I c 0) (nI y) - prc I (cK I c 0) (cK I c 1)) ≤ cK I c 6) ↔ offB I c y = false := by
      rw [jabs_off (prc_bet hpl) (prc_bet hpl) hV.1]
      unfold offB
      simp
    have keep : (I 82 (3 * i) = cK I c 0 → mN I c < y → offB I c y = true → x < y) → HX1_lastUnmoved_36 E P (nI c) (cK I c 0) (cK I c 1) (prc I (cK I c 0) (cK I c 1)) (nI x) (nI (i + 1)) I J := fun hk => by
      refine unm_loop h hc h2 k m (i + 1) x (by omega) hx (fun q hq q1 q2 q3 => ?_) g2
      by_cases e : q = i
      · subst e
        rw [eyN] at q2 q3 ⊢
        exact hk q1 q2 q3
      · exact g1 q (by omega) q1 q2 q3
    rw [ey]
    by_cases c1 : I 82 (3 * i) = cK I c 0
    · rw [if_neg (fun q => q c1)]
      by_cases c2 : nI y ≤ cK I c 1
      · rw [if_pos c2]
        rw [hm.1, nI_leI (by omega) (by omega)] at c2
        exact keep (fun _ q _ => by omega)
      · rw [if_neg c2]
        rw [hm.1, nI_leI (by omega) (by omega)] at c2
        by_cases c3 : nI x < nI y
        · rw [if_pos c3]
          rw [nI_ltI (by omega) (by omega)] at c3
          exact keep (fun _ _ _ => c3)
        · rw [if_neg c3]
          rw [nI_ltI (by omega) (by omega)] at c3
          by_cases c4 : offB I c y = false
          · rw [if_pos (hoff.mpr c4)]
            exact keep (fun _ _ q => by rw [c4] at q; cases q)
          · rw [if_neg (fun q => c4 (hoff.mp q))]
            have c4 : offB I c y = true := by simpa using c4
            have ey1 : nI y - 1 = nI (y - 1) := by rw [show y = y - 1 + 1 by omega, nI_pred]; congr 1
            rw [ey1]
            refine unm_loop h hc h2 k m (i + 1) (y - 1) (by omega) (by omega) (fun q hq q1 q2 q3 => ?_) (Or.inr ⟨by omega, by rw [show y - 1 + 1 = y by omega]; exact c4⟩)
            by_cases e : q = i
            · subst e; rw [eyN]; omega
            · have := g1 q (by omega) q1 q2 q3; omega
    · rw [if_pos c1]
      exact keep (fun q => absurd q c1)
theorem tX1_lastUnmoved {E : aE} {P : Int32 → hI_ → hJ_ → Prop} {I : hI_} {J : hJ_} {c : Nat} (h : Rel I) (hc : c < nC I) (h2 : cK I c 5 = 2) (k : P (nI (foN I c) - 1) I J) : CallI E mX1_lastUnmoved [.ref 21, .int (nI c)] SH I J P := by
  have hr2 := (Rel_rows h).2.1
  have e0 : rat I 24 25 (nI c) 0 = cK I c 0 := ((Rel_call h hc).1 0 (by omega)).1
  have e1 : rat I 24 25 (nI c) 1 = cK I c 1 := ((Rel_call h hc).1 1 (by omega)).1
  refine wX1_lastUnmoved ⟨hr2, hr2, by rw [e0]; exact cK_place h hc, ?_⟩
  rw [e0, e1]
  exact unm_loop h hc h2 k (nS I) 0 999 (by omega) (by omega) (fun q hq => by omega) (Or.inl rfl)
theorem nIm1 {a : Nat} (h : a < 1000000) : (nI a - 1).toInt = (a : Int) - 1 := by
  have o : (1 : Int32).toInt = 1 := rfl
  rw [ti_sub (by rw [nI_toInt (by omega), o]; omega) (by rw [nI_toInt (by omega), o]; omega), nI_toInt (by omega), o]
theorem jmin_m1 {a b : Nat} (ha : a < 1000000) (hb : b < 1000000) : jmin (nI a - 1) (nI b - 1) = nI (min a b) - 1 := by
  unfold jmin
  have e : (nI b - 1 < nI a - 1) ↔ b < a := by
    rw [Int32.lt_iff_toInt_lt, nIm1 ha, nIm1 hb]
    omega
  by_cases h : b < a
  · rw [if_pos (e.mpr h), Nat.min_eq_right (by omega)]
  · rw [if_neg (fun q => h (e.mp q)), Nat.min_eq_left (by omega)]
set_option maxHeartbeats 4000000 in
set_option maxRecDepth 20000 in
theorem wX1_lastMinute {E : aE} {P : Int32 → hI_ → hJ_ → Prop} {I : hI_} {J : hJ_} {a0 : Int32} (k : (rok I 24 8 12) ∧ ((¬ (rat I 24 25 a0 (5 : Int32)) = (1 : Int32) → ((¬ (rat I 24 25 a0 (5 : Int32)) = (2 : Int32) → (rok I 24 8 12) ∧ P (if ¬ (rat I 24 25 a0 (7 : Int32)) = (-4 : Int32) then (jmin (999 : Int32) ((rat I 24 25 a0 (7 : Int32)) - (1 : Int32))) else (999 : Int32)) I J) ∧ ((rat I 24 25 a0 (5 : Int32)) = (2 : Int32) → CallI E mX1_lastUnmoved [.ref 21, .int a0] SH I J (fun x2008 I2009 J2010 => (rok I2009 24 8 12) ∧ P (if ¬ (rat I2009 24 25 a0 (7 : Int32)) = (-4 : Int32) then (jmin x2008 ((rat I2009 24 25 a0 (7 : Int32)) - (1 : Int32))) else x2008) I2009 J2010)))) ∧ ((rat I 24 25 a0 (5 : Int32)) = (1 : Int32) → (rok I 24 8 12) ∧ (rok I 24 8 12) ∧ P (if ¬ (rat I 24 25 a0 (7 : Int32)) = (-4 : Int32) then (jmin (rat I 24 25 a0 (6 : Int32)) ((rat I 24 25 a0 (7 : Int32)) - (1 : Int32))) else (rat I 24 25 a0 (6 : Int32))) I J))) : CallI E mX1_lastMinute [.ref 21, .int a0] SH I J P := by
  refine Call_of (L := [.ref 21, .int a0, .retAddr 0, .retAddr 0, .retAddr 0]) ok_X1_lastMinute.1 rfl rfl ?_
  refine V_sipush (v := (999 : Int32)) dX1_lastMinute_0 rfl ?_
  refine U_istore_n (L2 := [.ref 21, .int a0, .int (999 : Int32), .retAddr 0, .retAddr 0]) dX1_lastMinute_3 (by decide) rfl ?_
  refine V_aload_n dX1_lastMinute_4 rfl ?_
  refine U_getR dX1_lastMinute_5 fl_X1_20 s_21 rfl ?_
  refine V_iload_n dX1_lastMinute_8 rfl ?_
  refine V_iconst (v := (5 : Int32)) dX1_lastMinute_9 rfl ?_
  obtain ⟨hp1, k⟩ := k
  refine U_callV1 [.int a0, .int (5 : Int32)] dX1_lastMinute_10 ov_X1_44 s_24 rfl ⟨rfl, rfl, rfl⟩ rfl rfl rfl (tX5_at s_24 s_25 (by decide) hp1 ?_)
  refine U_istore_n (L2 := [.ref 21, .int a0, .int (999 : Int32), .int (rat I 24 25 a0 (5 : Int32)), .retAddr 0]) dX1_lastMinute_13 (by decide) rfl ?_
  refine V_iload_n dX1_lastMinute_14 rfl ?_
  refine V_iconst (v := (1 : Int32)) dX1_lastMinute_15 rfl ?_
  refine V_icmp_ne dX1_lastMinute_16 (fun c2 => ?_) (fun c2 => ?_)
  · have k := k.1 c2
    refine V_iload_n dX1_lastMinute_33 rfl ?_
    refine V_iconst (v := (2 : Int32)) dX1_lastMinute_34 rfl ?_
    refine V_icmp_ne dX1_lastMinute_35 (fun c3 => ?_) (fun c3 => ?_)
    · have k := k.1 c3
      refine V_aload_n dX1_lastMinute_44 rfl ?_
      refine U_getR dX1_lastMinute_45 fl_X1_20 s_21 rfl ?_
      refine V_iload_n dX1_lastMinute_48 rfl ?_
      refine V_bipush (v := (7 : Int32)) dX1_lastMinute_49 rfl ?_
      obtain ⟨hp4, k⟩ := k
      refine U_callV1 [.int a0, .int (7 : Int32)] dX1_lastMinute_51 ov_X1_44 s_24 rfl ⟨rfl, rfl, rfl⟩ rfl rfl rfl (tX5_at s_24 s_25 (by decide) hp4 ?_)
      refine U_istore (L2 := [.ref 21, .int a0, .int (999 : Int32), .int (rat I 24 25 a0 (5 : Int32)), .int (rat I 24 25 a0 (7 : Int32))]) dX1_lastMinute_54 (by decide) rfl ?_
      refine V_iload dX1_lastMinute_56 rfl ?_
      refine V_bipush (v := (-4 : Int32)) dX1_lastMinute_58 rfl ?_
      have key5 : ∀ (y2006 : Int32), y2006 = (if ¬ (rat I 24 25 a0 (7 : Int32)) = (-4 : Int32) then (jmin (999 : Int32) ((rat I 24 25 a0 (7 : Int32)) - (1 : Int32))) else (999 : Int32)) → V E mX1_lastMinute (kI SH P) 75 [.ref 21, .int a0, .int (999 : Int32), .int (rat I 24 25 a0 (5 : Int32)), .int (rat I 24 25 a0 (7 : Int32))] [.int y2006] (SH, I, J) (0, 0) := by
        intro y2006 ey2006
        subst ey2006
        exact V_iret dX1_lastMinute_75 ⟨_, rfl, rfl⟩ rfl rfl ⟨_, _, _, rfl, rfl, k⟩
      refine V_icmp_ne dX1_lastMinute_60 (fun c2007 => ?_) (fun c2007 => ?_)
      · refine V_iload_n dX1_lastMinute_67 rfl ?_
        refine V_iload dX1_lastMinute_68 rfl ?_
        refine V_iconst (v := (1 : Int32)) dX1_lastMinute_70 rfl ?_
        refine V_isub dX1_lastMinute_71 ?_
        refine V_mmin dX1_lastMinute_72 om_X1_52 rfl ?_
        exact key5 _ (by rw [if_pos c2007])
      · refine V_iload_n dX1_lastMinute_63 rfl ?_
        refine V_goto dX1_lastMinute_64 ?_
        exact key5 _ (by rw [if_neg (not_not_intro c2007)])
    · have k := k.2 c3
      refine V_aload_n dX1_lastMinute_38 rfl ?_
      refine V_iload_n dX1_lastMinute_39 rfl ?_
      refine U_callV1 [.int a0] dX1_lastMinute_40 ov_X1_48 s_21 rfl ⟨rfl, rfl, rfl⟩ rfl rfl rfl (CallI_mono k (fun x2008 I2009 J2010 k => ?_))
      refine U_istore_n (L2 := [.ref 21, .int a0, .int x2008, .int (rat I 24 25 a0 (5 : Int32)), .retAddr 0]) dX1_lastMinute_43 (by decide) rfl ?_
      refine V_aload_n dX1_lastMinute_44 rfl ?_
      refine U_getR dX1_lastMinute_45 fl_X1_20 s_21 rfl ?_
      refine V_iload_n dX1_lastMinute_48 rfl ?_
      refine V_bipush (v := (7 : Int32)) dX1_lastMinute_49 rfl ?_
      obtain ⟨hp2011, k⟩ := k
      refine U_callV1 [.int a0, .int (7 : Int32)] dX1_lastMinute_51 ov_X1_44 s_24 rfl ⟨rfl, rfl, rfl⟩ rfl rfl rfl (tX5_at s_24 s_25 (by decide) hp2011 ?_)
      refine U_istore (L2 := [.ref 21, .int a0, .int x2008, .int (rat I 24 25 a0 (5 : Int32)), .int (rat I2009 24 25 a0 (7 : Int32))]) dX1_lastMinute_54 (by decide) rfl ?_
      refine V_iload dX1_lastMinute_56 rfl ?_
      refine V_bipush (v := (-4 : Int32)) dX1_lastMinute_58 rfl ?_
      have key2012 : ∀ (y4013 : Int32), y4013 = (if ¬ (rat I2009 24 25 a0 (7 : Int32)) = (-4 : Int32) then (jmin x2008 ((rat I2009 24 25 a0 (7 : Int32)) - (1 : Int32))) else x2008) → V E mX1_lastMinute (kI SH P) 75 [.ref 21, .int a0, .int x2008, .int (rat I 24 25 a0 (5 : Int32)), .int (rat I2009 24 25 a0 (7 : Int32))] [.int y4013] (SH, I2009, J2010) (0, 0) := by
        intro y4013 ey4013
        subst ey4013
        exact V_iret dX1_lastMinute_75 ⟨_, rfl, rfl⟩ rfl rfl ⟨_, _, _, rfl, rfl, k⟩
      refine V_icmp_ne dX1_lastMinute_60 (fun c4014 => ?_) (fun c4014 => ?_)
      · refine V_iload_n dX1_lastMinute_67 rfl ?_
        refine V_iload dX1_lastMinute_68 rfl ?_
        refine V_iconst (v := (1 : Int32)) dX1_lastMinute_70 rfl ?_
        refine V_isub dX1_lastMinute_71 ?_
        refine V_mmin dX1_lastMinute_72 om_X1_52 rfl ?_
        exact key2012 _ (by rw [if_pos c4014])
      · refine V_iload_n dX1_lastMinute_63 rfl ?_
        refine V_goto dX1_lastMinute_64 ?_
        exact key2012 _ (by rw [if_neg (not_not_intro c4014)])
  · have k := k.2 c2
    refine V_aload_n dX1_lastMinute_19 rfl ?_
    refine U_getR dX1_lastMinute_20 fl_X1_20 s_21 rfl ?_
    refine V_iload_n dX1_lastMinute_23 rfl ?_
    refine V_bipush (v := (6 : Int32)) dX1_lastMinute_24 rfl ?_
    obtain ⟨hp4015, k⟩ := k
    refine U_callV1 [.int a0, .int (6 : Int32)] dX1_lastMinute_26 ov_X1_44 s_24 rfl ⟨rfl, rfl, rfl⟩ rfl rfl rfl (tX5_at s_24 s_25 (by decide) hp4015 ?_)
    refine U_istore_n (L2 := [.ref 21, .int a0, .int (rat I 24 25 a0 (6 : Int32)), .int (rat I 24 25 a0 (5 : Int32)), .retAddr 0]) dX1_lastMinute_29 (by decide) rfl ?_
    refine V_goto dX1_lastMinute_30 ?_
    refine V_aload_n dX1_lastMinute_44 rfl ?_
    refine U_getR dX1_lastMinute_45 fl_X1_20 s_21 rfl ?_
    refine V_iload_n dX1_lastMinute_48 rfl ?_
    refine V_bipush (v := (7 : Int32)) dX1_lastMinute_49 rfl ?_
    obtain ⟨hp4016, k⟩ := k
    refine U_callV1 [.int a0, .int (7 : Int32)] dX1_lastMinute_51 ov_X1_44 s_24 rfl ⟨rfl, rfl, rfl⟩ rfl rfl rfl (tX5_at s_24 s_25 (by decide) hp4016 ?_)
    refine U_istore (L2 := [.ref 21, .int a0, .int (rat I 24 25 a0 (6 : Int32)), .int (rat I 24 25 a0 (5 : Int32)), .int (rat I 24 25 a0 (7 : Int32))]) dX1_lastMinute_54 (by decide) rfl ?_
    refine V_iload dX1_lastMinute_56 rfl ?_
    refine V_bipush (v := (-4 : Int32)) dX1_lastMinute_58 rfl ?_
    have key4017 : ∀ (y6018 : Int32), y6018 = (if ¬ (rat I 24 25 a0 (7 : Int32)) = (-4 : Int32) then (jmin (rat I 24 25 a0 (6 : Int32)) ((rat I 24 25 a0 (7 : Int32)) - (1 : Int32))) else (rat I 24 25 a0 (6 : Int32))) → V E mX1_lastMinute (kI SH P) 75 [.ref 21, .int a0, .int (rat I 24 25 a0 (6 : Int32)), .int (rat I 24 25 a0 (5 : Int32)), .int (rat I 24 25 a0 (7 : Int32))] [.int y6018] (SH, I, J) (0, 0) := by
      intro y6018 ey6018
      subst ey6018
      exact V_iret dX1_lastMinute_75 ⟨_, rfl, rfl⟩ rfl rfl ⟨_, _, _, rfl, rfl, k⟩
    refine V_icmp_ne dX1_lastMinute_60 (fun c6019 => ?_) (fun c6019 => ?_)
    · refine V_iload_n dX1_lastMinute_67 rfl ?_
      refine V_iload dX1_lastMinute_68 rfl ?_
      refine V_iconst (v := (1 : Int32)) dX1_lastMinute_70 rfl ?_
      refine V_isub dX1_lastMinute_71 ?_
      refine V_mmin dX1_lastMinute_72 om_X1_52 rfl ?_
      exact key4017 _ (by rw [if_pos c6019])
    · refine V_iload_n dX1_lastMinute_63 rfl ?_
      refine V_goto dX1_lastMinute_64 ?_
      exact key4017 _ (by rw [if_neg (not_not_intro c6019)])
theorem last_back {I : hI_} (h : Rel I) {c x e : Nat} (hc : c < nC I) (hx : x ≤ 1000) (he : lu I c = min x (bkN I c)) : (if ¬ rat I 24 25 (nI c) 7 = -4 then jmin (nI x - 1) (rat I 24 25 (nI c) 7 - 1) else nI x - 1) = nI (lu I c) - 1 := by
  rcases cK_back h hc with ⟨h1, -, h3⟩ | ⟨h1, h2, -, h3⟩
  · rw [if_neg (fun q => q h3), he, h1, Nat.min_eq_left (by omega)]
  · have hn : ¬ rat I 24 25 (nI c) 7 = -4 := fun q => by
      have q2 : (nI (bkN I c)).toInt = (-4 : Int32).toInt := by rw [← h3, q]
      rw [nI_toInt (by omega)] at q2
      have : (-4 : Int32).toInt = -4 := rfl
      omega
    rw [if_pos hn, h3, jmin_m1 (by omega) (by omega), he]
theorem tX1_lastMinute {E : aE} {P : Int32 → hI_ → hJ_ → Prop} {I : hI_} {J : hJ_} {c : Int32} (hc0 : cOK I c) (k : P (nI (lu I c.toNatClampNeg) - 1) I J) : CallI E mX1_lastMinute [.ref 21, .int c] SH I J P := by
  obtain ⟨h, x, hx, rfl⟩ := hc0
  have hC := (Rel_C h).2.2
  rw [nI_clamp (by omega)] at k
  have hr2 := (Rel_rows h).2.1
  have e5 : rat I 24 25 (nI x) 5 = cK I x 5 := ((Rel_call h hx).1 5 (by omega)).1
  have e6 : rat I 24 25 (nI x) 6 = cK I x 6 := ((Rel_call h hx).1 6 (by omega)).1
  have hb := cK_bet h hx
  have hm := (cK_min h hx).2
  refine wX1_lastMinute ⟨hr2, ?_⟩
  rw [e5, e6]
  refine ⟨fun n1 => ⟨fun n2 => ⟨hr2, ?_⟩, fun i2 => ?_⟩, fun i1 => ⟨hr2, hr2, ?_⟩⟩
  · have he : lu I x = min 1000 (bkN I x) := by
      unfold lu endN
      rw [if_neg n1, if_neg n2, Nat.min_comm]
    have := last_back (e := 0) h hx (x := 1000) (by omega) he
    rw [show nI 1000 - 1 = (999 : Int32) from rfl] at this
    rw [this]; exact k
  · refine tX1_lastUnmoved h hx i2 ⟨hr2, ?_⟩
    have f := fo_lo (I := I) (c := x) hm
    have he : lu I x = min (foN I x) (bkN I x) := by
      unfold lu endN
      rw [if_neg n1, if_pos i2]
      split
      · omega
      · omega
    rw [last_back (e := 0) h hx f.2.1 he]; exact k
  · have hv := hb.2.2.2.2.2.2.1 i1
    have hv0 : 0 ≤ (cK I x 6).toInt := by have := hv.1; have := hb.2.1.1; omega
    have ev : cK I x 6 = nI ((cK I x 6).toInt.toNat + 1) - 1 := by rw [nI_pred]; exact ofT hv0
    have he : lu I x = min ((cK I x 6).toInt.toNat + 1) (bkN I x) := by
      unfold lu endN
      rw [if_pos i1]
      have := hv.2
      omega
    have := last_back (e := 0) h hx (x := (cK I x 6).toInt.toNat + 1) (by have := hv.2; omega) he
    rw [← ev] at this
    rw [this]; exact k
set_option maxHeartbeats 4000000 in
set_option maxRecDepth 20000 in
theorem wX1_isUp {E : aE} {P : Int32 → hI_ → hJ_ → Prop} {I : hI_} {J : hJ_} {a0 : Int32} {a1 : Int32} (k : (rok I 24 8 12) ∧ ((¬ (a1 < (rat I 24 25 a0 (1 : Int32)))) → cOK I a0) ∧ P (b2i ((¬ (a1 < (rat I 24 25 a0 (1 : Int32)))) ∧ (¬ ((nI (lu I a0.toNatClampNeg) - 1) < a1)))) I J) : CallI E mX1_isUp [.ref 21, .int a0, .int a1] SH I J P := by
  refine Call_of (L := [.ref 21, .int a0, .int a1]) ok_X1_isUp.1 rfl rfl ?_
  refine V_aload_n dX1_isUp_0 rfl ?_
  refine U_getR dX1_isUp_1 fl_X1_20 s_21 rfl ?_
  refine V_iload_n dX1_isUp_4 rfl ?_
  refine V_iconst (v := (1 : Int32)) dX1_isUp_5 rfl ?_
  obtain ⟨hp1, k⟩ := k
  refine U_callV1 [.int a0, .int (1 : Int32)] dX1_isUp_6 ov_X1_44 s_24 rfl ⟨rfl, rfl, rfl⟩ rfl rfl rfl (tX5_at s_24 s_25 (by decide) hp1 ?_)
  refine V_iload_n dX1_isUp_9 rfl ?_
  obtain ⟨hc2005, k⟩ := k
  have key2 : ∀ (y2004 : Int32), y2004 = (b2i ((¬ (a1 < (rat I 24 25 a0 (1 : Int32)))) ∧ (¬ ((nI (lu I a0.toNatClampNeg) - 1) < a1)))) → V E mX1_isUp (kI SH P) 27 [.ref 21, .int a0, .int a1] [.int y2004] (SH, I, J) (0, 0) := by
    intro y2004 ey2004
    subst ey2004
    exact V_iret dX1_isUp_27 ⟨_, rfl, b2i_nar⟩ rfl rfl ⟨_, _, _, rfl, rfl, k⟩
  refine V_icmp_gt dX1_isUp_10 (fun c2006 => ?_) (fun c2006 => ?_)
  · refine V_iconst (v := (0 : Int32)) dX1_isUp_26 rfl ?_
    exact key2 _ ((b2i_0.mpr (fun q => q.1 c2006)).symm)
  · refine V_iload_n dX1_isUp_13 rfl ?_
    refine V_aload_n dX1_isUp_14 rfl ?_
    refine V_iload_n dX1_isUp_15 rfl ?_
    have hp2003 := hc2005 c2006
    refine U_callV1 [.int a0] dX1_isUp_16 ov_X1_63 s_21 rfl ⟨rfl, rfl, rfl⟩ rfl rfl rfl (tX1_lastMinute hp2003 ?_)
    refine V_icmp_gt dX1_isUp_19 (fun c2007 => ?_) (fun c2007 => ?_)
    · refine V_iconst (v := (0 : Int32)) dX1_isUp_26 rfl ?_
      exact key2 _ ((b2i_0.mpr (fun q => (fun q => q c2007) q.2)).symm)
    · refine V_iconst (v := (1 : Int32)) dX1_isUp_22 rfl ?_
      refine V_goto dX1_isUp_23 ?_
      exact key2 _ ((b2i_1.mpr (⟨c2006, c2007⟩)).symm)
theorem lt_pred {t : Int32} {n : Nat} (hn : n < 1000000) : ¬ (nI n - 1 < t) ↔ t < nI n := by
  rw [Int32.not_lt, Int32.le_iff_toInt_le, Int32.lt_iff_toInt_lt, nIm1 hn, nI_toInt (by omega)]
  omega
theorem lu_le (I : hI_) (c : Nat) : lu I c ≤ 1000 := Nat.min_le_right _ _
theorem tX1_isUp {E : aE} {P : Int32 → hI_ → hJ_ → Prop} {I : hI_} {J : hJ_} {c t : Int32} (hc0 : cOK I c) (k : P (b2i (stB I c t = true)) I J) : CallI E mX1_isUp [.ref 21, .int c, .int t] SH I J P := by
  obtain ⟨h, x, hx, rfl⟩ := id hc0
  have hC := (Rel_C h).2.2
  have hr2 := (Rel_rows h).2.1
  have hl := lu_le I x
  have e1 : rat I 24 25 (nI x) 1 = cK I x 1 := ((Rel_call h hx).1 1 (by omega)).1
  have e1' : its I (nI x) 1 = cK I x 1 := its_cK (j := 1) (by omega) (by omega)
  have e := b2i_congr (p := stB I (nI x) t = true) (q := (cK I x 1 ≤ t ∧ t < nI (lu I x))) (by unfold stB; rw [decide_eq_true_eq, e1', nI_clamp (by omega)])
  rw [e] at k
  refine wX1_isUp ?_
  rw [e1, nI_clamp (by omega)]
  first
  | (refine ⟨hr2, fun _ => hc0, ?_⟩
     rw [b2i_congr (q := (cK I x 1 ≤ t ∧ t < nI (lu I x))) (by rw [Int32.not_lt, lt_pred (by omega)])]
     exact k)
theorem endN_le {I : hI_} (h : Rel I) {c : Nat} (hc : c < nC I) : endN I c ≤ 10000 := by
  have hm := (cK_min h hc).2
  have f := fo_lo (I := I) (c := c) hm
  have hb : bkN I c ≤ 10000 := by
    rcases cK_back h hc with ⟨h1, -⟩ | ⟨-, h1, -⟩ <;> omega
  unfold endN
  split
  · omega
  · split
    · split <;> omega
    · exact hb
theorem ends_loop {E : aE} {P : Int32 → hI_ → hJ_ → Prop} {I : hI_} {J : hJ_} {c : Nat} (h : Rel I) (hc : c < nC I) (h2 : cK I c 5 = 2) (k : P (nI (if foN I c < min (bkN I c) 1000 then foN I c else bkN I c)) I J) : ∀ (m t : Nat), t + m = 1000 → mN I c < t → t ≤ foN I c → HX12_ends_76 E P (nI c) (nI (bkN I c)) (prc I (cK I c 0) (cK I c 1)) (nI t) I J
  | 0, t, ht, hm1, hf => by
    have hm := (cK_min h hc).2
    have f := fo_lo (I := I) (c := c) hm
    refine wX12_ends_76 ⟨fun _ => ?_, fun q => absurd (nI_lt (a := 999) (b := t) (by omega) (by omega)) q⟩
    rw [if_neg (by omega)] at k
    exact k
  | m + 1, t, ht, hm1, hf => by
    have hm := (cK_min h hc).2
    have hC := (Rel_C h).2.2
    have f := fo_lo (I := I) (c := c) hm
    have hpl := cK_place h hc
    have hV := (cK_bet h hc).2.2.2.2.2.2.2.1 h2
    have hb : bkN I c ≤ 10000 := by
      rcases cK_back h hc with ⟨h1, -⟩ | ⟨-, h1, -⟩ <;> omega
    have e0 : its I (nI c) 0 = cK I c 0 := its_cK (j := 0) (by omega) (by omega)
    have e6 : its I (nI c) 6 = cK I c 6 := its_cK (j := 6) (by omega) (by omega)
    refine wX12_ends_76 ⟨fun q => absurd q (fun z => by rw [show (999 : Int32) = nI 999 from rfl, nI_ltI (by omega) (by omega)] at z; omega), fun _ => ⟨fun q => ?_, fun q => ?_⟩⟩
    · rw [nI_leI (by omega) (by omega)] at q
      rw [if_neg (by omega)] at k
      exact k
    · rw [nI_leI (by omega) (by omega)] at q
      refine ⟨inC_nI (j := 0) (by omega) (by omega), by rw [e0]; exact hpl, inC_nI (j := 6) (by omega) (by omega), fun _ => inC_nI (j := 6) (by omega) (by omega), ?_⟩
      rw [e0, e6, nI_1]
      obtain ⟨d1, d2⟩ := d_off (V := cK I c 6) (prc_bet hpl (t := nI t)) (prc_bet hpl (t := cK I c 1))
      have ho : offB I c t = true ↔ ((cK I c 6 < prc I (cK I c 0) (nI t) - prc I (cK I c 0) (cK I c 1)) ∨ ¬ (-(prc I (cK I c 0) (nI t) - prc I (cK I c 0) (cK I c 1)) ≤ cK I c 6)) := by
        rw [Int32.lt_iff_toInt_lt, Int32.le_iff_toInt_le, d1, d2]
        unfold offB
        rw [decide_eq_true_eq]
        omega
      by_cases hoff : offB I c t = true
      · have ht2 : foN I c = t := by
          rcases Nat.lt_or_ge t (foN I c) with q2 | q2
          · rw [f.2.2.1 t hm1 q2] at hoff; cases hoff
          · omega
        rw [ht2, if_pos (by omega)] at k
        have e : (if cK I c 6 < prc I (cK I c 0) (nI t) - prc I (cK I c 0) (cK I c 1) then nI t else (if -(prc I (cK I c 0) (nI t) - prc I (cK I c 0) (cK I c 1)) ≤ cK I c 6 then nI (bkN I c) else nI t)) = nI t := by
          by_cases g1 : cK I c 6 < prc I (cK I c 0) (nI t) - prc I (cK I c 0) (cK I c 1)
          · rw [if_pos g1]
          · rw [if_neg g1, if_neg ((ho.mp hoff).resolve_left g1)]
        rw [e]
        exact wX12_ends_76 ⟨fun _ => k, fun _ => ⟨fun _ => k, fun z => absurd (nI_le (by omega) (by omega)) z⟩⟩
      · have e : (if cK I c 6 < prc I (cK I c 0) (nI t) - prc I (cK I c 0) (cK I c 1) then nI t else (if -(prc I (cK I c 0) (nI t) - prc I (cK I c 0) (cK I c 1)) ≤ cK I c 6 then nI (bkN I c) else nI t)) = nI (bkN I c) := by
          have g1 : ¬ cK I c 6 < prc I (cK I c 0) (nI t) - prc I (cK I c 0) (cK I c 1) := fun z => hoff (ho.mpr (Or.inl z))
          have g2 : -(prc I (cK I c 0) (nI t) - prc I (cK I c 0) (cK I c 1)) ≤ cK I c 6 := Classical.byContradiction (fun z => hoff (ho.mpr (Or.inr z)))
          rw [if_neg g1, if_pos g2]
        rw [e]
        refine ends_loop h hc h2 k m (t + 1) (by omega) (by omega) ?_
        rcases Nat.lt_or_ge t (foN I c) with q2 | q2
        · exact q2
        · exfalso
          have : foN I c = t := by omega
          have := f.2.2.2 (by omega)
          rw [show foN I c = t by omega] at this
          exact hoff this
theorem tX12_ends {E : aE} {P : Int32 → hI_ → hJ_ → Prop} {I : hI_} {J : hJ_} {c : Int32} (hc0 : cOK I c) (k : P (nI (endN I c.toNatClampNeg)) I J) : CallI E mX12_ends [.ref 68, .int c] SH I J P := by
  obtain ⟨h, x, hx, rfl⟩ := id hc0
  have hC := (Rel_C h).2.2
  rw [nI_clamp (by omega)] at k
  have hm := cK_min h hx
  have f := fo_lo (I := I) (c := x) hm.2
  have hb := cK_bet h hx
  have hbk : bkN I x ≤ 10000 := by
    rcases cK_back h hx with ⟨h1, -⟩ | ⟨-, h1, -⟩ <;> omega
  have i : ∀ j, j < 8 → inC (nI x) (nI j) := fun j hj => inC_nI (by omega) hj
  have e0 : its I (nI x) 0 = cK I x 0 := its_cK (j := 0) (by omega) (by omega)
  have e1 : its I (nI x) 1 = cK I x 1 := its_cK (j := 1) (by omega) (by omega)
  have e5 : its I (nI x) 5 = cK I x 5 := its_cK (j := 5) (by omega) (by omega)
  have e6 : its I (nI x) 6 = cK I x 6 := its_cK (j := 6) (by omega) (by omega)
  refine wX12_ends ?_
  rw [e0, e1, e5, e6, tbk_N h hx]
  refine ⟨i 7 (by omega), i 5 (by omega), fun _ => i 6 (by omega), fun _ _ => i 6 (by omega), i 5 (by omega), fun n2 => ?_, fun i2 => ⟨i 0 (by omega), i 1 (by omega), cK_place h hx, i 1 (by omega), ?_⟩⟩
  · unfold endN at k
    by_cases i1 : cK I x 5 = 1
    · rw [if_pos i1] at k
      rw [if_neg (fun q => q i1)]
      have hv := hb.2.2.2.2.2.2.1 i1
      have hv0 : 0 ≤ (cK I x 6).toInt := by have := hv.1; have := hb.2.1.1; omega
      have ev : cK I x 6 + 1 = nI ((cK I x 6).toInt.toNat + 1) := by rw [← nI_1, ← ofT hv0]
      have hv9 : (cK I x 6).toInt.toNat ≤ 999 := by have := hv.2; omega
      rw [ev]
      by_cases g : bkN I x ≤ (cK I x 6).toInt.toNat + 1
      · rw [if_pos (nI_le g (by omega))]
        rw [Nat.min_eq_left g] at k; exact k
      · rw [if_neg (nI_ge (by omega) (by omega))]
        rw [Nat.min_eq_right (by omega)] at k; exact k
    · rw [if_neg i1, if_neg n2] at k
      rw [if_pos i1]; exact k
  · have n1 : ¬ cK I x 5 = 1 := by rw [i2]; decide
    unfold endN at k
    rw [if_neg n1, if_pos i2] at k
    rw [if_pos n1, show cK I x 1 + 1 = nI (mN I x + 1) from by rw [hm.1, nI_1]]
    exact ends_loop h hx i2 k (999 - mN I x) (mN I x + 1) (by omega) (by omega) f.1
set_option maxHeartbeats 4000000 in
set_option maxRecDepth 20000 in
theorem wX12_standsIn {E : aE} {P : Int32 → hI_ → hJ_ → Prop} {I : hI_} {J : hJ_} {a0 : Int32} {a1 : Int32} (k : (inC a0 (1 : Int32)) ∧ ((((its I a0 (1 : Int32)) ≤ a1 ∧ a1 ≤ (999 : Int32))) → cOK I a0) ∧ P (b2i (((its I a0 (1 : Int32)) ≤ a1 ∧ a1 ≤ (999 : Int32)) ∧ (¬ ((nI (endN I a0.toNatClampNeg)) ≤ a1)))) I J) : CallI E mX12_standsIn [.ref 68, .int a0, .int a1] SH I J P := by
  refine Call_of (L := [.ref 68, .int a0, .int a1]) ok_X12_standsIn.1 rfl rfl ?_
  refine V_iload_n dX12_standsIn_0 rfl ?_
  refine V_i2l dX12_standsIn_1 ?_
  refine V_aload_n dX12_standsIn_2 rfl ?_
  refine V_iload_n dX12_standsIn_3 rfl ?_
  refine V_iconst (v := (1 : Int32)) dX12_standsIn_4 rfl ?_
  obtain ⟨hp1, k⟩ := k
  refine U_callV1 [.int a0, .int (1 : Int32)] dX12_standsIn_5 ov_X12_202 s_68 rfl ⟨rfl, rfl, rfl⟩ rfl rfl rfl (tX12_its hp1 ?_)
  refine V_i2l dX12_standsIn_8 ?_
  refine V_ldc2_w (v := (999 : Int64)) dX12_standsIn_9 (gt_6 19 rfl rfl) ?_
  refine U_callS1 [.long a1.toInt64, .long ((its I a0 (1 : Int32)).toInt64), .long (999 : Int64)] dX12_standsIn_12 os_X12_91 ⟨rfl, rfl, rfl⟩ rfl rfl rfl (tX12_in32 (v := a1) (lo := (its I a0 (1 : Int32))) (hi := (999 : Int32)) rfl rfl (by decide) ?_)
  obtain ⟨hc2005, k⟩ := k
  have key2 : ∀ (y2004 : Int32), y2004 = (b2i (((its I a0 (1 : Int32)) ≤ a1 ∧ a1 ≤ (999 : Int32)) ∧ (¬ ((nI (endN I a0.toNatClampNeg)) ≤ a1)))) → V E mX12_standsIn (kI SH P) 32 [.ref 68, .int a0, .int a1] [.int y2004] (SH, I, J) (0, 0) := by
    intro y2004 ey2004
    subst ey2004
    exact V_iret dX12_standsIn_32 ⟨_, rfl, b2i_nar⟩ rfl rfl ⟨_, _, _, rfl, rfl, k⟩
  refine U_ifb_eq dX12_standsIn_15 (fun c2006 => ?_) (fun c2006 => ?_)
  · refine V_iconst (v := (0 : Int32)) dX12_standsIn_31 rfl ?_
    exact key2 _ ((b2i_0.mpr (fun q => c2006 q.1)).symm)
  · refine V_iload_n dX12_standsIn_18 rfl ?_
    refine V_aload_n dX12_standsIn_19 rfl ?_
    refine V_iload_n dX12_standsIn_20 rfl ?_
    have hp2003 := hc2005 c2006
    refine U_callV1 [.int a0] dX12_standsIn_21 ov_X12_213 s_68 rfl ⟨rfl, rfl, rfl⟩ rfl rfl rfl (tX12_ends hp2003 ?_)
    refine V_icmp_ge dX12_standsIn_24 (fun c2007 => ?_) (fun c2007 => ?_)
    · refine V_iconst (v := (0 : Int32)) dX12_standsIn_31 rfl ?_
      exact key2 _ ((b2i_0.mpr (fun q => (fun q => q c2007) q.2)).symm)
    · refine V_iconst (v := (1 : Int32)) dX12_standsIn_27 rfl ?_
      refine V_goto dX12_standsIn_28 ?_
      exact key2 _ ((b2i_1.mpr (⟨c2006, c2007⟩)).symm)
theorem tX12_standsIn {E : aE} {P : Int32 → hI_ → hJ_ → Prop} {I : hI_} {J : hJ_} {c t : Int32} (hc0 : cOK I c) (k : P (b2i (stB I c t = true)) I J) : CallI E mX12_standsIn [.ref 68, .int c, .int t] SH I J P := by
  obtain ⟨h, x, hx, rfl⟩ := id hc0
  have hC := (Rel_C h).2.2
  have hl := lu_le I x
  have he := endN_le h hx
  have e1' : its I (nI x) 1 = cK I x 1 := its_cK (j := 1) (by omega) (by omega)
  have e := b2i_congr (p := stB I (nI x) t = true) (q := ((cK I x 1 ≤ t ∧ t ≤ 999) ∧ ¬ (nI (endN I x) ≤ t))) (by
    unfold stB
    rw [decide_eq_true_eq, e1', nI_clamp (by omega), Int32.not_le, Int32.lt_iff_toInt_lt, Int32.lt_iff_toInt_lt, Int32.le_iff_toInt_le, Int32.le_iff_toInt_le, nI_toInt (by omega), nI_toInt (by omega)]
    have z : (999 : Int32).toInt = 999 := rfl
    unfold lu
    omega)
  rw [e] at k
  refine wX12_standsIn ?_
  rw [e1', nI_clamp (by omega)]
  exact ⟨inC_nI (j := 1) (by omega) (by omega), fun _ => hc0, k⟩
set_option maxHeartbeats 4000000 in
set_option maxRecDepth 20000 in
theorem wX11_stands {E : aE} {P : Int32 → hI_ → hJ_ → Prop} {I : hI_} {J : hJ_} {a0 : Int32} {a1 : Int32} (k : ((¬ (0 ≤ a0 ∧ a0 ≤ I 24 3 - 1) → P (-1 : Int32) I J) ∧ ((0 ≤ a0 ∧ a0 ≤ I 24 3 - 1) → (((0 ≤ a1 ∧ a1 ≤ 999) → (cOK I a0) ∧ P (b2i ((stB I a0 a1 = true))) I J) ∧ (¬ ((0 ≤ a1 ∧ a1 ≤ 999)) → P (-1 : Int32) I J))))) : CallI E mX11_stands [.ref 0, .int a0, .int a1] SH I J P := by
  refine Call_of (L := [.ref 0, .int a0, .int a1]) ok_X11_stands.1 rfl rfl ?_
  refine V_aload_n dX11_stands_0 rfl ?_
  refine V_iload_n dX11_stands_1 rfl ?_
  refine U_callV1 [.int a0] dX11_stands_2 ov_X11_206 s_0 rfl ⟨rfl, rfl, rfl⟩ rfl rfl rfl (tX11_isCall ?_)
  refine U_ifb_eq dX11_stands_5 (fun c1 => ?_) (fun c1 => ?_)
  · have k := k.1 c1
    refine V_iconst (v := (-1 : Int32)) dX11_stands_15 rfl ?_
    exact V_iret dX11_stands_16 ⟨_, rfl, rfl⟩ rfl rfl ⟨_, _, _, rfl, rfl, k⟩
  · have k := k.2 c1
    refine V_iload_n dX11_stands_8 rfl ?_
    refine U_callS1 [.int a1] dX11_stands_9 os_X11_159 ⟨rfl, rfl, rfl⟩ rfl rfl rfl (tX11_isMinute ?_)
    refine U_ifb_ne dX11_stands_12 (fun c2 => ?_) (fun c2 => ?_)
    · have k := k.1 c2
      refine V_aload_n dX11_stands_17 rfl ?_
      refine U_getR dX11_stands_18 fl_X11_47 s_0 rfl ?_
      refine V_iload_n dX11_stands_21 rfl ?_
      refine V_iload_n dX11_stands_22 rfl ?_
      obtain ⟨hp3, k⟩ := k
      refine U_callV1 [.int a0, .int a1] dX11_stands_23 ov_X11_224 s_21 rfl ⟨rfl, rfl, rfl⟩ rfl rfl rfl (tX1_isUp hp3 ?_)
      have key4 : ∀ (y2005 : Int32), y2005 = (b2i ((stB I a0 a1 = true))) → V E mX11_stands (kI SH P) 34 [.ref 0, .int a0, .int a1] [.int y2005] (SH, I, J) (0, 0) := by
        intro y2005 ey2005
        subst ey2005
        exact V_iret dX11_stands_34 ⟨_, rfl, rfl⟩ rfl rfl ⟨_, _, _, rfl, rfl, k⟩
      refine U_ifb_eq dX11_stands_26 (fun c2006 => ?_) (fun c2006 => ?_)
      · refine V_iconst (v := (0 : Int32)) dX11_stands_33 rfl ?_
        exact key4 _ ((b2i_0.mpr (fun q => c2006 q)).symm)
      · refine V_iconst (v := (1 : Int32)) dX11_stands_29 rfl ?_
        refine V_goto dX11_stands_30 ?_
        exact key4 _ ((b2i_1.mpr (c2006)).symm)
    · have k := k.2 c2
      refine V_iconst (v := (-1 : Int32)) dX11_stands_15 rfl ?_
      exact V_iret dX11_stands_16 ⟨_, rfl, rfl⟩ rfl rfl ⟨_, _, _, rfl, rfl, k⟩
set_option maxHeartbeats 4000000 in
set_option maxRecDepth 20000 in
theorem wX12_stands {E : aE} {P : Int32 → hI_ → hJ_ → Prop} {I : hI_} {J : hJ_} {a0 : Int32} {a1 : Int32} (k : (((0 ≤ a0 ∧ a0 ≤ I 82 281 - 1)) → ((0 ≤ a1 ∧ a1 ≤ 999)) → cOK I a0) ∧ P (if ¬ (0 ≤ a0 ∧ a0 ≤ I 82 281 - 1) then (-1 : Int32) else (if ¬ (0 ≤ a1 ∧ a1 ≤ 999) then (-1 : Int32) else (if ¬ (stB I a0 a1 = true) then (0 : Int32) else (1 : Int32)))) I J) : CallI E mX12_stands [.ref 68, .int a0, .int a1] SH I J P := by
  refine Call_of (L := [.ref 68, .int a0, .int a1]) ok_X12_stands.1 rfl rfl ?_
  refine V_aload_n dX12_stands_0 rfl ?_
  refine V_iload_n dX12_stands_1 rfl ?_
  refine U_callV1 [.int a0] dX12_stands_2 ov_X12_207 s_68 rfl ⟨rfl, rfl, rfl⟩ rfl rfl rfl (tX12_isCall ?_)
  obtain ⟨hc2004, k⟩ := k
  have key1 : ∀ (y2003 : Int32), y2003 = (if ¬ (0 ≤ a0 ∧ a0 ≤ I 82 281 - 1) then (-1 : Int32) else (if ¬ (0 ≤ a1 ∧ a1 ≤ 999) then (-1 : Int32) else (if ¬ (stB I a0 a1 = true) then (0 : Int32) else (1 : Int32)))) → V E mX12_stands (kI SH P) 33 [.ref 68, .int a0, .int a1] [.int y2003] (SH, I, J) (0, 0) := by
    intro y2003 ey2003
    subst ey2003
    exact V_iret dX12_stands_33 ⟨_, rfl, rfl⟩ rfl rfl ⟨_, _, _, rfl, rfl, k⟩
  refine U_ifb_eq dX12_stands_5 (fun c2005 => ?_) (fun c2005 => ?_)
  · refine V_iconst (v := (-1 : Int32)) dX12_stands_32 rfl ?_
    exact key1 _ (by rw [if_pos c2005])
  · refine V_iload_n dX12_stands_8 rfl ?_
    refine U_callS1 [.int a1] dX12_stands_9 os_X12_179 ⟨rfl, rfl, rfl⟩ rfl rfl rfl (tX12_isMinute ?_)
    refine U_ifb_eq dX12_stands_12 (fun c2006 => ?_) (fun c2006 => ?_)
    · refine V_iconst (v := (-1 : Int32)) dX12_stands_32 rfl ?_
      exact key1 _ (by rw [if_neg (not_not_intro c2005), if_pos c2006])
    · refine V_aload_n dX12_stands_15 rfl ?_
      refine V_iload_n dX12_stands_16 rfl ?_
      refine V_iload_n dX12_stands_17 rfl ?_
      have hp2002 := hc2004 c2005 c2006
      refine U_callV1 [.int a0, .int a1] dX12_stands_18 ov_X12_227 s_68 rfl ⟨rfl, rfl, rfl⟩ rfl rfl rfl (tX12_standsIn hp2002 ?_)
      refine U_ifb_eq dX12_stands_21 (fun c2007 => ?_) (fun c2007 => ?_)
      · refine V_iconst (v := (0 : Int32)) dX12_stands_28 rfl ?_
        refine V_goto dX12_stands_29 ?_
        exact key1 _ (by rw [if_neg (not_not_intro c2005), if_neg (not_not_intro c2006), if_pos c2007])
      · refine V_iconst (v := (1 : Int32)) dX12_stands_24 rfl ?_
        refine V_goto dX12_stands_25 ?_
        exact key1 _ (by rw [if_neg (not_not_intro c2005), if_neg (not_not_intro c2006), if_neg (not_not_intro c2007)])
theorem Rel_nc {I : hI_} (h : Rel I) : I 24 3 = I 82 281 := h.2.2.2.1.2.1.1
theorem Rel_nd {I : hI_} (h : Rel I) : I 26 3 = I 82 282 := h.2.2.2.1.2.2.1
theorem Rel_isC {I : hI_} (h : Rel I) {c : Int32} (hc : 0 ≤ c ∧ c ≤ I 82 281 - 1) : cOK I c := ⟨h, in_lt (by have := (Rel_C h).2.2; omega) (by rw [(Rel_C h).2.1] at hc; exact hc)⟩
theorem op_stands {E : aE} {I : hI_} {J : hJ_} {P : hI_ → hJ_ → Prop} {a b : Int32} (h : Rel I) (hP : ∀ I2 J2, Rel I2 → P I2 J2) : Op2 E mX11_stands mX12_stands [.int a, .int b] I J P := by
  have e := Rel_nc h
  have hM : ∀ x : Int32, x = (if ¬ (0 ≤ a ∧ a ≤ I 82 281 - 1) then (-1 : Int32) else (if ¬ (0 ≤ b ∧ b ≤ 999) then (-1 : Int32) else (if ¬ (stB I a b = true) then (0 : Int32) else (1 : Int32)))) → CallI E mX12_stands [.ref 68, .int a, .int b] SH I J (fun r2 I2 J2 => x = r2 ∧ P I2 J2) := fun x hx => wX12_stands ⟨fun c _ => Rel_isC h c, hx, hP I J h⟩
  refine wX11_stands ⟨fun c1 => hM _ ?_, fun c1 => ⟨fun c2 => ⟨Rel_isC h (by rw [← e]; exact c1), hM _ ?_⟩, fun c2 => hM _ ?_⟩⟩
  · rw [e] at c1; rw [if_pos c1]
  · rw [e] at c1; rw [if_neg (fun q => q c1), if_neg (fun q => q c2)]
    unfold b2i
    by_cases q : stB I a b = true
    · rw [if_pos q, if_neg (fun z => z q)]
    · rw [if_neg q, if_pos q]
  · rw [e] at c1; rw [if_neg (fun q => q c1), if_pos c2]
