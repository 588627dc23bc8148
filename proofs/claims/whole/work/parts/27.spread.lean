/-! the class's way of looking for news: the place that is reached first goes on -/
theorem Rel_way {I : hI_} (h : Rel I) {a b : Nat} (ha : a < 5) (hb : b < 5) : I 5 (prN a b) = nI ((wI I).1 a b) ∧ I 75 (5 * a + b) = nI ((wI I).1 a b) ∧ (wI I).1 a b ≤ 99 ∧ (0 < (wI I).1 a b → a < nP I ∧ b < nP I ∧ a ≠ b) := by
  obtain ⟨w1, w2, w3⟩ := h.2.1.2.2.2.2.2.2.2.2.1 a b ha hb
  have hP := Rel_P h
  have e0 : (wI I).1 a b = (I 75 (5 * a + b)).toInt.toNat := by
    show (if a < 5 ∧ b < 5 then (I 75 (5 * a + b)).toInt.toNat else 0) = _
    rw [if_pos ⟨ha, hb⟩]
  have e : I 75 (5 * a + b) = nI ((wI I).1 a b) := by rw [e0]; exact ofT w2.1
  rw [hP.2.1, nI_toInt (by omega)] at w3
  refine ⟨w1.trans e, e, by rw [e0]; have := w2.2; omega, fun q => ?_⟩
  have := w3 (by omega)
  omega
theorem Rel_way0 {I : hI_} (h : Rel I) {a b : Nat} (hq : 0 < (wI I).1 a b) : a < nP I ∧ b < nP I ∧ a ≠ b := by
  have h5 := (Rel_wok h).2.2.2.2 a b hq
  exact (Rel_way h h5.1 h5.2.1).2.2.2 hq
theorem nIz {x : Nat} (h : x < 1000000) : nI x ≤ 0 ↔ x = 0 := by
  rw [show (0 : Int32) = nI 0 from rfl, nI_leI (by omega) (by omega)]
  omega
theorem jmin_nI {a b : Nat} (ha : a < 1000000) (hb : b < 1000000) : jmin (nI a) (nI b) = nI (min a b) := by
  unfold jmin
  by_cases h : b < a
  · rw [if_pos (nI_lt h (by omega)), Nat.min_eq_right (by omega)]
  · rw [if_neg (nI_nlt (by omega) (by omega)), Nat.min_eq_left (by omega)]
theorem jmax_nI {a b : Nat} (ha : a < 1000000) (hb : b < 1000000) : jmax (nI a) (nI b) = nI (max a b) := by
  unfold jmax
  by_cases h : a < b
  · rw [if_pos (nI_lt h (by omega)), Nat.max_eq_right (by omega)]
  · rw [if_neg (nI_nlt (by omega) (by omega)), Nat.max_eq_left (by omega)]
def bitChk : Bool := (List.range 32).all (fun g => (List.range 5).all (fun a => decide (((((nI g) >>> (nI a &&& 31)) &&& (1 : Int32)) = 0) ↔ g.testBit a = false) && (decide ((nI g ||| ((1 : Int32) <<< (nI a &&& 31))) = nI (g ||| 2 ^ a)) && (decide (g ||| 2 ^ a < 32) && (List.range 5).all (fun b => decide ((g ||| 2 ^ a).testBit b = (g.testBit b || decide (b = a))))))))
theorem bitChk_t : bitChk = true := by decide +kernel
theorem bit5 {g a : Nat} (hg : g < 32) (ha : a < 5) : (((((nI g) >>> (nI a &&& 31)) &&& (1 : Int32)) = 0) ↔ g.testBit a = false) ∧ (nI g ||| ((1 : Int32) <<< (nI a &&& 31))) = nI (g ||| 2 ^ a) ∧ g ||| 2 ^ a < 32 ∧ ∀ b, b < 5 → (g ||| 2 ^ a).testBit b = (g.testBit b || decide (b = a)) := by
  have h1 := List.all_eq_true.mp bitChk_t g (List.mem_range.mpr hg)
  have h2 := List.all_eq_true.mp h1 a (List.mem_range.mpr ha)
  simp only [Bool.and_eq_true, decide_eq_true_eq] at h2
  refine ⟨h2.1, h2.2.1, h2.2.2.1, fun b hb => ?_⟩
  exact of_decide_eq_true (List.all_eq_true.mp h2.2.2.2 b (List.mem_range.mpr hb))
def ag1 (c : Nat) (I I2 : hI_) : Prop := ∀ a, a ≠ c → I2 a = I a
theorem ag1_rf {c : Nat} {I : hI_} : ag1 c I I := fun _ _ => rfl
theorem ag1_tr {c : Nat} {I I2 I3 : hI_} (h1 : ag1 c I I2) (h2 : ag1 c I2 I3) : ag1 c I I3 := fun a h => (h2 a h).trans (h1 a h)
theorem ag1_up {c i : Nat} {I : hI_} {v : Int32} : ag1 c I (upI I c i v) := fun a h => by simp [upI, h]
theorem ag1_X {c : Nat} {I I2 : hI_} (h : scX c = true) (h1 : ag1 c I I2) : agX I I2 := fun a ha => h1 a (fun e => by subst e; rw [h] at ha; cases ha)
theorem wI_X {I I2 : hI_} (h : agX I I2) : wI I2 = wI I := by unfold wI; rw [h 73 rfl, h 75 rfl, h 76 rfl]
theorem nP_X {I I2 : hI_} (h : agX I I2) : nP I2 = nP I := by unfold nP; rw [h 73 rfl]
def HX2_firstReached_4 (E : aE) (P : Int32 → hI_ → hJ_ → Prop) (v1 : Int32) (v2 : Int32) (v3 : Int32) (I : hI_) (J : hJ_) : Prop := V E mX2_firstReached (kI SH P) 4 [.ref 18, .int v1, .int v2, .int v3] [] (SH, I, J) (0, 0)
set_option maxHeartbeats 4000000 in
set_option maxRecDepth 20000 in
theorem wX2_firstReached {E : aE} {P : Int32 → hI_ → hJ_ → Prop} {I : hI_} {J : hJ_} {a0 : Int32} (k : HX2_firstReached_4 E P a0 (-1 : Int32) (0 : Int32) I J) : CallI E mX2_firstReached [.ref 18, .int a0] SH I J P := by
  refine Call_of (L := [.ref 18, .int a0, .retAddr 0, .retAddr 0]) ok_X2_firstReached.1 rfl rfl ?_
  refine V_iconst (v := (-1 : Int32)) dX2_firstReached_0 rfl ?_
  refine U_istore_n (L2 := [.ref 18, .int a0, .int (-1 : Int32), .retAddr 0]) dX2_firstReached_1 (by decide) rfl ?_
  refine V_iconst (v := (0 : Int32)) dX2_firstReached_2 rfl ?_
  refine U_istore_n (L2 := [.ref 18, .int a0, .int (-1 : Int32), .int (0 : Int32)]) dX2_firstReached_3 (by decide) rfl ?_
  exact k
set_option maxHeartbeats 4000000 in
set_option maxRecDepth 20000 in
theorem wX2_firstReached_4 {E : aE} {P : Int32 → hI_ → hJ_ → Prop} {I : hI_} {J : hJ_} {v1 : Int32} {v2 : Int32} {v3 : Int32} (k : (((I 3 6) ≤ v3 → P v2 I J) ∧ (¬ ((I 3 6) ≤ v3) → ((((v1 >>> (v3 &&& 31)) &&& (1 : Int32)) = (0 : Int32)) → vp_in v3 5) ∧ ((((v1 >>> (v3 &&& 31)) &&& (1 : Int32)) = (0 : Int32)) → (¬ ((10000 : Int32) ≤ (I 19 v3.toNatClampNeg))) → (¬ (v2 < (0 : Int32))) → vp_in v3 5) ∧ ((((v1 >>> (v3 &&& 31)) &&& (1 : Int32)) = (0 : Int32)) → (¬ ((10000 : Int32) ≤ (I 19 v3.toNatClampNeg))) → (¬ (v2 < (0 : Int32))) → vp_in v2 5) ∧ HX2_firstReached_4 E P v1 (if ¬ ((v1 >>> (v3 &&& 31)) &&& (1 : Int32)) = (0 : Int32) then v2 else (if (10000 : Int32) ≤ (I 19 v3.toNatClampNeg) then v2 else (if v2 < (0 : Int32) then v3 else (if (I 19 v2.toNatClampNeg) ≤ (I 19 v3.toNatClampNeg) then v2 else v3)))) (v3 + (1 : Int32)) I J))) : HX2_firstReached_4 E P v1 v2 v3 I J := by
  show V E mX2_firstReached (kI SH P) 4 [.ref 18, .int v1, .int v2, .int v3] [] (SH, I, J) (0, 0)
  refine V_iload_n dX2_firstReached_4 rfl ?_
  refine V_aload_n dX2_firstReached_5 rfl ?_
  refine U_getR dX2_firstReached_6 fl_X2_18 s_18 rfl ?_
  refine U_getI dX2_firstReached_9 fl_X2_28 s_3 rfl ?_
  refine V_icmp_ge dX2_firstReached_12 (fun c1 => ?_) (fun c1 => ?_)
  · have k := k.1 c1
    refine V_iload_n dX2_firstReached_62 rfl ?_
    exact V_iret dX2_firstReached_63 ⟨_, rfl, rfl⟩ rfl rfl ⟨_, _, _, rfl, rfl, k⟩
  · have k := k.2 c1
    refine V_iload_n dX2_firstReached_15 rfl ?_
    refine V_iload_n dX2_firstReached_16 rfl ?_
    refine V_ishr dX2_firstReached_17 ?_
    refine V_iconst (v := (1 : Int32)) dX2_firstReached_18 rfl ?_
    refine V_iand dX2_firstReached_19 ?_
    obtain ⟨hc2007, hc2008, hc2009, k⟩ := k
    have key2 : ∀ (y2006 : Int32), y2006 = (if ¬ ((v1 >>> (v3 &&& 31)) &&& (1 : Int32)) = (0 : Int32) then v2 else (if (10000 : Int32) ≤ (I 19 v3.toNatClampNeg) then v2 else (if v2 < (0 : Int32) then v3 else (if (I 19 v2.toNatClampNeg) ≤ (I 19 v3.toNatClampNeg) then v2 else v3)))) → V E mX2_firstReached (kI SH P) 56 [.ref 18, .int v1, .int y2006, .int v3] [] (SH, I, J) (0, 0) := by
      intro y2006 ey2006
      subst ey2006
      refine U_iinc (v := v3 + (1 : Int32)) (L2 := [.ref 18, .int v1, .int (if ¬ ((v1 >>> (v3 &&& 31)) &&& (1 : Int32)) = (0 : Int32) then v2 else (if (10000 : Int32) ≤ (I 19 v3.toNatClampNeg) then v2 else (if v2 < (0 : Int32) then v3 else (if (I 19 v2.toNatClampNeg) ≤ (I 19 v3.toNatClampNeg) then v2 else v3)))), .int (v3 + (1 : Int32))]) dX2_firstReached_56 (by decide) rfl rfl rfl ?_
      refine V_goto dX2_firstReached_59 ?_
      exact k
    refine V_if_ne dX2_firstReached_20 (fun c2010 => ?_) (fun c2010 => ?_)
    · exact key2 _ (by rw [if_pos c2010])
    · refine V_aload_n dX2_firstReached_23 rfl ?_
      refine U_getR dX2_firstReached_24 fl_X2_9 s_18 rfl ?_
      refine V_iload_n dX2_firstReached_27 rfl ?_
      have hb2003 := hc2007 c2010
      refine U_iald dX2_firstReached_28 s_19 hb2003 ?_
      refine V_sipush (v := (10000 : Int32)) dX2_firstReached_29 rfl ?_
      refine V_icmp_ge dX2_firstReached_32 (fun c2011 => ?_) (fun c2011 => ?_)
      · exact key2 _ (by rw [if_neg (not_not_intro c2010), if_pos c2011])
      · refine V_iload_n dX2_firstReached_35 rfl ?_
        refine V_if_lt dX2_firstReached_36 (fun c2012 => ?_) (fun c2012 => ?_)
        · refine V_iload_n dX2_firstReached_54 rfl ?_
          refine U_istore_n (L2 := [.ref 18, .int v1, .int v3, .int v3]) dX2_firstReached_55 (by decide) rfl ?_
          exact key2 _ (by rw [if_neg (not_not_intro c2010), if_neg c2011, if_pos c2012])
        · refine V_aload_n dX2_firstReached_39 rfl ?_
          refine U_getR dX2_firstReached_40 fl_X2_9 s_18 rfl ?_
          refine V_iload_n dX2_firstReached_43 rfl ?_
          have hb2004 := hc2008 c2010 c2011 c2012
          refine U_iald dX2_firstReached_44 s_19 hb2004 ?_
          refine V_aload_n dX2_firstReached_45 rfl ?_
          refine U_getR dX2_firstReached_46 fl_X2_9 s_18 rfl ?_
          refine V_iload_n dX2_firstReached_49 rfl ?_
          have hb2005 := hc2009 c2010 c2011 c2012
          refine U_iald dX2_firstReached_50 s_19 hb2005 ?_
          refine V_icmp_ge dX2_firstReached_51 (fun c2013 => ?_) (fun c2013 => ?_)
          · exact key2 _ (by rw [if_neg (not_not_intro c2010), if_neg c2011, if_neg c2012, if_pos c2013])
          · refine V_iload_n dX2_firstReached_54 rfl ?_
            refine U_istore_n (L2 := [.ref 18, .int v1, .int v3, .int v3]) dX2_firstReached_55 (by decide) rfl ?_
            exact key2 _ (by rw [if_neg (not_not_intro c2010), if_neg c2011, if_neg c2012, if_neg c2013])
theorem firstR_loop {E : aE} {P : Int32 → hI_ → hJ_ → Prop} {I : hI_} {J : hJ_} {g : Nat} {D : Nat → Nat} (h : Rel I) (hg : g < 32) (hD : ∀ j, j < 5 → I 19 j = nI (D j)) (hD2 : ∀ j, D j ≤ 10000) (k1 : (∀ a, a < nP I → g.testBit a = false → 10000 ≤ D a) → P (-1) I J) (k2 : ∀ x, x < nP I → g.testBit x = false → D x < 10000 → (∀ b, b < nP I → g.testBit b = false → D x ≤ D b) → P (nI x) I J) : ∀ (m i : Nat) (best : Int32), i + m = nP I → ((best = -1 ∧ ∀ a, a < i → g.testBit a = false → 10000 ≤ D a) ∨ (∃ x, x < i ∧ best = nI x ∧ g.testBit x = false ∧ D x < 10000 ∧ ∀ b, b < i → g.testBit b = false → D x ≤ D b)) → HX2_firstReached_4 E P (nI g) best (nI i) I J
  | 0, i, best, hi, hb => by
    have hP := Rel_P h
    have : i = nP I := by omega
    subst this
    refine wX2_firstReached_4 ⟨fun _ => ?_, fun q => absurd (by rw [hP.1]; exact Int32.le_refl _) q⟩
    rcases hb with ⟨rfl, h1⟩ | ⟨x, h1, rfl, h2, h3, h4⟩
    · exact k1 h1
    · exact k2 x h1 h2 h3 h4
  | m + 1, i, best, hi, hb => by
    have hP := Rel_P h
    have b5 := (bit5 hg (a := i) (by omega)).1
    have vin : vp_in (nI i) 5 := vp_in_nI (by omega) (by omega)
    have hDi := hD2 i
    have e19 := hD i (by omega)
    have vb : ¬ best < 0 → vp_in best 5 := fun q => by
      rcases hb with ⟨rfl, -⟩ | ⟨x, h1, rfl, -⟩
      · exact absurd (by decide) q
      · exact vp_in_nI (by omega) (by omega)
    refine wX2_firstReached_4 ⟨fun q => absurd q (by rw [hP.1]; exact nI_ge (by omega) (by omega)), fun _ => ⟨fun _ => vin, fun _ _ _ => vin, fun _ _ q => vb q, ?_⟩⟩
    rw [nI_clamp (by omega), e19, nI_1]
    have c10 : (10000 : Int32) ≤ nI (D i) ↔ 10000 ≤ D i := nI_leI (a := 10000) (by omega) (by omega)
    by_cases hbit : g.testBit i = false
    · rw [if_neg (fun q => q (b5.mpr hbit))]
      by_cases hn : 10000 ≤ D i
      · rw [if_pos (c10.mpr hn)]
        refine firstR_loop h hg hD hD2 k1 k2 m (i + 1) best (by omega) ?_
        rcases hb with ⟨rfl, h1⟩ | ⟨x, h1, rfl, h2, h3, h4⟩
        · refine Or.inl ⟨rfl, fun a ha hab => ?_⟩
          by_cases e : a = i
          · subst e; exact hn
          · exact h1 a (by omega) hab
        · refine Or.inr ⟨x, by omega, rfl, h2, h3, fun b hbb hb2 => ?_⟩
          by_cases e : b = i
          · subst e; omega
          · exact h4 b (by omega) hb2
      · rw [if_neg (fun q => hn (c10.mp q))]
        rcases hb with ⟨rfl, h1⟩ | ⟨x, h1, rfl, h2, h3, h4⟩
        · rw [if_pos (by decide)]
          refine firstR_loop h hg hD hD2 k1 k2 m (i + 1) _ (by omega) (Or.inr ⟨i, by omega, rfl, hbit, by omega, fun b hbb hb2 => ?_⟩)
          by_cases e : b = i
          · subst e; exact Nat.le_refl _
          · have := h1 b (by omega) hb2; omega
        · rw [if_neg (nI_pos (by omega)), nI_clamp (by omega), hD x (by omega)]
          by_cases hc : D x ≤ D i
          · rw [if_pos (nI_le hc (by omega))]
            refine firstR_loop h hg hD hD2 k1 k2 m (i + 1) _ (by omega) (Or.inr ⟨x, by omega, rfl, h2, h3, fun b hbb hb2 => ?_⟩)
            by_cases e : b = i
            · subst e; exact hc
            · exact h4 b (by omega) hb2
          · rw [if_neg (nI_ge (by omega) (by omega))]
            refine firstR_loop h hg hD hD2 k1 k2 m (i + 1) _ (by omega) (Or.inr ⟨i, by omega, rfl, hbit, by omega, fun b hbb hb2 => ?_⟩)
            by_cases e : b = i
            · subst e; exact Nat.le_refl _
            · have := h4 b (by omega) hb2; omega
    · rw [if_pos (fun q => hbit (b5.mp q))]
      refine firstR_loop h hg hD hD2 k1 k2 m (i + 1) best (by omega) ?_
      rcases hb with ⟨rfl, h1⟩ | ⟨x, h1, rfl, h2, h3, h4⟩
      · refine Or.inl ⟨rfl, fun a ha hab => ?_⟩
        by_cases e : a = i
        · subst e; exact absurd hab hbit
        · exact h1 a (by omega) hab
      · refine Or.inr ⟨x, by omega, rfl, h2, h3, fun b hbb hb2 => ?_⟩
        by_cases e : b = i
        · subst e; exact absurd hb2 hbit
        · exact h4 b (by omega) hb2
def HX2_goOn_2 (E : aE) (P : hI_ → hJ_ → Prop) (v1 : Int32) (v2 : Int32) (I : hI_) (J : hJ_) : Prop := V E mX2_goOn (kV SH P) 2 [.ref 18, .int v1, .int v2, .retAddr 0, .retAddr 0] [] (SH, I, J) (0, 0)
set_option maxHeartbeats 4000000 in
set_option maxRecDepth 20000 in
theorem wX2_goOn {E : aE} {P : hI_ → hJ_ → Prop} {I : hI_} {J : hJ_} {a0 : Int32} (k : HX2_goOn_2 E P a0 (0 : Int32) I J) : CallV E mX2_goOn [.ref 18, .int a0] SH I J P := by
  refine Call_of (L := [.ref 18, .int a0, .retAddr 0, .retAddr 0, .retAddr 0]) ok_X2_goOn.1 rfl rfl ?_
  refine V_iconst (v := (0 : Int32)) dX2_goOn_0 rfl ?_
  refine U_istore_n (L2 := [.ref 18, .int a0, .int (0 : Int32), .retAddr 0, .retAddr 0]) dX2_goOn_1 (by decide) rfl ?_
  exact k
set_option maxHeartbeats 4000000 in
set_option maxRecDepth 20000 in
theorem wX2_goOn_2 {E : aE} {P : hI_ → hJ_ → Prop} {I : hI_} {J : hJ_} {v1 : Int32} {v2 : Int32} (k : (((I 3 6) ≤ v2 → P I J) ∧ (¬ ((I 3 6) ≤ v2) → (vp_in (pr v1 v2) 25) ∧ (((I 5 (pr v1 v2).toNatClampNeg) ≤ (0 : Int32) → HX2_goOn_2 E P v1 (v2 + (1 : Int32)) I J) ∧ (¬ ((I 5 (pr v1 v2).toNatClampNeg) ≤ (0 : Int32)) → (vp_in v1 5) ∧ CallI E mX3_openFrom [.ref 3, .int (pr v1 v2), .int (I 19 v1.toNatClampNeg)] SH I J (fun x5 I6 J7 => (vp_in (pr v1 v2) 25) ∧ (vp_in v2 5) ∧ (vp_in v2 5) ∧ HX2_goOn_2 E P v1 (v2 + (1 : Int32)) (upI I6 19 v2.toNatClampNeg (jmin (I6 19 v2.toNatClampNeg) (x5 + (I6 5 (pr v1 v2).toNatClampNeg)))) J7)))))) : HX2_goOn_2 E P v1 v2 I J := by
  show V E mX2_goOn (kV SH P) 2 [.ref 18, .int v1, .int v2, .retAddr 0, .retAddr 0] [] (SH, I, J) (0, 0)
  refine V_iload_n dX2_goOn_2 rfl ?_
  refine V_aload_n dX2_goOn_3 rfl ?_
  refine U_getR dX2_goOn_4 fl_X2_18 s_18 rfl ?_
  refine U_getI dX2_goOn_7 fl_X2_28 s_3 rfl ?_
  refine V_icmp_ge dX2_goOn_10 (fun c1 => ?_) (fun c1 => ?_)
  · have k := k.1 c1
    exact V_vret dX2_goOn_80 rfl rfl rfl ⟨_, _, rfl, k⟩
  · have k := k.2 c1
    refine V_iload_n dX2_goOn_13 rfl ?_
    refine V_iload_n dX2_goOn_14 rfl ?_
    refine U_callS1 [.int v1, .int v2] dX2_goOn_15 os_X2_42 ⟨rfl, rfl, rfl⟩ rfl rfl rfl (tX3_pair ?_)
    refine U_istore_n (L2 := [.ref 18, .int v1, .int v2, .int (pr v1 v2), .retAddr 0]) dX2_goOn_18 (by decide) rfl ?_
    refine V_aload_n dX2_goOn_19 rfl ?_
    refine U_getR dX2_goOn_20 fl_X2_18 s_18 rfl ?_
    refine U_getR dX2_goOn_23 fl_X2_46 s_3 rfl ?_
    refine V_iload_n dX2_goOn_26 rfl ?_
    obtain ⟨hb2, k⟩ := k
    refine U_iald dX2_goOn_27 s_5 hb2 ?_
    refine V_if_le dX2_goOn_28 (fun c3 => ?_) (fun c3 => ?_)
    · have k := k.1 c3
      refine U_iinc (v := v2 + (1 : Int32)) (L2 := [.ref 18, .int v1, .int (v2 + (1 : Int32)), .int (pr v1 v2), .retAddr 0]) dX2_goOn_74 (by decide) rfl rfl rfl ?_
      refine V_goto dX2_goOn_77 ?_
      exact V_wk (wk_eq (wk_eq (wk_eq (wk_j (wk_j (wk_nil)))))) k
    · have k := k.2 c3
      refine V_aload_n dX2_goOn_31 rfl ?_
      refine U_getR dX2_goOn_32 fl_X2_18 s_18 rfl ?_
      refine V_iload_n dX2_goOn_35 rfl ?_
      refine V_aload_n dX2_goOn_36 rfl ?_
      refine U_getR dX2_goOn_37 fl_X2_9 s_18 rfl ?_
      refine V_iload_n dX2_goOn_40 rfl ?_
      obtain ⟨hb4, k⟩ := k
      refine U_iald dX2_goOn_41 s_19 hb4 ?_
      refine U_callV1 [.int (pr v1 v2), .int (I 19 v1.toNatClampNeg)] dX2_goOn_42 ov_X2_49 s_3 rfl ⟨rfl, rfl, rfl⟩ rfl rfl rfl (CallI_mono k (fun x5 I6 J7 k => ?_))
      refine V_aload_n dX2_goOn_45 rfl ?_
      refine U_getR dX2_goOn_46 fl_X2_18 s_18 rfl ?_
      refine U_getR dX2_goOn_49 fl_X2_46 s_3 rfl ?_
      refine V_iload_n dX2_goOn_52 rfl ?_
      obtain ⟨hb8, k⟩ := k
      refine U_iald dX2_goOn_53 s_5 hb8 ?_
      refine V_iadd dX2_goOn_54 ?_
      refine U_istore (L2 := [.ref 18, .int v1, .int v2, .int (pr v1 v2), .int (x5 + (I6 5 (pr v1 v2).toNatClampNeg))]) dX2_goOn_55 (by decide) rfl ?_
      refine V_aload_n dX2_goOn_57 rfl ?_
      refine U_getR dX2_goOn_58 fl_X2_9 s_18 rfl ?_
      refine V_iload_n dX2_goOn_61 rfl ?_
      refine V_aload_n dX2_goOn_62 rfl ?_
      refine U_getR dX2_goOn_63 fl_X2_9 s_18 rfl ?_
      refine V_iload_n dX2_goOn_66 rfl ?_
      obtain ⟨hb9, k⟩ := k
      refine U_iald dX2_goOn_67 s_19 hb9 ?_
      refine V_iload dX2_goOn_68 rfl ?_
      refine V_mmin dX2_goOn_70 om_X2_52 rfl ?_
      obtain ⟨hb10, k⟩ := k
      refine U_iast dX2_goOn_73 s_19 hb10 ?_
      refine U_iinc (v := v2 + (1 : Int32)) (L2 := [.ref 18, .int v1, .int (v2 + (1 : Int32)), .int (pr v1 v2), .int (x5 + (I6 5 (pr v1 v2).toNatClampNeg))]) dX2_goOn_74 (by decide) rfl rfl rfl ?_
      refine V_goto dX2_goOn_77 ?_
      exact V_wk (wk_eq (wk_eq (wk_eq (wk_j (wk_j (wk_nil)))))) k
def rlx (w : Wld) (D : Nat → Nat) (a j : Nat) : Nat := if 0 < w.1 a j then min (D j) (op (w.2 a j) (D a) + w.1 a j) else D j
theorem goOn_loop {E : aE} {P : hI_ → hJ_ → Prop} {I0 : hI_} {J : hJ_} {a : Nat} {D : Nat → Nat} (h : Rel I0) (ha : a < nP I0) (hD2 : ∀ j, D j ≤ 10000) (k : ∀ I2, ag1 19 I0 I2 → (∀ j, j < 5 → I2 19 j = nI (rlx (wI I0) D a j)) → P I2 J) : ∀ (m b : Nat) (I : hI_), b + m = nP I0 → ag1 19 I0 I → (∀ j, j < 5 → I 19 j = nI (if j < b then rlx (wI I0) D a j else D j)) → HX2_goOn_2 E P (nI a) (nI b) I J
  | 0, b, I, hb, hag, hI => by
    have hP := Rel_P h
    have : b = nP I0 := by omega
    subst this
    refine wX2_goOn_2 ⟨fun _ => k I hag (fun j hj => ?_), fun q => absurd (by rw [hag 3 (by omega), hP.1]; exact Int32.le_refl _) q⟩
    rw [hI j hj]
    by_cases e : j < nP I0
    · rw [if_pos e]
    · rw [if_neg e]
      unfold rlx
      rw [if_neg (fun q => e (Rel_way0 h q).2.1)]
  | m + 1, b, I, hb, hag, hI => by
    have hP := Rel_P h
    have hX : agX I0 I := ag1_X rfl hag
    have hR := Rel_agX hX h
    have hw := wI_X hX
    obtain ⟨w1, w2, w3, w4⟩ := Rel_way h (a := a) (b := b) (by omega) (by omega)
    have hpl := prN_lt (a := a) (b := b) (by omega) (by omega)
    have vpr : vp_in (nI (prN a b)) 25 := vp_in_nI hpl (by omega)
    refine wX2_goOn_2 ⟨fun q => absurd q (by rw [hag 3 (by omega), hP.1]; exact nI_ge (by omega) (by omega)), fun _ => ?_⟩
    rw [pr_nI (by omega) (by omega), nI_clamp (by omega), nI_clamp (by omega), hag 5 (by omega), w1, nI_1]
    refine ⟨vpr, fun c1 => ?_, fun c1 => ⟨vp_in_nI (by omega) (by omega), ?_⟩⟩
    · rw [nIz (by omega)] at c1
      refine goOn_loop h ha hD2 k m (b + 1) I (by omega) hag (fun j hj => ?_)
      rw [hI j hj]
      by_cases e : j = b
      · subst e
        rw [if_neg (by omega), if_pos (by omega)]
        unfold rlx
        rw [if_neg (by omega)]
      · by_cases e2 : j < b
        · rw [if_pos e2, if_pos (by omega)]
        · rw [if_neg e2, if_neg (by omega)]
    · rw [nIz (by omega)] at c1
      have hne := (w4 (by omega)).2.2
      have eA : I 19 a = nI (D a) := by
        rw [hI a (by omega)]
        by_cases e : a < b
        · rw [if_pos e]
          unfold rlx
          rw [if_neg (fun q => (Rel_way0 h q).2.2 rfl)]
        · rw [if_neg e]
      have hDa := hD2 a
      have hDb := hD2 b
      rw [eA]
      refine tX3_openFrom hR (by omega) (by omega) (by omega) ⟨vpr, vp_in_nI (by omega) (by omega), vp_in_nI (by omega) (by omega), ?_⟩
      have ho := op_1000 ((Rel_wok h).1 a b) (t := D a)
      rw [hw, nI_clamp (by omega), hI b (by omega), if_neg (by omega), hag 5 (by omega), w1, nI_add, jmin_nI (by omega) (by omega)]
      refine goOn_loop h ha hD2 k m (b + 1) _ (by omega) (ag1_tr hag ag1_up) (fun j hj => ?_)
      rw [upI_at]
      by_cases e : j = b
      · subst e
        rw [if_pos ⟨rfl, rfl⟩, if_pos (by omega)]
        unfold rlx
        rw [if_pos (by omega)]
      · rw [if_neg (fun q => e q.2), hI j hj]
        by_cases e2 : j < b
        · rw [if_pos e2, if_pos (by omega)]
        · rw [if_neg e2, if_neg (by omega)]
def HX2_spread_39 (E : aE) (P : hI_ → hJ_ → Prop) (v3 : Int32) (v4 : Int32) (I : hI_) (J : hJ_) : Prop := V E mX2_spread (kV SH P) 39 [.ref 18, .retAddr 0, .retAddr 0, .int v3, .int v4, .retAddr 0] [] (SH, I, J) (0, 0)
set_option maxHeartbeats 4000000 in
set_option maxRecDepth 20000 in
theorem wX2_spread {E : aE} {P : hI_ → hJ_ → Prop} {I : hI_} {J : hJ_} {a0 : Int32} {a1 : Int32} (k : ((a0 < (0 : Int32) → P (flI I 19 5 (10000 : Int32)) J) ∧ (¬ (a0 < (0 : Int32)) → (((5 : Int32) ≤ a0 → P (flI I 19 5 (10000 : Int32)) J) ∧ (¬ ((5 : Int32) ≤ a0) → ((a1 < (10000 : Int32) → (vp_in a0 5) ∧ HX2_spread_39 E P (0 : Int32) (0 : Int32) (upI (flI I 19 5 (10000 : Int32)) 19 a0.toNatClampNeg a1) J) ∧ (¬ (a1 < (10000 : Int32)) → P (flI I 19 5 (10000 : Int32)) J))))))) : CallV E mX2_spread [.ref 18, .int a0, .int a1] SH I J P := by
  refine Call_of (L := [.ref 18, .int a0, .int a1, .retAddr 0, .retAddr 0, .retAddr 0]) ok_X2_spread.1 rfl rfl ?_
  refine V_aload_n dX2_spread_0 rfl ?_
  refine U_getR dX2_spread_1 fl_X2_9 s_18 rfl ?_
  refine V_sipush (v := (10000 : Int32)) dX2_spread_4 rfl ?_
  refine U_callS0 [.ref 19, .int (10000 : Int32)] dX2_spread_7 os_X2_22 ⟨rfl, rfl, rfl⟩ rfl rfl rfl (tfillI s_19 (by decide) ?_)
  refine V_iload_n dX2_spread_10 rfl ?_
  refine V_if_lt dX2_spread_11 (fun c1 => ?_) (fun c1 => ?_)
  · have k := k.1 c1
    exact V_vret dX2_spread_26 rfl rfl rfl ⟨_, _, rfl, k⟩
  · have k := k.2 c1
    refine V_iload_n dX2_spread_14 rfl ?_
    refine V_iconst (v := (5 : Int32)) dX2_spread_15 rfl ?_
    refine V_icmp_ge dX2_spread_16 (fun c2 => ?_) (fun c2 => ?_)
    · have k := k.1 c2
      exact V_vret dX2_spread_26 rfl rfl rfl ⟨_, _, rfl, k⟩
    · have k := k.2 c2
      refine V_iload_n dX2_spread_19 rfl ?_
      refine V_sipush (v := (10000 : Int32)) dX2_spread_20 rfl ?_
      refine V_icmp_lt dX2_spread_23 (fun c3 => ?_) (fun c3 => ?_)
      · have k := k.1 c3
        refine V_aload_n dX2_spread_27 rfl ?_
        refine U_getR dX2_spread_28 fl_X2_9 s_18 rfl ?_
        refine V_iload_n dX2_spread_31 rfl ?_
        refine V_iload_n dX2_spread_32 rfl ?_
        obtain ⟨hb4, k⟩ := k
        refine U_iast dX2_spread_33 s_19 hb4 ?_
        refine V_iconst (v := (0 : Int32)) dX2_spread_34 rfl ?_
        refine U_istore_n (L2 := [.ref 18, .int a0, .int a1, .int (0 : Int32), .retAddr 0, .retAddr 0]) dX2_spread_35 (by decide) rfl ?_
        refine V_iconst (v := (0 : Int32)) dX2_spread_36 rfl ?_
        refine U_istore (L2 := [.ref 18, .int a0, .int a1, .int (0 : Int32), .int (0 : Int32), .retAddr 0]) dX2_spread_37 (by decide) rfl ?_
        exact V_wk (wk_eq (wk_j (wk_j (wk_eq (wk_eq (wk_j (wk_nil))))))) k
      · have k := k.2 c3
        exact V_vret dX2_spread_26 rfl rfl rfl ⟨_, _, rfl, k⟩
set_option maxHeartbeats 4000000 in
set_option maxRecDepth 20000 in
theorem wX2_spread_39 {E : aE} {P : hI_ → hJ_ → Prop} {I : hI_} {J : hJ_} {v3 : Int32} {v4 : Int32} (k : (((I 3 6) ≤ v4 → P I J) ∧ (¬ ((I 3 6) ≤ v4) → CallI E mX2_firstReached [.ref 18, .int v3] SH I J (fun x2 I3 J4 => (((0 : Int32) ≤ x2 → CallV E mX2_goOn [.ref 18, .int x2] SH I3 J4 (fun I7 J8 => HX2_spread_39 E P (v3 ||| ((1 : Int32) <<< (x2 &&& 31))) (v4 + (1 : Int32)) I7 J8)) ∧ (¬ ((0 : Int32) ≤ x2) → P I3 J4)))))) : HX2_spread_39 E P v3 v4 I J := by
  show V E mX2_spread (kV SH P) 39 [.ref 18, .retAddr 0, .retAddr 0, .int v3, .int v4, .retAddr 0] [] (SH, I, J) (0, 0)
  refine V_iload dX2_spread_39 rfl ?_
  refine V_aload_n dX2_spread_41 rfl ?_
  refine U_getR dX2_spread_42 fl_X2_18 s_18 rfl ?_
  refine U_getI dX2_spread_45 fl_X2_28 s_3 rfl ?_
  refine V_icmp_ge dX2_spread_48 (fun c1 => ?_) (fun c1 => ?_)
  · have k := k.1 c1
    exact V_vret dX2_spread_83 rfl rfl rfl ⟨_, _, rfl, k⟩
  · have k := k.2 c1
    refine V_aload_n dX2_spread_51 rfl ?_
    refine V_iload_n dX2_spread_52 rfl ?_
    refine U_callV1 [.int v3] dX2_spread_53 ov_X2_34 s_18 rfl ⟨rfl, rfl, rfl⟩ rfl rfl rfl (CallI_mono k (fun x2 I3 J4 k => ?_))
    refine U_istore (L2 := [.ref 18, .retAddr 0, .retAddr 0, .int v3, .int v4, .int x2]) dX2_spread_56 (by decide) rfl ?_
    refine V_iload dX2_spread_58 rfl ?_
    refine V_if_ge dX2_spread_60 (fun c5 => ?_) (fun c5 => ?_)
    · have k := k.1 c5
      refine V_iload_n dX2_spread_64 rfl ?_
      refine V_iconst (v := (1 : Int32)) dX2_spread_65 rfl ?_
      refine V_iload dX2_spread_66 rfl ?_
      refine V_ishl dX2_spread_68 ?_
      refine V_ior dX2_spread_69 ?_
      refine U_istore_n (L2 := [.ref 18, .retAddr 0, .retAddr 0, .int (v3 ||| ((1 : Int32) <<< (x2 &&& 31))), .int v4, .int x2]) dX2_spread_70 (by decide) rfl ?_
      refine V_aload_n dX2_spread_71 rfl ?_
      refine V_iload dX2_spread_72 rfl ?_
      refine U_callV0 [.int x2] dX2_spread_74 ov_X2_38 s_18 rfl ⟨rfl, rfl, rfl⟩ rfl rfl rfl (CallV_mono k (fun I7 J8 k => ?_))
      refine U_iinc (v := v4 + (1 : Int32)) (L2 := [.ref 18, .retAddr 0, .retAddr 0, .int (v3 ||| ((1 : Int32) <<< (x2 &&& 31))), .int (v4 + (1 : Int32)), .int x2]) dX2_spread_77 (by decide) rfl rfl rfl ?_
      refine V_goto dX2_spread_80 ?_
      exact V_wk (wk_eq (wk_j (wk_j (wk_eq (wk_eq (wk_j (wk_nil))))))) k
    · have k := k.2 c5
      exact V_vret dX2_spread_63 rfl rfl rfl ⟨_, _, rfl, k⟩
/-- what holds between two rounds -/
def spI (w : Wld) (a t n : Nat) (D : Nat → Nat) (g i : Nat) : Prop := (∀ j, D j ≤ 10000) ∧ (∀ j, n ≤ j → D j = 10000) ∧ D a ≤ t ∧ (∀ F, clsd w F → F a ≤ t → ∀ v, F v ≤ D v) ∧ (∀ u v, g.testBit u = true → 0 < w.1 u v → D v ≤ op (w.2 u v) (D u) + w.1 u v) ∧ (∀ u v, g.testBit u = true → g.testBit v = false → D u ≤ D v) ∧ g < 32 ∧ (∀ u, g.testBit u = true → u < n) ∧ cntB g.testBit n = i
theorem cntB_all {p : Nat → Bool} : ∀ n, cntB p n = n → ∀ x, x < n → p x = true
  | 0, _, x, hx => by omega
  | n + 1, h, x, hx => by
    unfold cntB at h
    have h1 := cntB_n (p := p) n
    by_cases hp : p n = true
    · rw [if_pos hp] at h
      by_cases e : x = n
      · subst e; exact hp
      · exact cntB_all n (by omega) x (by omega)
    · rw [if_neg hp] at h; omega
theorem cntB_set {p q : Nat → Bool} {a : Nat} (hq : ∀ b, q b = (p b || decide (b = a))) (ha : p a = false) : ∀ n, a < n → cntB q n = cntB p n + 1
  | 0, h => by omega
  | n + 1, h => by
    unfold cntB
    by_cases e : a = n
    · subst e
      have : ∀ m, m ≤ a → cntB q m = cntB p m := by
        intro m
        induction m with
        | zero => intro _; rfl
        | succ m ih =>
          intro hm
          unfold cntB
          rw [ih (by omega), hq m]
          have : ¬ m = a := by omega
          simp [this]
      rw [this a (Nat.le_refl a), hq a, ha]
      simp
    · rw [cntB_set hq ha n (by omega), hq n]
      have : ¬ n = a := fun z => e z.symm
      simp only [this, decide_false, Bool.or_false]
      omega
theorem testBit_lt32 {g b : Nat} (hg : g < 32) (hb : 5 ≤ b) : g.testBit b = false := by
  have h1 : 2 ^ 5 ≤ 2 ^ b := Nat.pow_le_pow_right (by omega) hb
  exact Nat.testBit_lt_two_pow (by omega)
theorem sp_step {w : Wld} (hw : wok w) {a t n : Nat} {D : Nat → Nat} {g i x : Nat} (hn : n ≤ 5) (hS : spI w a t n D g i) (hx : x < n) (hg : g.testBit x = false) (hxm : ∀ b, b < n → g.testBit b = false → D x ≤ D b) (hx1 : D x < 10000) (hwn : ∀ u v, 0 < w.1 u v → u < n ∧ v < n) : spI w a t n (rlx w D x) (g ||| 2 ^ x) (i + 1) := by
  obtain ⟨s1, s2, s3, s4, s5, s6, s7, s8, s9⟩ := hS
  obtain ⟨b1, b2, b3, b4⟩ := bit5 s7 (a := x) (by omega)
  have hle : ∀ j, rlx w D x j ≤ D j := fun j => by unfold rlx; split <;> omega
  have hself : rlx w D x x = D x := by
    unfold rlx
    rw [if_neg (fun q => (hw.2.2.2.2 x x q).2.2 rfl)]
  have hge : ∀ j, g.testBit j = false → D x ≤ rlx w D x j := fun j hj => by
    unfold rlx
    have hxj : D x ≤ D j := by
      rcases Nat.lt_or_ge j n with q | q
      · exact hxm j q hj
      · rw [s2 j q]; omega
    split
    · have := op_ge (w.2 x j) (D x); omega
    · exact hxj
  have hgone : ∀ u, g.testBit u = true → rlx w D x u = D u := fun u hu => by
    unfold rlx
    split
    · have := s6 u x hu hg
      have := op_ge (w.2 x u) (D x)
      omega
    · rfl
  have hbit : ∀ b, (g ||| 2 ^ x).testBit b = (g.testBit b || decide (b = x)) := fun b => by
    rcases Nat.lt_or_ge b 5 with q | q
    · exact b4 b q
    · rw [testBit_lt32 b3 q, testBit_lt32 s7 q]
      have : ¬ b = x := by omega
      simp [this]
  refine ⟨fun j => Nat.le_trans (hle j) (s1 j), fun j hj => ?_, Nat.le_trans (hle a) s3, fun F hF hFa v => ?_, fun u v hu huv => ?_, fun u v hu hv => ?_, b3, fun u hu => ?_, ?_⟩
  · unfold rlx
    rw [if_neg (fun q => by have := (hwn x j q).2; omega)]
    exact s2 j hj
  · unfold rlx
    have h1 := s4 F hF hFa v
    split
    · rename_i q
      have h2 := hF.2 x v q
      have h3 := op_mono (hw.1 x v) (s4 F hF hFa x)
      omega
    · exact h1
  · rw [hbit] at hu
    simp only [Bool.or_eq_true, decide_eq_true_eq] at hu
    rcases hu with hu | hu
    · rw [hgone u hu]
      exact Nat.le_trans (hle v) (s5 u v hu huv)
    · subst hu
      rw [hself]
      unfold rlx
      rw [if_pos huv]
      omega
  · rw [hbit] at hu hv
    simp only [Bool.or_eq_true, decide_eq_true_eq] at hu
    simp only [Bool.or_eq_false_iff, decide_eq_false_iff_not] at hv
    rcases hu with hu | hu
    · rw [hgone u hu]
      exact Nat.le_trans (s6 u x hu hg) (hge v hv.1)
    · subst hu
      rw [hself]
      exact hge v hv.1
  · rw [hbit] at hu
    simp only [Bool.or_eq_true, decide_eq_true_eq] at hu
    rcases hu with hu | hu
    · exact s8 u hu
    · subst hu; exact hx
  · rw [cntB_set hbit hg n hx, s9]
theorem sp_done {w : Wld} (hw : wok w) {a t n : Nat} {D : Nat → Nat} {g i : Nat} (hS : spI w a t n D g i) (hwn : ∀ u v, 0 < w.1 u v → u < n ∧ v < n) (hd : ∀ u, u < n → g.testBit u = false → 10000 ≤ D u) (v : Nat) : arr w a t v = D v := by
  obtain ⟨s1, s2, s3, s4, s5, s6, s7, s8, s9⟩ := hS
  refine arr_eq ⟨s1, fun u v huv => ?_⟩ s3 s4 v
  by_cases q : g.testBit u = true
  · exact s5 u v q huv
  · have q : g.testBit u = false := by simpa using q
    have h1 := hd u (hwn u v huv).1 q
    have h2 := s1 v
    have h3 := op_ge (w.2 u v) (D u)
    omega
theorem spread_loop {E : aE} {P : hI_ → hJ_ → Prop} {I0 : hI_} {J : hJ_} {a t : Nat} (h : Rel I0) (k : ∀ I2, ag1 19 I0 I2 → (∀ j, j < 5 → I2 19 j = nI (arr (wI I0) a t j)) → P I2 J) : ∀ (m i g : Nat) (D : Nat → Nat) (I : hI_), i + m = nP I0 → ag1 19 I0 I → (∀ j, j < 5 → I 19 j = nI (D j)) → spI (wI I0) a t (nP I0) D g i → HX2_spread_39 E P (nI g) (nI i) I J
  | 0, i, g, D, I, hi, hag, hI, hS => by
    have hP := Rel_P h
    have hwn : ∀ u v, 0 < (wI I0).1 u v → u < nP I0 ∧ v < nP I0 := fun u v q => ⟨(Rel_way0 h q).1, (Rel_way0 h q).2.1⟩
    have : i = nP I0 := by omega
    subst this
    refine wX2_spread_39 ⟨fun _ => k I hag (fun j hj => ?_), fun q => absurd (by rw [hag 3 (by omega), hP.1]; exact Int32.le_refl _) q⟩
    rw [hI j hj, sp_done (Rel_wok h) hS hwn (fun u hu hb => ?_)]
    have := cntB_all (nP I0) hS.2.2.2.2.2.2.2.2 u hu
    rw [hb] at this; cases this
  | m + 1, i, g, D, I, hi, hag, hI, hS => by
    have hP := Rel_P h
    have hX : agX I0 I := ag1_X rfl hag
    have hR := Rel_agX hX h
    have hnP := nP_X hX
    have hwX := wI_X hX
    have hwn : ∀ u v, 0 < (wI I0).1 u v → u < nP I0 ∧ v < nP I0 := fun u v q => ⟨(Rel_way0 h q).1, (Rel_way0 h q).2.1⟩
    refine wX2_spread_39 ⟨fun q => absurd q (by rw [hag 3 (by omega), hP.1]; exact nI_ge (by omega) (by omega)), fun _ => ?_⟩
    refine wX2_firstReached ?_
    refine firstR_loop hR hS.2.2.2.2.2.2.1 hI hS.1 (fun hn => ⟨fun q => absurd q (by decide), fun _ => ?_⟩) (fun x hx hb hx1 hxm => ⟨fun _ => ?_, fun q => absurd (nI_pos' (by omega)) q⟩) (nP I) 0 (-1) (by omega) (Or.inl ⟨rfl, fun b hb => by omega⟩)
    · refine k I hag (fun j hj => ?_)
      rw [hI j hj, sp_done (Rel_wok h) hS hwn (fun u hu hb => hn u (by omega) hb)]
    · rw [hnP] at hx hxm
      refine wX2_goOn ?_
      refine goOn_loop hR (a := x) (D := D) (by omega) hS.1 (fun I2 hag2 hI2 => ?_) (nP I) 0 I (by omega) ag1_rf (fun j hj => by rw [if_neg (by omega)]; exact hI j hj)
      rw [hwX] at hI2
      rw [(bit5 hS.2.2.2.2.2.2.1 (a := x) (by omega)).2.1, nI_1]
      exact spread_loop h k m (i + 1) (g ||| 2 ^ x) (rlx (wI I0) D x) I2 (by omega) (ag1_tr hag hag2) hI2 (sp_step (Rel_wok h) hP.2.2 hS hx hb hxm hx1 hwn)
theorem tX2_spread {E : aE} {P : hI_ → hJ_ → Prop} {I : hI_} {J : hJ_} {a t : Nat} (h : Rel I) (ha : a < nP I) (ht : t ≤ 10000) (k : ∀ I2, ag1 19 I I2 → (∀ j, j < 5 → I2 19 j = nI (arr (wI I) a t j)) → P I2 J) : CallV E mX2_spread [.ref 18, .int (nI a), .int (nI t)] SH I J P := by
  have hP := Rel_P h
  have hfl : ag1 19 I (flI I 19 5 10000) := fun q hq => by simp [flI, hq]
  have hf5 : ∀ j, j < 5 → flI I 19 5 10000 19 j = nI 10000 := fun j hj => by simp [flI, hj]; rfl
  refine wX2_spread ⟨fun q => absurd q (nI_pos (by omega)), fun _ => ⟨fun q => absurd q (nI_ge (b := 5) (by omega) (by omega)), fun _ => ⟨fun ht2 => ?_, fun ht2 => ?_⟩⟩⟩
  · have ht2 : t < 10000 := (nI_ltI (b := 10000) (by omega) (by omega)).mp ht2
    refine ⟨vp_in_nI (by omega) (by omega), ?_⟩
    rw [nI_clamp (by omega)]
    refine spread_loop h k (nP I) 0 0 (fun j => if j = a then t else 10000) _ (by omega) (ag1_tr hfl ag1_up) (fun j hj => ?_) ?_
    · rw [upI_at]
      by_cases e : j = a
      · rw [if_pos ⟨rfl, e⟩, if_pos e]
      · rw [if_neg (fun q => e q.2), if_neg e]; exact hf5 j hj
    · have hz : ∀ u, Nat.testBit 0 u = true → False := fun u hu => by rw [Nat.zero_testBit] at hu; cases hu
      refine ⟨?_, ?_, ?_, ?_, ?_, ?_, ?_, ?_, ?_⟩
      · intro j; dsimp only; split <;> omega
      · intro j hj; dsimp only; rw [if_neg (by omega)]
      · dsimp only; rw [if_pos rfl]; exact Nat.le_refl t
      · intro F hF hFa v
        dsimp only
        by_cases e : v = a
        · rw [if_pos e, e]; exact hFa
        · rw [if_neg e]; exact hF.1 v
      · intro u v hu; exact (hz u hu).elim
      · intro u v hu; exact (hz u hu).elim
      · omega
      · intro u hu; exact (hz u hu).elim
      · have : ∀ n, cntB (Nat.testBit 0) n = 0 := by
          intro n
          induction n with
          | zero => rfl
          | succ n ih => unfold cntB; rw [ih, Nat.zero_testBit]; rfl
        exact this _
  · have ht2 : ¬ t < 10000 := fun q => ht2 (nI_lt (b := 10000) q (by omega))
    refine k _ hfl (fun j hj => ?_)
    rw [hf5 j hj, arr_never (by omega)]
set_option maxHeartbeats 4000000 in
set_option maxRecDepth 20000 in
theorem wX2_arrival {E : aE} {P : Int32 → hI_ → hJ_ → Prop} {I : hI_} {J : hJ_} {a0 : Int32} {a1 : Int32} {a2 : Int32} (k : CallV E mX2_spread [.ref 18, .int a0, .int a2] SH I J (fun I2 J3 => ((¬ (a1 < (0 : Int32))) → (¬ ((5 : Int32) ≤ a1)) → vp_in a1 5) ∧ P (if a1 < (0 : Int32) then (10000 : Int32) else (if (5 : Int32) ≤ a1 then (10000 : Int32) else (I2 19 a1.toNatClampNeg))) I2 J3)) : CallI E mX2_arrival [.ref 18, .int a0, .int a1, .int a2] SH I J P := by
  refine Call_of (L := [.ref 18, .int a0, .int a1, .int a2]) ok_X2_arrival.1 rfl rfl ?_
  refine V_aload_n dX2_arrival_0 rfl ?_
  refine V_iload_n dX2_arrival_1 rfl ?_
  refine V_iload_n dX2_arrival_2 rfl ?_
  refine U_callV0 [.int a0, .int a2] dX2_arrival_3 ov_X2_69 s_18 rfl ⟨rfl, rfl, rfl⟩ rfl rfl rfl (CallV_mono k (fun I2 J3 k => ?_))
  refine V_iload_n dX2_arrival_6 rfl ?_
  obtain ⟨hc2007, k⟩ := k
  have key4 : ∀ (y2006 : Int32), y2006 = (if a1 < (0 : Int32) then (10000 : Int32) else (if (5 : Int32) ≤ a1 then (10000 : Int32) else (I2 19 a1.toNatClampNeg))) → V E mX2_arrival (kI SH P) 27 [.ref 18, .int a0, .int a1, .int a2] [.int y2006] (SH, I2, J3) (0, 0) := by
    intro y2006 ey2006
    subst ey2006
    exact V_iret dX2_arrival_27 ⟨_, rfl, rfl⟩ rfl rfl ⟨_, _, _, rfl, rfl, k⟩
  refine V_if_lt dX2_arrival_7 (fun c2008 => ?_) (fun c2008 => ?_)
  · refine V_sipush (v := (10000 : Int32)) dX2_arrival_24 rfl ?_
    exact key4 _ (by rw [if_pos c2008])
  · refine V_iload_n dX2_arrival_10 rfl ?_
    refine V_iconst (v := (5 : Int32)) dX2_arrival_11 rfl ?_
    refine V_icmp_ge dX2_arrival_12 (fun c2009 => ?_) (fun c2009 => ?_)
    · refine V_sipush (v := (10000 : Int32)) dX2_arrival_24 rfl ?_
      exact key4 _ (by rw [if_neg c2008, if_pos c2009])
    · refine V_aload_n dX2_arrival_15 rfl ?_
      refine U_getR dX2_arrival_16 fl_X2_9 s_18 rfl ?_
      refine V_iload_n dX2_arrival_19 rfl ?_
      have hb2005 := hc2007 c2008 c2009
      refine U_iald dX2_arrival_20 s_19 hb2005 ?_
      refine V_goto dX2_arrival_21 ?_
      exact key4 _ (by rw [if_neg c2008, if_neg c2009])
theorem tX2_arrival {E : aE} {P : Int32 → hI_ → hJ_ → Prop} {I : hI_} {J : hJ_} {a b t : Nat} (h : Rel I) (ha : a < nP I) (hb : b < nP I) (ht : t ≤ 10000) (k : ∀ I2, ag1 19 I I2 → P (nI (arr (wI I) a t b)) I2 J) : CallI E mX2_arrival [.ref 18, .int (nI a), .int (nI b), .int (nI t)] SH I J P := by
  have hP := Rel_P h
  refine wX2_arrival (tX2_spread h ha ht (fun I2 hag hI2 => ⟨fun _ _ => vp_in_nI (by omega) (by omega), ?_⟩))
  rw [if_neg (nI_pos (by omega)), if_neg (show ¬ (5 : Int32) ≤ nI b from nI_ge (b := 5) (by omega) (by omega)), nI_clamp (by omega), hI2 b (by omega)]
  exact k I2 hag
