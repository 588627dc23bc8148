/-! the last open minute; what comes by a minute left when -/
theorem upn_free {c : Nat → Bool} {T : Nat} (h : T = 0 ∨ c (T - 1) = false) : upn c T = T := by
  cases T with
  | zero => rfl
  | succ t =>
    unfold upn
    rcases h with h | h
    · omega
    · rw [if_neg (by simpa using h)]
theorem upn_eq {c : Nat → Bool} {S : Nat} : ∀ (T : Nat), S ≤ T → (∀ u, S ≤ u → u < T → c u = true) → upn c T = upn c S
  | 0, h, _ => by rw [show S = 0 by omega]
  | T + 1, h, hs => by
    by_cases e : S = T + 1
    · rw [e]
    · have := hs T (by omega) (by omega)
      rw [show upn c (T + 1) = upn c T by rw [upn, if_pos this]]
      exact upn_eq T (by omega) (fun u h1 h2 => hs u h1 (by omega))
/-- shuts that begin below -/
def cntU (I : hI_) (a b T : Nat) : Nat := cntB (fun s => decide (s < nsh I) && (mtB I a b s && decide (shF I s < T))) 12
theorem cntU_hit {I : hI_} {a b s t : Nat} (hn : nsh I ≤ 12) (hs : s < nsh I) (h : hitB I a b s t = true) : cntU I a b (shF I s) < cntU I a b (t + 1) := by
  unfold hitB at h
  simp only [Bool.and_eq_true, decide_eq_true_eq] at h
  refine cntB_lt (fun x hx => ?_) (u := s) ?_ ?_ 12 (by omega)
  · simp only [Bool.and_eq_true, decide_eq_true_eq] at hx ⊢
    exact ⟨hx.1, hx.2.1, by omega⟩
  · simp
  · simp only [Bool.and_eq_true, decide_eq_true_eq]
    exact ⟨hs, h.1, by omega⟩
theorem cntU_0 {I : hI_} (h : Rel I) {a b t : Nat} (h0 : cntU I a b (t + 1) = 0) : (wI I).2 a b t = false := by
  apply cl_no h
  intro s hs
  cases hh : hitB I a b s t with
  | false => rfl
  | true =>
    have := cntU_hit (Rel_shut h).2.2.1 hs hh
    omega
theorem upn_hit {I : hI_} (h : Rel I) {a b s t : Nat} (hs : s < nsh I) (hh : hitB I a b s t = true) : upn ((wI I).2 a b) (shF I s) = upn ((wI I).2 a b) (t + 1) := by
  have hh2 := hh
  unfold hitB at hh2
  simp only [Bool.and_eq_true, decide_eq_true_eq] at hh2
  symm
  refine upn_eq (t + 1) (by omega) (fun u h1 h2 => (cl_iff h).mpr ⟨s, hs, ?_⟩)
  unfold hitB
  simp only [Bool.and_eq_true, decide_eq_true_eq]
  exact ⟨hh2.1, h1, by omega⟩
def HX3_openUpTo_8 (E : aE) (P : Int32 → hI_ → hJ_ → Prop) (v1 : Int32) (v3 : Int32) (v4 : Int32) (v5 : Int32) (I : hI_) (J : hJ_) : Prop := V E mX3_openUpTo (kI SH P) 8 [.ref 3, .int v1, .retAddr 0, .int v3, .int v4, .int v5, .retAddr 0] [] (SH, I, J) (0, 0)
def HX3_openUpTo_26 (E : aE) (P : Int32 → hI_ → hJ_ → Prop) (v1 : Int32) (v3 : Int32) (v4 : Int32) (v5 : Int32) (v6 : Int32) (I : hI_) (J : hJ_) : Prop := V E mX3_openUpTo (kI SH P) 26 [.ref 3, .int v1, .retAddr 0, .int v3, .int v4, .int v5, .int v6] [] (SH, I, J) (0, 0)
set_option maxHeartbeats 4000000 in
set_option maxRecDepth 20000 in
theorem wX3_openUpTo {E : aE} {P : Int32 → hI_ → hJ_ → Prop} {I : hI_} {J : hJ_} {a0 : Int32} {a1 : Int32} (k : HX3_openUpTo_8 E P a0 a1 (0 : Int32) (0 : Int32) I J) : CallI E mX3_openUpTo [.ref 3, .int a0, .int a1] SH I J P := by
  refine Call_of (L := [.ref 3, .int a0, .int a1, .retAddr 0, .retAddr 0, .retAddr 0, .retAddr 0]) ok_X3_openUpTo.1 rfl rfl ?_
  refine V_iload_n dX3_openUpTo_0 rfl ?_
  refine U_istore_n (L2 := [.ref 3, .int a0, .int a1, .int a1, .retAddr 0, .retAddr 0, .retAddr 0]) dX3_openUpTo_1 (by decide) rfl ?_
  refine V_iconst (v := (0 : Int32)) dX3_openUpTo_2 rfl ?_
  refine U_istore (L2 := [.ref 3, .int a0, .int a1, .int a1, .int (0 : Int32), .retAddr 0, .retAddr 0]) dX3_openUpTo_3 (by decide) rfl ?_
  refine V_iconst (v := (0 : Int32)) dX3_openUpTo_5 rfl ?_
  refine U_istore (L2 := [.ref 3, .int a0, .int a1, .int a1, .int (0 : Int32), .int (0 : Int32), .retAddr 0]) dX3_openUpTo_6 (by decide) rfl ?_
  exact V_wk (wk_eq (wk_eq (wk_j (wk_eq (wk_eq (wk_eq (wk_j (wk_nil)))))))) k
set_option maxHeartbeats 4000000 in
set_option maxRecDepth 20000 in
theorem wX3_openUpTo_8 {E : aE} {P : Int32 → hI_ → hJ_ → Prop} {I : hI_} {J : hJ_} {v1 : Int32} {v3 : Int32} {v4 : Int32} {v5 : Int32} (k : (((12 : Int32) ≤ v5 → P v3 I J) ∧ (¬ ((12 : Int32) ≤ v5) → ((¬ v4 = (0 : Int32) → P v3 I J) ∧ (v4 = (0 : Int32) → HX3_openUpTo_26 E P v1 v3 (1 : Int32) v5 (0 : Int32) I J))))) : HX3_openUpTo_8 E P v1 v3 v4 v5 I J := by
  show V E mX3_openUpTo (kI SH P) 8 [.ref 3, .int v1, .retAddr 0, .int v3, .int v4, .int v5, .retAddr 0] [] (SH, I, J) (0, 0)
  refine V_iload dX3_openUpTo_8 rfl ?_
  refine V_bipush (v := (12 : Int32)) dX3_openUpTo_10 rfl ?_
  refine V_icmp_ge dX3_openUpTo_12 (fun c1 => ?_) (fun c1 => ?_)
  · have k := k.1 c1
    refine V_iload_n dX3_openUpTo_93 rfl ?_
    exact V_iret dX3_openUpTo_94 ⟨_, rfl, rfl⟩ rfl rfl ⟨_, _, _, rfl, rfl, k⟩
  · have k := k.2 c1
    refine V_iload dX3_openUpTo_15 rfl ?_
    refine V_if_ne dX3_openUpTo_17 (fun c2 => ?_) (fun c2 => ?_)
    · have k := k.1 c2
      refine V_iload_n dX3_openUpTo_93 rfl ?_
      exact V_iret dX3_openUpTo_94 ⟨_, rfl, rfl⟩ rfl rfl ⟨_, _, _, rfl, rfl, k⟩
    · have k := k.2 c2
      refine V_iconst (v := (1 : Int32)) dX3_openUpTo_20 rfl ?_
      refine U_istore (L2 := [.ref 3, .int v1, .retAddr 0, .int v3, .int (1 : Int32), .int v5, .retAddr 0]) dX3_openUpTo_21 (by decide) rfl ?_
      refine V_iconst (v := (0 : Int32)) dX3_openUpTo_23 rfl ?_
      refine U_istore (L2 := [.ref 3, .int v1, .retAddr 0, .int v3, .int (1 : Int32), .int v5, .int (0 : Int32)]) dX3_openUpTo_24 (by decide) rfl ?_
      exact k
set_option maxHeartbeats 4000000 in
set_option maxRecDepth 20000 in
theorem wX3_openUpTo_26 {E : aE} {P : Int32 → hI_ → hJ_ → Prop} {I : hI_} {J : hJ_} {v1 : Int32} {v3 : Int32} {v4 : Int32} {v5 : Int32} {v6 : Int32} (k : (((I 3 8) ≤ v6 → HX3_openUpTo_8 E P v1 v3 v4 (v5 + (1 : Int32)) I J) ∧ (¬ ((I 3 8) ≤ v6) → (vp_in v6 12) ∧ (((I 6 v6.toNatClampNeg) = v1) → vp_in v6 12) ∧ (((I 6 v6.toNatClampNeg) = v1) → (¬ (v3 < (I 7 v6.toNatClampNeg))) → vp_in v6 12) ∧ (((I 6 v6.toNatClampNeg) = v1) → (¬ (v3 < (I 7 v6.toNatClampNeg))) → (¬ ((I 8 v6.toNatClampNeg) < v3)) → vp_in v6 12) ∧ HX3_openUpTo_26 E P v1 (if ¬ (I 6 v6.toNatClampNeg) = v1 then v3 else (if v3 < (I 7 v6.toNatClampNeg) then v3 else (if (I 8 v6.toNatClampNeg) < v3 then v3 else ((I 7 v6.toNatClampNeg) - (1 : Int32))))) (if ¬ (I 6 v6.toNatClampNeg) = v1 then v4 else (if v3 < (I 7 v6.toNatClampNeg) then v4 else (if (I 8 v6.toNatClampNeg) < v3 then v4 else (0 : Int32)))) v5 (v6 + (1 : Int32)) I J))) : HX3_openUpTo_26 E P v1 v3 v4 v5 v6 I J := by
  show V E mX3_openUpTo (kI SH P) 26 [.ref 3, .int v1, .retAddr 0, .int v3, .int v4, .int v5, .int v6] [] (SH, I, J) (0, 0)
  refine V_iload dX3_openUpTo_26 rfl ?_
  refine V_aload_n dX3_openUpTo_28 rfl ?_
  refine U_getI dX3_openUpTo_29 fl_X3_46 s_3 rfl ?_
  refine V_icmp_ge dX3_openUpTo_32 (fun c1 => ?_) (fun c1 => ?_)
  · have k := k.1 c1
    refine U_iinc (v := v5 + (1 : Int32)) (L2 := [.ref 3, .int v1, .retAddr 0, .int v3, .int v4, .int (v5 + (1 : Int32)), .int v6]) dX3_openUpTo_87 (by decide) rfl rfl rfl ?_
    refine V_goto dX3_openUpTo_90 ?_
    exact V_wk (wk_eq (wk_eq (wk_j (wk_eq (wk_eq (wk_eq (wk_j (wk_nil)))))))) k
  · have k := k.2 c1
    refine V_aload_n dX3_openUpTo_35 rfl ?_
    refine U_getR dX3_openUpTo_36 fl_X3_18 s_3 rfl ?_
    refine V_iload dX3_openUpTo_39 rfl ?_
    obtain ⟨hb2, k⟩ := k
    refine U_iald dX3_openUpTo_41 s_6 hb2 ?_
    refine V_iload_n dX3_openUpTo_42 rfl ?_
    obtain ⟨hc2009, hc2010, hc2011, k⟩ := k
    have key3 : ∀ (y2007 : Int32) (y2008 : Int32), y2007 = (if ¬ (I 6 v6.toNatClampNeg) = v1 then v3 else (if v3 < (I 7 v6.toNatClampNeg) then v3 else (if (I 8 v6.toNatClampNeg) < v3 then v3 else ((I 7 v6.toNatClampNeg) - (1 : Int32))))) → y2008 = (if ¬ (I 6 v6.toNatClampNeg) = v1 then v4 else (if v3 < (I 7 v6.toNatClampNeg) then v4 else (if (I 8 v6.toNatClampNeg) < v3 then v4 else (0 : Int32)))) → V E mX3_openUpTo (kI SH P) 81 [.ref 3, .int v1, .retAddr 0, .int y2007, .int y2008, .int v5, .int v6] [] (SH, I, J) (0, 0) := by
      intro y2007 y2008 ey2007 ey2008
      subst ey2007
      subst ey2008
      refine U_iinc (v := v6 + (1 : Int32)) (L2 := [.ref 3, .int v1, .retAddr 0, .int (if ¬ (I 6 v6.toNatClampNeg) = v1 then v3 else (if v3 < (I 7 v6.toNatClampNeg) then v3 else (if (I 8 v6.toNatClampNeg) < v3 then v3 else ((I 7 v6.toNatClampNeg) - (1 : Int32))))), .int (if ¬ (I 6 v6.toNatClampNeg) = v1 then v4 else (if v3 < (I 7 v6.toNatClampNeg) then v4 else (if (I 8 v6.toNatClampNeg) < v3 then v4 else (0 : Int32)))), .int v5, .int (v6 + (1 : Int32))]) dX3_openUpTo_81 (by decide) rfl rfl rfl ?_
      refine V_goto dX3_openUpTo_84 ?_
      exact k
    refine V_icmp_ne dX3_openUpTo_43 (fun c2012 => ?_) (fun c2012 => ?_)
    · exact key3 _ _ (by rw [if_pos c2012]) (by rw [if_pos c2012])
    · refine V_aload_n dX3_openUpTo_46 rfl ?_
      refine U_getR dX3_openUpTo_47 fl_X3_21 s_3 rfl ?_
      refine V_iload dX3_openUpTo_50 rfl ?_
      have hb2004 := hc2009 c2012
      refine U_iald dX3_openUpTo_52 s_7 hb2004 ?_
      refine V_iload_n dX3_openUpTo_53 rfl ?_
      refine V_icmp_gt dX3_openUpTo_54 (fun c2013 => ?_) (fun c2013 => ?_)
      · exact key3 _ _ (by rw [if_neg (not_not_intro c2012), if_pos c2013]) (by rw [if_neg (not_not_intro c2012), if_pos c2013])
      · refine V_iload_n dX3_openUpTo_57 rfl ?_
        refine V_aload_n dX3_openUpTo_58 rfl ?_
        refine U_getR dX3_openUpTo_59 fl_X3_24 s_3 rfl ?_
        refine V_iload dX3_openUpTo_62 rfl ?_
        have hb2005 := hc2010 c2012 c2013
        refine U_iald dX3_openUpTo_64 s_8 hb2005 ?_
        refine V_icmp_gt dX3_openUpTo_65 (fun c2014 => ?_) (fun c2014 => ?_)
        · exact key3 _ _ (by rw [if_neg (not_not_intro c2012), if_neg c2013, if_pos c2014]) (by rw [if_neg (not_not_intro c2012), if_neg c2013, if_pos c2014])
        · refine V_aload_n dX3_openUpTo_68 rfl ?_
          refine U_getR dX3_openUpTo_69 fl_X3_21 s_3 rfl ?_
          refine V_iload dX3_openUpTo_72 rfl ?_
          have hb2006 := hc2011 c2012 c2013 c2014
          refine U_iald dX3_openUpTo_74 s_7 hb2006 ?_
          refine V_iconst (v := (1 : Int32)) dX3_openUpTo_75 rfl ?_
          refine V_isub dX3_openUpTo_76 ?_
          refine U_istore_n (L2 := [.ref 3, .int v1, .retAddr 0, .int ((I 7 v6.toNatClampNeg) - (1 : Int32)), .int v4, .int v5, .int v6]) dX3_openUpTo_77 (by decide) rfl ?_
          refine V_iconst (v := (0 : Int32)) dX3_openUpTo_78 rfl ?_
          refine U_istore (L2 := [.ref 3, .int v1, .retAddr 0, .int ((I 7 v6.toNatClampNeg) - (1 : Int32)), .int (0 : Int32), .int v5, .int v6]) dX3_openUpTo_79 (by decide) rfl ?_
          exact key3 _ _ (by rw [if_neg (not_not_intro c2012), if_neg c2013, if_neg c2014]) (by rw [if_neg (not_not_intro c2012), if_neg c2013, if_neg c2014])
theorem lt_nIm {T f : Nat} (hT : T < 1000000) (hf : f < 1000000) : (nI T - 1 < nI f) ↔ T ≤ f := by
  rw [Int32.lt_iff_toInt_lt, nIm1 hT, nI_toInt (by omega)]; omega
theorem nIm_lt {T f : Nat} (hT : T < 1000000) (hf : f < 1000000) : (nI f < nI T - 1) ↔ f + 1 < T := by
  rw [Int32.lt_iff_toInt_lt, nIm1 hT, nI_toInt (by omega)]; omega
theorem openU_in {E : aE} {P : Int32 → hI_ → hJ_ → Prop} {I : hI_} {J : hJ_} {a b i : Nat} (h : Rel I) (ha : a < 5) (hb : b < 5) (hi : i < 12) {O : Nat} (k : ∀ T o, T ≤ 10000 → upn ((wI I).2 a b) T = O → ((o = 1 ∧ (T = 0 ∨ (wI I).2 a b (T - 1) = false)) ∨ (o = 0 ∧ cntU I a b T + (i + 1) ≤ 12)) → HX3_openUpTo_8 E P (nI (prN a b)) (nI T - 1) o (nI (i + 1)) I J) : ∀ (m s T : Nat) (o : Int32), s + m = nsh I → T ≤ 10000 → upn ((wI I).2 a b) T = O → ((o = 1 ∧ cntU I a b T + i ≤ 12 ∧ (T = 0 ∨ ∀ q, q < s → hitB I a b q (T - 1) = false)) ∨ (o = 0 ∧ cntU I a b T + (i + 1) ≤ 12)) → HX3_openUpTo_26 E P (nI (prN a b)) (nI T - 1) o (nI i) (nI s) I J
  | 0, s, T, o, hs, ht, hO, ho => by
    have hN := Rel_shut h
    have : s = nsh I := by omega
    subst this
    refine wX3_openUpTo_26 ⟨fun _ => ?_, fun q => absurd (by rw [hN.1]; exact Int32.le_refl _) q⟩
    rw [nI_1]
    refine k T o ht hO ?_
    rcases ho with ⟨h1, h2, h3⟩ | h1
    · refine Or.inl ⟨h1, ?_⟩
      rcases h3 with h3 | h3
      · exact Or.inl h3
      · exact Or.inr (cl_no h h3)
    · exact Or.inr h1
  | m + 1, s, T, o, hs, ht, hO, ho => by
    have hN := Rel_shut h
    obtain ⟨e7, e8, -, -, hft, hT, -⟩ := hN.2.2.2 s (by omega)
    have hm := mt_cls h ha hb (s := s) (by omega)
    have vin : vp_in (nI s) 12 := vp_in_nI (by omega) (by omega)
    refine wX3_openUpTo_26 ⟨fun q => absurd q (by rw [hN.1]; exact nI_ge (by omega) (by omega)), fun _ => ⟨vin, fun _ => vin, fun _ _ => vin, fun _ _ _ => vin, ?_⟩⟩
    rw [nI_clamp (by omega), e7, e8, nI_1]
    by_cases hh : 1 ≤ T ∧ hitB I a b s (T - 1) = true
    · obtain ⟨hT1, hh⟩ := hh
      have hh2 := hh
      unfold hitB at hh2
      simp only [Bool.and_eq_true, decide_eq_true_eq] at hh2
      have c1 : I 6 s = nI (prN a b) := hm.mpr hh2.1
      have c2 : ¬ nI T - 1 < nI (shF I s) := fun q => by rw [lt_nIm (by omega) (by omega)] at q; omega
      have c3 : ¬ nI (shT I s) < nI T - 1 := fun q => by rw [nIm_lt (by omega) (by omega)] at q; omega
      rw [if_neg (fun q => q c1), if_neg c2, if_neg c3, if_neg (fun q => q c1), if_neg c2, if_neg c3]
      have hlt := cntU_hit hN.2.2.1 (by omega) hh
      rw [show T - 1 + 1 = T by omega] at hlt
      have hu := upn_hit h (by omega) hh
      rw [show T - 1 + 1 = T by omega] at hu
      exact openU_in h ha hb hi k m (s + 1) (shF I s) 0 (by omega) (by omega) (hu.trans hO) (Or.inr ⟨rfl, by rcases ho with ⟨-, h2, -⟩ | ⟨-, h2⟩ <;> omega⟩)
    · have e : ∀ {α : Type} (x y : α), (if ¬ I 6 s = nI (prN a b) then x else if nI T - 1 < nI (shF I s) then x else if nI (shT I s) < nI T - 1 then x else y) = x := by
        intro α x y
        by_cases c1 : I 6 s = nI (prN a b)
        · rw [if_neg (fun q => q c1)]
          by_cases c2 : nI T - 1 < nI (shF I s)
          · rw [if_pos c2]
          · rw [if_neg c2]
            by_cases c3 : nI (shT I s) < nI T - 1
            · rw [if_pos c3]
            · exfalso
              rw [lt_nIm (by omega) (by omega)] at c2
              rw [nIm_lt (by omega) (by omega)] at c3
              refine hh ⟨by omega, ?_⟩
              unfold hitB
              simp only [Bool.and_eq_true, decide_eq_true_eq]
              exact ⟨hm.mp c1, by omega, by omega⟩
        · rw [if_pos c1]
      rw [e, e]
      refine openU_in h ha hb hi k m (s + 1) T o (by omega) ht hO ?_
      rcases ho with ⟨h1, h2, h3⟩ | h1
      · refine Or.inl ⟨h1, h2, ?_⟩
        rcases h3 with h3 | h3
        · exact Or.inl h3
        · by_cases hT0 : T = 0
          · exact Or.inl hT0
          · refine Or.inr (fun q hq => ?_)
            by_cases eq : q = s
            · subst eq
              cases hx : hitB I a b q (T - 1) with
              | false => rfl
              | true => exact absurd ⟨by omega, hx⟩ hh
            · exact h3 q (by omega)
      · exact Or.inr h1
theorem openU_out {E : aE} {P : Int32 → hI_ → hJ_ → Prop} {I : hI_} {J : hJ_} {a b : Nat} (h : Rel I) (ha : a < 5) (hb : b < 5) {O : Nat} (k : P (nI O - 1) I J) : ∀ (m i T : Nat) (o : Int32), i + m = 12 → T ≤ 10000 → upn ((wI I).2 a b) T = O → ((o = 1 ∧ (T = 0 ∨ (wI I).2 a b (T - 1) = false)) ∨ (o = 0 ∧ cntU I a b T + i ≤ 12)) → HX3_openUpTo_8 E P (nI (prN a b)) (nI T - 1) o (nI i) I J
  | 0, i, T, o, hi, ht, hO, ho => by
    have hfr : T = 0 ∨ (wI I).2 a b (T - 1) = false := by
      rcases ho with h1 | h1
      · exact h1.2
      · by_cases hT : T = 0
        · exact Or.inl hT
        · exact Or.inr (cntU_0 h (by rw [show T - 1 + 1 = T by omega]; omega))
    have e : T = O := by rw [← hO, upn_free hfr]
    refine wX3_openUpTo_8 ⟨fun _ => by rw [e]; exact k, fun q => absurd (nI_le (a := 12) (b := i) (by omega) (by omega)) q⟩
  | m + 1, i, T, o, hi, ht, hO, ho => by
    refine wX3_openUpTo_8 ⟨fun q => absurd q (nI_ge (b := 12) (by omega) (by omega)), fun _ => ⟨fun ho1 => ?_, fun ho0 => ?_⟩⟩
    · have hfr : T = 0 ∨ (wI I).2 a b (T - 1) = false := by
        rcases ho with h1 | h1
        · exact h1.2
        · exact absurd h1.1 ho1
      have e : T = O := by rw [← hO, upn_free hfr]
      rw [e]; exact k
    · have hc : cntU I a b T + i ≤ 12 := by
        rcases ho with h1 | h1
        · rw [h1.1] at ho0; exact absurd ho0 (by decide)
        · exact h1.2
      exact openU_in h ha hb (i := i) (by omega) (O := O) (fun t2 o2 h1 h2 h3 => openU_out h ha hb k m (i + 1) t2 o2 (by omega) h1 h2 h3) (nsh I) 0 T 1 (by omega) ht hO (Or.inl ⟨rfl, hc, Or.inr (fun q hq => by omega)⟩)
theorem tX3_openUpTo {E : aE} {P : Int32 → hI_ → hJ_ → Prop} {I : hI_} {J : hJ_} {a b T : Nat} (h : Rel I) (ha : a < 5) (hb : b < 5) (ht : T ≤ 10000) (k : P (nI (upn ((wI I).2 a b) T) - 1) I J) : CallI E mX3_openUpTo [.ref 3, .int (nI (prN a b)), .int (nI T - 1)] SH I J P := by
  refine wX3_openUpTo (openU_out h ha hb k 12 0 T 0 (by omega) ht rfl (Or.inr ⟨rfl, ?_⟩))
  have := cntB_n (p := fun s => decide (s < nsh I) && (mtB I a b s && decide (shF I s < T))) 12
  unfold cntU
  omega
/-- below 0 nothing is shut -/
theorem openU_neg {E : aE} {P : Int32 → hI_ → hJ_ → Prop} {I : hI_} {J : hJ_} {w v : Int32} (h : Rel I) (hv : v.toInt < 0) (k : P v I J) : CallI E mX3_openUpTo [.ref 3, .int w, .int v] SH I J P := by
  have hN := Rel_shut h
  refine wX3_openUpTo (wX3_openUpTo_8 ⟨fun q => absurd q (by decide), fun _ => ⟨fun q => absurd rfl q, fun _ => ?_⟩⟩)
  have lp : ∀ (m s : Nat), s + m = nsh I → HX3_openUpTo_26 E P w v 1 0 (nI s) I J := by
    intro m
    induction m with
    | zero =>
      intro s hs
      have : s = nsh I := by omega
      subst this
      refine wX3_openUpTo_26 ⟨fun _ => wX3_openUpTo_8 ⟨fun q => absurd q (by decide), fun _ => ⟨fun _ => k, fun q => absurd q (by decide)⟩⟩, fun q => absurd (by rw [hN.1]; exact Int32.le_refl _) q⟩
    | succ m ih =>
      intro s hs
      obtain ⟨e7, -⟩ := hN.2.2.2 s (by omega)
      have hT := (hN.2.2.2 s (by omega)).2.2.2.2.2.1
      have hF := (hN.2.2.2 s (by omega)).2.2.2.2.1
      have vin : vp_in (nI s) 12 := vp_in_nI (by omega) (by omega)
      refine wX3_openUpTo_26 ⟨fun q => absurd q (by rw [hN.1]; exact nI_ge (by omega) (by omega)), fun _ => ⟨vin, fun _ => vin, fun _ _ => vin, fun _ _ _ => vin, ?_⟩⟩
      rw [nI_clamp (by omega), e7, nI_1]
      have c2 : v < nI (shF I s) := by rw [Int32.lt_iff_toInt_lt, nI_toInt (by omega)]; omega
      have e : ∀ {α : Type} (x y : α), (if ¬ I 6 s = w then x else if v < nI (shF I s) then x else y) = x := by
        intro α x y
        by_cases c1 : I 6 s = w
        · rw [if_neg (fun q => q c1), if_pos c2]
        · rw [if_pos c1]
      rw [e, e]
      exact ih (s + 1) (by omega)
  exact lp (nsh I) 0 (by omega)
def HX2_lastLeft_4 (E : aE) (P : Int32 → hI_ → hJ_ → Prop) (v1 : Int32) (v2 : Int32) (v3 : Int32) (I : hI_) (J : hJ_) : Prop := V E mX2_lastLeft (kI SH P) 4 [.ref 18, .int v1, .int v2, .int v3] [] (SH, I, J) (0, 0)
set_option maxHeartbeats 4000000 in
set_option maxRecDepth 20000 in
theorem wX2_lastLeft {E : aE} {P : Int32 → hI_ → hJ_ → Prop} {I : hI_} {J : hJ_} {a0 : Int32} (k : HX2_lastLeft_4 E P a0 (-1 : Int32) (0 : Int32) I J) : CallI E mX2_lastLeft [.ref 18, .int a0] SH I J P := by
  refine Call_of (L := [.ref 18, .int a0, .retAddr 0, .retAddr 0]) ok_X2_lastLeft.1 rfl rfl ?_
  refine V_iconst (v := (-1 : Int32)) dX2_lastLeft_0 rfl ?_
  refine U_istore_n (L2 := [.ref 18, .int a0, .int (-1 : Int32), .retAddr 0]) dX2_lastLeft_1 (by decide) rfl ?_
  refine V_iconst (v := (0 : Int32)) dX2_lastLeft_2 rfl ?_
  refine U_istore_n (L2 := [.ref 18, .int a0, .int (-1 : Int32), .int (0 : Int32)]) dX2_lastLeft_3 (by decide) rfl ?_
  exact k
set_option maxHeartbeats 4000000 in
set_option maxRecDepth 20000 in
theorem wX2_lastLeft_4 {E : aE} {P : Int32 → hI_ → hJ_ → Prop} {I : hI_} {J : hJ_} {v1 : Int32} {v2 : Int32} {v3 : Int32} (k : (((I 3 6) ≤ v3 → P v2 I J) ∧ (¬ ((I 3 6) ≤ v3) → ((((v1 >>> (v3 &&& 31)) &&& (1 : Int32)) = (0 : Int32)) → vp_in v3 5) ∧ ((((v1 >>> (v3 &&& 31)) &&& (1 : Int32)) = (0 : Int32)) → (¬ ((I 20 v3.toNatClampNeg) < (0 : Int32))) → (¬ (v2 < (0 : Int32))) → vp_in v3 5) ∧ ((((v1 >>> (v3 &&& 31)) &&& (1 : Int32)) = (0 : Int32)) → (¬ ((I 20 v3.toNatClampNeg) < (0 : Int32))) → (¬ (v2 < (0 : Int32))) → vp_in v2 5) ∧ HX2_lastLeft_4 E P v1 (if ¬ ((v1 >>> (v3 &&& 31)) &&& (1 : Int32)) = (0 : Int32) then v2 else (if (I 20 v3.toNatClampNeg) < (0 : Int32) then v2 else (if v2 < (0 : Int32) then v3 else (if (I 20 v3.toNatClampNeg) ≤ (I 20 v2.toNatClampNeg) then v2 else v3)))) (v3 + (1 : Int32)) I J))) : HX2_lastLeft_4 E P v1 v2 v3 I J := by
  show V E mX2_lastLeft (kI SH P) 4 [.ref 18, .int v1, .int v2, .int v3] [] (SH, I, J) (0, 0)
  refine V_iload_n dX2_lastLeft_4 rfl ?_
  refine V_aload_n dX2_lastLeft_5 rfl ?_
  refine U_getR dX2_lastLeft_6 fl_X2_18 s_18 rfl ?_
  refine U_getI dX2_lastLeft_9 fl_X2_28 s_3 rfl ?_
  refine V_icmp_ge dX2_lastLeft_12 (fun c1 => ?_) (fun c1 => ?_)
  · have k := k.1 c1
    refine V_iload_n dX2_lastLeft_59 rfl ?_
    exact V_iret dX2_lastLeft_60 ⟨_, rfl, rfl⟩ rfl rfl ⟨_, _, _, rfl, rfl, k⟩
  · have k := k.2 c1
    refine V_iload_n dX2_lastLeft_15 rfl ?_
    refine V_iload_n dX2_lastLeft_16 rfl ?_
    refine V_ishr dX2_lastLeft_17 ?_
    refine V_iconst (v := (1 : Int32)) dX2_lastLeft_18 rfl ?_
    refine V_iand dX2_lastLeft_19 ?_
    obtain ⟨hc2007, hc2008, hc2009, k⟩ := k
    have key2 : ∀ (y2006 : Int32), y2006 = (if ¬ ((v1 >>> (v3 &&& 31)) &&& (1 : Int32)) = (0 : Int32) then v2 else (if (I 20 v3.toNatClampNeg) < (0 : Int32) then v2 else (if v2 < (0 : Int32) then v3 else (if (I 20 v3.toNatClampNeg) ≤ (I 20 v2.toNatClampNeg) then v2 else v3)))) → V E mX2_lastLeft (kI SH P) 53 [.ref 18, .int v1, .int y2006, .int v3] [] (SH, I, J) (0, 0) := by
      intro y2006 ey2006
      subst ey2006
      refine U_iinc (v := v3 + (1 : Int32)) (L2 := [.ref 18, .int v1, .int (if ¬ ((v1 >>> (v3 &&& 31)) &&& (1 : Int32)) = (0 : Int32) then v2 else (if (I 20 v3.toNatClampNeg) < (0 : Int32) then v2 else (if v2 < (0 : Int32) then v3 else (if (I 20 v3.toNatClampNeg) ≤ (I 20 v2.toNatClampNeg) then v2 else v3)))), .int (v3 + (1 : Int32))]) dX2_lastLeft_53 (by decide) rfl rfl rfl ?_
      refine V_goto dX2_lastLeft_56 ?_
      exact k
    refine V_if_ne dX2_lastLeft_20 (fun c2010 => ?_) (fun c2010 => ?_)
    · exact key2 _ (by rw [if_pos c2010])
    · refine V_aload_n dX2_lastLeft_23 rfl ?_
      refine U_getR dX2_lastLeft_24 fl_X2_15 s_18 rfl ?_
      refine V_iload_n dX2_lastLeft_27 rfl ?_
      have hb2003 := hc2007 c2010
      refine U_iald dX2_lastLeft_28 s_20 hb2003 ?_
      refine V_if_lt dX2_lastLeft_29 (fun c2011 => ?_) (fun c2011 => ?_)
      · exact key2 _ (by rw [if_neg (not_not_intro c2010), if_pos c2011])
      · refine V_iload_n dX2_lastLeft_32 rfl ?_
        refine V_if_lt dX2_lastLeft_33 (fun c2012 => ?_) (fun c2012 => ?_)
        · refine V_iload_n dX2_lastLeft_51 rfl ?_
          refine U_istore_n (L2 := [.ref 18, .int v1, .int v3, .int v3]) dX2_lastLeft_52 (by decide) rfl ?_
          exact key2 _ (by rw [if_neg (not_not_intro c2010), if_neg c2011, if_pos c2012])
        · refine V_aload_n dX2_lastLeft_36 rfl ?_
          refine U_getR dX2_lastLeft_37 fl_X2_15 s_18 rfl ?_
          refine V_iload_n dX2_lastLeft_40 rfl ?_
          have hb2004 := hc2008 c2010 c2011 c2012
          refine U_iald dX2_lastLeft_41 s_20 hb2004 ?_
          refine V_aload_n dX2_lastLeft_42 rfl ?_
          refine U_getR dX2_lastLeft_43 fl_X2_15 s_18 rfl ?_
          refine V_iload_n dX2_lastLeft_46 rfl ?_
          have hb2005 := hc2009 c2010 c2011 c2012
          refine U_iald dX2_lastLeft_47 s_20 hb2005 ?_
          refine V_icmp_le dX2_lastLeft_48 (fun c2013 => ?_) (fun c2013 => ?_)
          · exact key2 _ (by rw [if_neg (not_not_intro c2010), if_neg c2011, if_neg c2012, if_pos c2013])
          · refine V_iload_n dX2_lastLeft_51 rfl ?_
            refine U_istore_n (L2 := [.ref 18, .int v1, .int v3, .int v3]) dX2_lastLeft_52 (by decide) rfl ?_
            exact key2 _ (by rw [if_neg (not_not_intro c2010), if_neg c2011, if_neg c2012, if_neg c2013])
theorem lastL_loop {E : aE} {P : Int32 → hI_ → hJ_ → Prop} {I : hI_} {J : hJ_} {g : Nat} {D : Nat → Nat} (h : Rel I) (hg : g < 32) (hD : ∀ j, j < 5 → I 20 j = nI (D j) - 1) (hD2 : ∀ j, D j ≤ 10000) (k1 : (∀ a, a < nP I → g.testBit a = false → D a = 0) → P (-1) I J) (k2 : ∀ x, x < nP I → g.testBit x = false → 0 < D x → (∀ b, b < nP I → g.testBit b = false → D b ≤ D x) → P (nI x) I J) : ∀ (m i : Nat) (best : Int32), i + m = nP I → ((best = -1 ∧ ∀ a, a < i → g.testBit a = false → D a = 0) ∨ (∃ x, x < i ∧ best = nI x ∧ g.testBit x = false ∧ 0 < D x ∧ ∀ b, b < i → g.testBit b = false → D b ≤ D x)) → HX2_lastLeft_4 E P (nI g) best (nI i) I J
  | 0, i, best, hi, hb => by
    have hP := Rel_P h
    have : i = nP I := by omega
    subst this
    refine wX2_lastLeft_4 ⟨fun _ => ?_, fun q => absurd (by rw [hP.1]; exact Int32.le_refl _) q⟩
    rcases hb with ⟨rfl, h1⟩ | ⟨x, h1, rfl, h2, h3, h4⟩
    · exact k1 h1
    · exact k2 x h1 h2 h3 h4
  | m + 1, i, best, hi, hb => by
    have hP := Rel_P h
    have b5 := (bit5 hg (a := i) (by omega)).1
    have vin : vp_in (nI i) 5 := vp_in_nI (by omega) (by omega)
    have hDi := hD2 i
    have e19 := hD i (by omega)
    have vb : ¬ best < 0 → vp_in best 5 := fun q => by
      rcases hb with ⟨rfl, -⟩ | ⟨x, h1, rfl, -⟩
      · exact absurd (by decide) q
      · exact vp_in_nI (by omega) (by omega)
    refine wX2_lastLeft_4 ⟨fun q => absurd q (by rw [hP.1]; exact nI_ge (by omega) (by omega)), fun _ => ⟨fun _ => vin, fun _ _ _ => vin, fun _ _ q => vb q, ?_⟩⟩
    rw [nI_clamp (by omega), e19, nI_1]
    have c0 : nI (D i) - 1 < 0 ↔ D i = 0 := by
      rw [show (0 : Int32) = nI 0 from rfl, lt_nIm (by omega) (by omega)]; omega
    by_cases hbit : g.testBit i = false
    · rw [if_neg (fun q => q (b5.mpr hbit))]
      by_cases hn : D i = 0
      · rw [if_pos (c0.mpr hn)]
        refine lastL_loop h hg hD hD2 k1 k2 m (i + 1) best (by omega) ?_
        rcases hb with ⟨rfl, h1⟩ | ⟨x, h1, rfl, h2, h3, h4⟩
        · refine Or.inl ⟨rfl, fun a ha hab => ?_⟩
          by_cases e : a = i
          · subst e; exact hn
          · exact h1 a (by omega) hab
        · refine Or.inr ⟨x, by omega, rfl, h2, h3, fun b hbb hb2 => ?_⟩
          by_cases e : b = i
          · subst e; omega
          · exact h4 b (by omega) hb2
      · rw [if_neg (fun q => hn (c0.mp q))]
        rcases hb with ⟨rfl, h1⟩ | ⟨x, h1, rfl, h2, h3, h4⟩
        · rw [if_pos (by decide)]
          refine lastL_loop h hg hD hD2 k1 k2 m (i + 1) _ (by omega) (Or.inr ⟨i, by omega, rfl, hbit, by omega, fun b hbb hb2 => ?_⟩)
          by_cases e : b = i
          · subst e; exact Nat.le_refl _
          · have := h1 b (by omega) hb2; omega
        · have hDx := hD2 x
          rw [if_neg (nI_pos (by omega)), nI_clamp (by omega), hD x (by omega)]
          have cc : (nI (D i) - 1 ≤ nI (D x) - 1) ↔ D i ≤ D x := by
            rw [Int32.le_iff_toInt_le, nIm1 (by omega), nIm1 (by omega)]; omega
          by_cases hc : D i ≤ D x
          · rw [if_pos (cc.mpr hc)]
            refine lastL_loop h hg hD hD2 k1 k2 m (i + 1) _ (by omega) (Or.inr ⟨x, by omega, rfl, h2, h3, fun b hbb hb2 => ?_⟩)
            by_cases e : b = i
            · subst e; exact hc
            · exact h4 b (by omega) hb2
          · rw [if_neg (fun q => hc (cc.mp q))]
            refine lastL_loop h hg hD hD2 k1 k2 m (i + 1) _ (by omega) (Or.inr ⟨i, by omega, rfl, hbit, by omega, fun b hbb hb2 => ?_⟩)
            by_cases e : b = i
            · subst e; exact Nat.le_refl _
            · have := h4 b (by omega) hb2; omega
    · rw [if_pos (fun q => hbit (b5.mp q))]
      refine lastL_loop h hg hD hD2 k1 k2 m (i + 1) best (by omega) ?_
      rcases hb with ⟨rfl, h1⟩ | ⟨x, h1, rfl, h2, h3, h4⟩
      · refine Or.inl ⟨rfl, fun a ha hab => ?_⟩
        by_cases e : a = i
        · subst e; exact absurd hab hbit
        · exact h1 a (by omega) hab
      · refine Or.inr ⟨x, by omega, rfl, h2, h3, fun b hbb hb2 => ?_⟩
        by_cases e : b = i
        · subst e; exact absurd hb2 hbit
        · exact h4 b (by omega) hb2
def HX2_goBack_2 (E : aE) (P : hI_ → hJ_ → Prop) (v1 : Int32) (v2 : Int32) (I : hI_) (J : hJ_) : Prop := V E mX2_goBack (kV SH P) 2 [.ref 18, .int v1, .int v2, .retAddr 0, .retAddr 0] [] (SH, I, J) (0, 0)
set_option maxHeartbeats 4000000 in
set_option maxRecDepth 20000 in
theorem wX2_goBack {E : aE} {P : hI_ → hJ_ → Prop} {I : hI_} {J : hJ_} {a0 : Int32} (k : HX2_goBack_2 E P a0 (0 : Int32) I J) : CallV E mX2_goBack [.ref 18, .int a0] SH I J P := by
  refine Call_of (L := [.ref 18, .int a0, .retAddr 0, .retAddr 0, .retAddr 0]) ok_X2_goBack.1 rfl rfl ?_
  refine V_iconst (v := (0 : Int32)) dX2_goBack_0 rfl ?_
  refine U_istore_n (L2 := [.ref 18, .int a0, .int (0 : Int32), .retAddr 0, .retAddr 0]) dX2_goBack_1 (by decide) rfl ?_
  exact k
set_option maxHeartbeats 4000000 in
set_option maxRecDepth 20000 in
theorem wX2_goBack_2 {E : aE} {P : hI_ → hJ_ → Prop} {I : hI_} {J : hJ_} {v1 : Int32} {v2 : Int32} (k : (((I 3 6) ≤ v2 → P I J) ∧ (¬ ((I 3 6) ≤ v2) → (vp_in (pr v2 v1) 25) ∧ (((I 5 (pr v2 v1).toNatClampNeg) ≤ (0 : Int32) → HX2_goBack_2 E P v1 (v2 + (1 : Int32)) I J) ∧ (¬ ((I 5 (pr v2 v1).toNatClampNeg) ≤ (0 : Int32)) → (vp_in v1 5) ∧ (vp_in (pr v2 v1) 25) ∧ CallI E mX3_openUpTo [.ref 3, .int (pr v2 v1), .int ((I 20 v1.toNatClampNeg) - (I 5 (pr v2 v1).toNatClampNeg))] SH I J (fun x6 I7 J8 => (vp_in v2 5) ∧ (vp_in v2 5) ∧ HX2_goBack_2 E P v1 (v2 + (1 : Int32)) (upI I7 20 v2.toNatClampNeg (jmax (I7 20 v2.toNatClampNeg) x6)) J8)))))) : HX2_goBack_2 E P v1 v2 I J := by
  show V E mX2_goBack (kV SH P) 2 [.ref 18, .int v1, .int v2, .retAddr 0, .retAddr 0] [] (SH, I, J) (0, 0)
  refine V_iload_n dX2_goBack_2 rfl ?_
  refine V_aload_n dX2_goBack_3 rfl ?_
  refine U_getR dX2_goBack_4 fl_X2_18 s_18 rfl ?_
  refine U_getI dX2_goBack_7 fl_X2_28 s_3 rfl ?_
  refine V_icmp_ge dX2_goBack_10 (fun c1 => ?_) (fun c1 => ?_)
  · have k := k.1 c1
    exact V_vret dX2_goBack_80 rfl rfl rfl ⟨_, _, rfl, k⟩
  · have k := k.2 c1
    refine V_iload_n dX2_goBack_13 rfl ?_
    refine V_iload_n dX2_goBack_14 rfl ?_
    refine U_callS1 [.int v2, .int v1] dX2_goBack_15 os_X2_42 ⟨rfl, rfl, rfl⟩ rfl rfl rfl (tX3_pair ?_)
    refine U_istore_n (L2 := [.ref 18, .int v1, .int v2, .int (pr v2 v1), .retAddr 0]) dX2_goBack_18 (by decide) rfl ?_
    refine V_aload_n dX2_goBack_19 rfl ?_
    refine U_getR dX2_goBack_20 fl_X2_18 s_18 rfl ?_
    refine U_getR dX2_goBack_23 fl_X2_46 s_3 rfl ?_
    refine V_iload_n dX2_goBack_26 rfl ?_
    obtain ⟨hb2, k⟩ := k
    refine U_iald dX2_goBack_27 s_5 hb2 ?_
    refine V_if_le dX2_goBack_28 (fun c3 => ?_) (fun c3 => ?_)
    · have k := k.1 c3
      refine U_iinc (v := v2 + (1 : Int32)) (L2 := [.ref 18, .int v1, .int (v2 + (1 : Int32)), .int (pr v2 v1), .retAddr 0]) dX2_goBack_74 (by decide) rfl rfl rfl ?_
      refine V_goto dX2_goBack_77 ?_
      exact V_wk (wk_eq (wk_eq (wk_eq (wk_j (wk_j (wk_nil)))))) k
    · have k := k.2 c3
      refine V_aload_n dX2_goBack_31 rfl ?_
      refine U_getR dX2_goBack_32 fl_X2_18 s_18 rfl ?_
      refine V_iload_n dX2_goBack_35 rfl ?_
      refine V_aload_n dX2_goBack_36 rfl ?_
      refine U_getR dX2_goBack_37 fl_X2_15 s_18 rfl ?_
      refine V_iload_n dX2_goBack_40 rfl ?_
      obtain ⟨hb4, k⟩ := k
      refine U_iald dX2_goBack_41 s_20 hb4 ?_
      refine V_aload_n dX2_goBack_42 rfl ?_
      refine U_getR dX2_goBack_43 fl_X2_18 s_18 rfl ?_
      refine U_getR dX2_goBack_46 fl_X2_46 s_3 rfl ?_
      refine V_iload_n dX2_goBack_49 rfl ?_
      obtain ⟨hb5, k⟩ := k
      refine U_iald dX2_goBack_50 s_5 hb5 ?_
      refine V_isub dX2_goBack_51 ?_
      refine U_callV1 [.int (pr v2 v1), .int ((I 20 v1.toNatClampNeg) - (I 5 (pr v2 v1).toNatClampNeg))] dX2_goBack_52 ov_X2_63 s_3 rfl ⟨rfl, rfl, rfl⟩ rfl rfl rfl (CallI_mono k (fun x6 I7 J8 k => ?_))
      refine U_istore (L2 := [.ref 18, .int v1, .int v2, .int (pr v2 v1), .int x6]) dX2_goBack_55 (by decide) rfl ?_
      refine V_aload_n dX2_goBack_57 rfl ?_
      refine U_getR dX2_goBack_58 fl_X2_15 s_18 rfl ?_
      refine V_iload_n dX2_goBack_61 rfl ?_
      refine V_aload_n dX2_goBack_62 rfl ?_
      refine U_getR dX2_goBack_63 fl_X2_15 s_18 rfl ?_
      refine V_iload_n dX2_goBack_66 rfl ?_
      obtain ⟨hb9, k⟩ := k
      refine U_iald dX2_goBack_67 s_20 hb9 ?_
      refine V_iload dX2_goBack_68 rfl ?_
      refine V_mmax dX2_goBack_70 om_X2_66 rfl ?_
      obtain ⟨hb10, k⟩ := k
      refine U_iast dX2_goBack_73 s_20 hb10 ?_
      refine U_iinc (v := v2 + (1 : Int32)) (L2 := [.ref 18, .int v1, .int (v2 + (1 : Int32)), .int (pr v2 v1), .int x6]) dX2_goBack_74 (by decide) rfl rfl rfl ?_
      refine V_goto dX2_goBack_77 ?_
      exact V_wk (wk_eq (wk_eq (wk_eq (wk_j (wk_j (wk_nil)))))) k
def rbk (w : Wld) (G : Nat → Nat) (x j : Nat) : Nat := if 0 < w.1 j x then max (G j) (upn (w.2 j x) (G x - w.1 j x)) else G j
theorem jmax_m1 {a b : Nat} (ha : a < 1000000) (hb : b < 1000000) : jmax (nI a - 1) (nI b - 1) = nI (max a b) - 1 := by
  unfold jmax
  have e : (nI a - 1 < nI b - 1) ↔ a < b := by
    rw [Int32.lt_iff_toInt_lt, nIm1 ha, nIm1 hb]
    omega
  by_cases h : a < b
  · rw [if_pos (e.mpr h), Nat.max_eq_right (by omega)]
  · rw [if_neg (fun q => h (e.mp q)), Nat.max_eq_left (by omega)]
theorem goBack_loop {E : aE} {P : hI_ → hJ_ → Prop} {I0 : hI_} {J : hJ_} {x : Nat} {G : Nat → Nat} (h : Rel I0) (hx : x < nP I0) (hx0 : 0 < G x) (hG : ∀ j, G j ≤ 10000) (k : ∀ I2, ag1 20 I0 I2 → (∀ j, j < 5 → I2 20 j = nI (rbk (wI I0) G x j) - 1) → P I2 J) : ∀ (m a : Nat) (I : hI_), a + m = nP I0 → ag1 20 I0 I → (∀ j, j < 5 → I 20 j = nI (if j < a then rbk (wI I0) G x j else G j) - 1) → HX2_goBack_2 E P (nI x) (nI a) I J
  | 0, b, I, hb, hag, hI => by
    have hP := Rel_P h
    have : b = nP I0 := by omega
    subst this
    refine wX2_goBack_2 ⟨fun _ => k I hag (fun j hj => ?_), fun q => absurd (by rw [hag 3 (by omega), hP.1]; exact Int32.le_refl _) q⟩
    rw [hI j hj]
    by_cases e : j < nP I0
    · rw [if_pos e]
    · rw [if_neg e]
      unfold rbk
      rw [if_neg (fun q => e (Rel_way0 h q).1)]
  | m + 1, b, I, hb, hag, hI => by
    have hP := Rel_P h
    have hX : agX I0 I := ag1_X rfl hag
    have hR := Rel_agX hX h
    have hw := wI_X hX
    obtain ⟨w1, w2, w3, w4⟩ := Rel_way h (a := b) (b := x) (by omega) (by omega)
    have hpl := prN_lt (a := b) (b := x) (by omega) (by omega)
    have vpr : vp_in (nI (prN b x)) 25 := vp_in_nI hpl (by omega)
    have hGx := hG x
    have hGb := hG b
    refine wX2_goBack_2 ⟨fun q => absurd q (by rw [hag 3 (by omega), hP.1]; exact nI_ge (by omega) (by omega)), fun _ => ?_⟩
    rw [pr_nI (by omega) (by omega), nI_clamp (by omega), nI_clamp (by omega), nI_clamp (by omega), hag 5 (by omega), w1, nI_1]
    refine ⟨vpr, fun c1 => ?_, fun c1 => ⟨vp_in_nI (by omega) (by omega), vpr, ?_⟩⟩
    · rw [nIz (by omega)] at c1
      refine goBack_loop h hx hx0 hG k m (b + 1) I (by omega) hag (fun j hj => ?_)
      rw [hI j hj]
      by_cases e : j = b
      · subst e
        rw [if_neg (by omega), if_pos (by omega)]
        unfold rbk
        rw [if_neg (by omega)]
      · by_cases e2 : j < b
        · rw [if_pos e2, if_pos (by omega)]
        · rw [if_neg e2, if_neg (by omega)]
    · rw [nIz (by omega)] at c1
      have hne := (w4 (by omega)).2.2
      have eX : I 20 x = nI (G x) - 1 := by
        rw [hI x (by omega)]
        by_cases e : x < b
        · rw [if_pos e]
          unfold rbk
          rw [if_neg (fun q => (Rel_way0 h q).2.2 rfl)]
        · rw [if_neg e]
      -- what is behind the call
      have fin : ∀ v : Int32, jmax (nI (G b) - 1) v = nI (rbk (wI I0) G x b) - 1 → (vp_in (nI b) 5) ∧ (vp_in (nI b) 5) ∧ HX2_goBack_2 E P (nI x) (nI (b + 1)) (upI I 20 b (jmax (I 20 b) v)) J := fun v hv => by
        refine ⟨vp_in_nI (by omega) (by omega), vp_in_nI (by omega) (by omega), ?_⟩
        rw [hI b (by omega), if_neg (by omega), hv]
        refine goBack_loop h hx hx0 hG k m (b + 1) _ (by omega) (ag1_tr hag ag1_up) (fun j hj => ?_)
        rw [upI_at]
        by_cases e : j = b
        · subst e
          rw [if_pos ⟨rfl, rfl⟩, if_pos (by omega)]
        · rw [if_neg (fun q => e q.2), hI j hj]
          by_cases e2 : j < b
          · rw [if_pos e2, if_pos (by omega)]
          · rw [if_neg e2, if_neg (by omega)]
      rw [eX]
      by_cases hc : (wI I0).1 b x ≤ G x
      · have ev : nI (G x) - 1 - nI ((wI I0).1 b x) = nI (G x - (wI I0).1 b x) - 1 := by
          apply Int32.toInt_inj.mp
          have o : (1 : Int32).toInt = 1 := rfl
          rw [nIm1 (by omega), ti_sub (by rw [nIm1 (by omega), nI_toInt (by omega)]; omega) (by rw [nIm1 (by omega), nI_toInt (by omega)]; omega), nIm1 (by omega), nI_toInt (by omega)]
          omega
        rw [ev]
        refine tX3_openUpTo hR (by omega) (by omega) (by omega) ?_
        rw [hw]
        refine fin _ ?_
        have hu := upn_le ((wI I0).2 b x) (G x - (wI I0).1 b x)
        rw [jmax_m1 (by omega) (by omega)]
        unfold rbk
        rw [if_pos (by omega)]
      · have hneg : (nI (G x) - 1 - nI ((wI I0).1 b x)).toInt = (G x : Int) - 1 - (wI I0).1 b x := by
          rw [ti_sub (by rw [nIm1 (by omega), nI_toInt (by omega)]; omega) (by rw [nIm1 (by omega), nI_toInt (by omega)]; omega), nIm1 (by omega), nI_toInt (by omega)]
        refine openU_neg hR (by omega) (fin _ ?_)
        have e0 : rbk (wI I0) G x b = G b := by
          unfold rbk
          rw [if_pos (by omega), show G x - (wI I0).1 b x = 0 by omega]
          show max (G b) 0 = G b
          omega
        rw [e0]
        unfold jmax
        rw [if_neg (fun q => by
          rw [Int32.lt_iff_toInt_lt, nIm1 (by omega), hneg] at q
          omega)]
def HX2_gather_30 (E : aE) (P : hI_ → hJ_ → Prop) (v3 : Int32) (v4 : Int32) (I : hI_) (J : hJ_) : Prop := V E mX2_gather (kV SH P) 30 [.ref 18, .retAddr 0, .retAddr 0, .int v3, .int v4, .retAddr 0] [] (SH, I, J) (0, 0)
set_option maxHeartbeats 4000000 in
set_option maxRecDepth 20000 in
theorem wX2_gather {E : aE} {P : hI_ → hJ_ → Prop} {I : hI_} {J : hJ_} {a0 : Int32} {a1 : Int32} (k : ((a0 < (0 : Int32) → P (flI I 20 5 (-1 : Int32)) J) ∧ (¬ (a0 < (0 : Int32)) → ((a0 < (5 : Int32) → (vp_in a0 5) ∧ HX2_gather_30 E P (0 : Int32) (0 : Int32) (upI (flI I 20 5 (-1 : Int32)) 20 a0.toNatClampNeg a1) J) ∧ (¬ (a0 < (5 : Int32)) → P (flI I 20 5 (-1 : Int32)) J))))) : CallV E mX2_gather [.ref 18, .int a0, .int a1] SH I J P := by
  refine Call_of (L := [.ref 18, .int a0, .int a1, .retAddr 0, .retAddr 0, .retAddr 0]) ok_X2_gather.1 rfl rfl ?_
  refine V_aload_n dX2_gather_0 rfl ?_
  refine U_getR dX2_gather_1 fl_X2_15 s_18 rfl ?_
  refine V_iconst (v := (-1 : Int32)) dX2_gather_4 rfl ?_
  refine U_callS0 [.ref 20, .int (-1 : Int32)] dX2_gather_5 os_X2_22 ⟨rfl, rfl, rfl⟩ rfl rfl rfl (tfillI s_20 (by decide) ?_)
  refine V_iload_n dX2_gather_8 rfl ?_
  refine V_if_lt dX2_gather_9 (fun c1 => ?_) (fun c1 => ?_)
  · have k := k.1 c1
    exact V_vret dX2_gather_17 rfl rfl rfl ⟨_, _, rfl, k⟩
  · have k := k.2 c1
    refine V_iload_n dX2_gather_12 rfl ?_
    refine V_iconst (v := (5 : Int32)) dX2_gather_13 rfl ?_
    refine V_icmp_lt dX2_gather_14 (fun c2 => ?_) (fun c2 => ?_)
    · have k := k.1 c2
      refine V_aload_n dX2_gather_18 rfl ?_
      refine U_getR dX2_gather_19 fl_X2_15 s_18 rfl ?_
      refine V_iload_n dX2_gather_22 rfl ?_
      refine V_iload_n dX2_gather_23 rfl ?_
      obtain ⟨hb3, k⟩ := k
      refine U_iast dX2_gather_24 s_20 hb3 ?_
      refine V_iconst (v := (0 : Int32)) dX2_gather_25 rfl ?_
      refine U_istore_n (L2 := [.ref 18, .int a0, .int a1, .int (0 : Int32), .retAddr 0, .retAddr 0]) dX2_gather_26 (by decide) rfl ?_
      refine V_iconst (v := (0 : Int32)) dX2_gather_27 rfl ?_
      refine U_istore (L2 := [.ref 18, .int a0, .int a1, .int (0 : Int32), .int (0 : Int32), .retAddr 0]) dX2_gather_28 (by decide) rfl ?_
      exact V_wk (wk_eq (wk_j (wk_j (wk_eq (wk_eq (wk_j (wk_nil))))))) k
    · have k := k.2 c2
      exact V_vret dX2_gather_17 rfl rfl rfl ⟨_, _, rfl, k⟩
set_option maxHeartbeats 4000000 in
set_option maxRecDepth 20000 in
theorem wX2_gather_30 {E : aE} {P : hI_ → hJ_ → Prop} {I : hI_} {J : hJ_} {v3 : Int32} {v4 : Int32} (k : (((I 3 6) ≤ v4 → P I J) ∧ (¬ ((I 3 6) ≤ v4) → CallI E mX2_lastLeft [.ref 18, .int v3] SH I J (fun x2 I3 J4 => (((0 : Int32) ≤ x2 → CallV E mX2_goBack [.ref 18, .int x2] SH I3 J4 (fun I7 J8 => HX2_gather_30 E P (v3 ||| ((1 : Int32) <<< (x2 &&& 31))) (v4 + (1 : Int32)) I7 J8)) ∧ (¬ ((0 : Int32) ≤ x2) → P I3 J4)))))) : HX2_gather_30 E P v3 v4 I J := by
  show V E mX2_gather (kV SH P) 30 [.ref 18, .retAddr 0, .retAddr 0, .int v3, .int v4, .retAddr 0] [] (SH, I, J) (0, 0)
  refine V_iload dX2_gather_30 rfl ?_
  refine V_aload_n dX2_gather_32 rfl ?_
  refine U_getR dX2_gather_33 fl_X2_18 s_18 rfl ?_
  refine U_getI dX2_gather_36 fl_X2_28 s_3 rfl ?_
  refine V_icmp_ge dX2_gather_39 (fun c1 => ?_) (fun c1 => ?_)
  · have k := k.1 c1
    exact V_vret dX2_gather_74 rfl rfl rfl ⟨_, _, rfl, k⟩
  · have k := k.2 c1
    refine V_aload_n dX2_gather_42 rfl ?_
    refine V_iload_n dX2_gather_43 rfl ?_
    refine U_callV1 [.int v3] dX2_gather_44 ov_X2_57 s_18 rfl ⟨rfl, rfl, rfl⟩ rfl rfl rfl (CallI_mono k (fun x2 I3 J4 k => ?_))
    refine U_istore (L2 := [.ref 18, .retAddr 0, .retAddr 0, .int v3, .int v4, .int x2]) dX2_gather_47 (by decide) rfl ?_
    refine V_iload dX2_gather_49 rfl ?_
    refine V_if_ge dX2_gather_51 (fun c5 => ?_) (fun c5 => ?_)
    · have k := k.1 c5
      refine V_iload_n dX2_gather_55 rfl ?_
      refine V_iconst (v := (1 : Int32)) dX2_gather_56 rfl ?_
      refine V_iload dX2_gather_57 rfl ?_
      refine V_ishl dX2_gather_59 ?_
      refine V_ior dX2_gather_60 ?_
      refine U_istore_n (L2 := [.ref 18, .retAddr 0, .retAddr 0, .int (v3 ||| ((1 : Int32) <<< (x2 &&& 31))), .int v4, .int x2]) dX2_gather_61 (by decide) rfl ?_
      refine V_aload_n dX2_gather_62 rfl ?_
      refine V_iload dX2_gather_63 rfl ?_
      refine U_callV0 [.int x2] dX2_gather_65 ov_X2_60 s_18 rfl ⟨rfl, rfl, rfl⟩ rfl rfl rfl (CallV_mono k (fun I7 J8 k => ?_))
      refine U_iinc (v := v4 + (1 : Int32)) (L2 := [.ref 18, .retAddr 0, .retAddr 0, .int (v3 ||| ((1 : Int32) <<< (x2 &&& 31))), .int (v4 + (1 : Int32)), .int x2]) dX2_gather_68 (by decide) rfl rfl rfl ?_
      refine V_goto dX2_gather_71 ?_
      exact V_wk (wk_eq (wk_j (wk_j (wk_eq (wk_eq (wk_j (wk_nil))))))) k
    · have k := k.2 c5
      exact V_vret dX2_gather_54 rfl rfl rfl ⟨_, _, rfl, k⟩
def gaI (w : Wld) (b T1 n : Nat) (G : Nat → Nat) (g i : Nat) : Prop := (∀ j, G j ≤ T1) ∧ (∀ j, n ≤ j → G j = 0) ∧ T1 ≤ G b ∧ (∀ F, cocl w F → T1 ≤ F b → ∀ v, G v ≤ F v) ∧ (∀ u v, g.testBit v = true → 0 < w.1 u v → upn (w.2 u v) (G v - w.1 u v) ≤ G u) ∧ (∀ u v, g.testBit u = true → g.testBit v = false → G v ≤ G u) ∧ g < 32 ∧ (∀ u, g.testBit u = true → u < n) ∧ cntB g.testBit n = i
theorem ga_step {w : Wld} (hw : wok w) {b T1 n : Nat} {G : Nat → Nat} {g i x : Nat} (hn : n ≤ 5) (hS : gaI w b T1 n G g i) (hx : x < n) (hg : g.testBit x = false) (hxm : ∀ c, c < n → g.testBit c = false → G c ≤ G x) (hwn : ∀ u v, 0 < w.1 u v → u < n ∧ v < n) : gaI w b T1 n (rbk w G x) (g ||| 2 ^ x) (i + 1) := by
  obtain ⟨s1, s2, s3, s4, s5, s6, s7, s8, s9⟩ := hS
  obtain ⟨b1, b2, b3, b4⟩ := bit5 s7 (a := x) (by omega)
  have hup : ∀ j, 0 < w.1 j x → upn (w.2 j x) (G x - w.1 j x) ≤ G x := fun j hj => by have := upn_le (w.2 j x) (G x - w.1 j x); omega
  have hge : ∀ j, G j ≤ rbk w G x j := fun j => by unfold rbk; split <;> omega
  have hself : rbk w G x x = G x := by
    unfold rbk
    rw [if_neg (fun q => (hw.2.2.2.2 x x q).2.2 rfl)]
  have hmax : ∀ j, rbk w G x j ≤ max (G j) (G x) := fun j => by
    unfold rbk
    split
    · rename_i q; have := hup j q; omega
    · omega
  have hle : ∀ j, g.testBit j = false → rbk w G x j ≤ G x := fun j hj => by
    have h1 := hmax j
    have h2 : G j ≤ G x := by
      rcases Nat.lt_or_ge j n with q | q
      · exact hxm j q hj
      · rw [s2 j q]; omega
    omega
  have hgone : ∀ u, g.testBit u = true → rbk w G x u = G u := fun u hu => by
    have h1 := hmax u
    have h2 := s6 u x hu hg
    have h3 := hge u
    omega
  have hbit : ∀ c, (g ||| 2 ^ x).testBit c = (g.testBit c || decide (c = x)) := fun c => by
    rcases Nat.lt_or_ge c 5 with q | q
    · exact b4 c q
    · rw [testBit_lt32 b3 q, testBit_lt32 s7 q]
      have : ¬ c = x := by omega
      simp [this]
  refine ⟨?_, ?_, Nat.le_trans s3 (hge b), ?_, ?_, ?_, b3, ?_, ?_⟩
  · intro j
    have := hmax j; have := s1 j; have := s1 x; omega
  · intro j hj
    unfold rbk
    rw [if_neg (fun q => by have := (hwn j x q).1; omega)]
    exact s2 j hj
  · intro F hF hFb v
    unfold rbk
    have h1 := s4 F hF hFb v
    split
    · rename_i q
      have h2 := hF v x q
      have h3 := s4 F hF hFb x
      have h4 : upn (w.2 v x) (G x - w.1 v x) ≤ upn (w.2 v x) (F x - w.1 v x) := by
        rcases Nat.eq_zero_or_pos (upn (w.2 v x) (G x - w.1 v x)) with z | z
        · omega
        · have q1 : op (w.2 v x) (upn (w.2 v x) (G x - w.1 v x) - 1) < G x - w.1 v x := (gal (hw.1 v x)).mpr (by omega)
          have q2 := (gal (hw.1 v x)).mp (Nat.lt_of_lt_of_le q1 (show G x - w.1 v x ≤ F x - w.1 v x by omega))
          omega
      omega
    · exact h1
  · intro u v hv huv
    rw [hbit] at hv
    simp only [Bool.or_eq_true, decide_eq_true_eq] at hv
    rcases hv with hv | hv
    · rw [hgone v hv]
      exact Nat.le_trans (s5 u v hv huv) (hge u)
    · subst hv
      rw [hself]
      unfold rbk
      rw [if_pos huv]
      omega
  · intro u v hu hv
    rw [hbit] at hu hv
    simp only [Bool.or_eq_true, decide_eq_true_eq] at hu
    simp only [Bool.or_eq_false_iff, decide_eq_false_iff_not] at hv
    rcases hu with hu | hu
    · rw [hgone u hu]
      exact Nat.le_trans (hle v hv.1) (s6 u x hu hg)
    · subst hu
      rw [hself]
      exact hle v hv.1
  · intro u hu
    rw [hbit] at hu
    simp only [Bool.or_eq_true, decide_eq_true_eq] at hu
    rcases hu with hu | hu
    · exact s8 u hu
    · subst hu; exact hx
  · rw [cntB_set hbit hg n hx, s9]
/-- the latest (one up), for a minute told one up -/
noncomputable def lt1 (w : Wld) (a b T1 : Nat) : Nat := if T1 = 0 then 0 else lat w a b (T1 - 1)
theorem ga_done {w : Wld} (hw : wok w) {b T1 n : Nat} {G : Nat → Nat} {g i : Nat} (hT : T1 ≤ 10000) (hS : gaI w b T1 n G g i) (hwn : ∀ u v, 0 < w.1 u v → u < n ∧ v < n) (hd : ∀ u, u < n → g.testBit u = false → G u = 0) (v : Nat) : lt1 w v b T1 = G v := by
  obtain ⟨s1, s2, s3, s4, s5, s6, s7, s8, s9⟩ := hS
  unfold lt1
  by_cases h0 : T1 = 0
  · rw [if_pos h0]; have := s1 v; omega
  · rw [if_neg h0]
    refine lat_eq hw (by omega) (fun u v huv => ?_) (by omega) (fun j => by have := s1 j; omega) (fun F hF hFb => s4 F hF (by omega)) v
    by_cases q : g.testBit v = true
    · exact s5 u v q huv
    · have q : g.testBit v = false := by simpa using q
      rw [hd v (hwn u v huv).2 q, Nat.zero_sub]
      exact Nat.zero_le _
theorem gather_loop {E : aE} {P : hI_ → hJ_ → Prop} {I0 : hI_} {J : hJ_} {b T1 : Nat} (h : Rel I0) (hT : T1 ≤ 10000) (k : ∀ I2, ag1 20 I0 I2 → (∀ j, j < 5 → I2 20 j = nI (lt1 (wI I0) j b T1) - 1) → P I2 J) : ∀ (m i g : Nat) (G : Nat → Nat) (I : hI_), i + m = nP I0 → ag1 20 I0 I → (∀ j, j < 5 → I 20 j = nI (G j) - 1) → gaI (wI I0) b T1 (nP I0) G g i → HX2_gather_30 E P (nI g) (nI i) I J
  | 0, i, g, G, I, hi, hag, hI, hS => by
    have hP := Rel_P h
    have hwn : ∀ u v, 0 < (wI I0).1 u v → u < nP I0 ∧ v < nP I0 := fun u v q => ⟨(Rel_way0 h q).1, (Rel_way0 h q).2.1⟩
    have : i = nP I0 := by omega
    subst this
    refine wX2_gather_30 ⟨fun _ => k I hag (fun j hj => ?_), fun q => absurd (by rw [hag 3 (by omega), hP.1]; exact Int32.le_refl _) q⟩
    rw [hI j hj, ga_done (Rel_wok h) hT hS hwn (fun u hu hb => ?_)]
    have := cntB_all (nP I0) hS.2.2.2.2.2.2.2.2 u hu
    rw [hb] at this; cases this
  | m + 1, i, g, G, I, hi, hag, hI, hS => by
    have hP := Rel_P h
    have hX : agX I0 I := ag1_X rfl hag
    have hR := Rel_agX hX h
    have hnP := nP_X hX
    have hwX := wI_X hX
    have hG : ∀ j, G j ≤ 10000 := fun j => Nat.le_trans (hS.1 j) hT
    have hwn : ∀ u v, 0 < (wI I0).1 u v → u < nP I0 ∧ v < nP I0 := fun u v q => ⟨(Rel_way0 h q).1, (Rel_way0 h q).2.1⟩
    refine wX2_gather_30 ⟨fun q => absurd q (by rw [hag 3 (by omega), hP.1]; exact nI_ge (by omega) (by omega)), fun _ => ?_⟩
    refine wX2_lastLeft ?_
    refine lastL_loop hR hS.2.2.2.2.2.2.1 hI hG (fun hn => ⟨fun q => absurd q (by decide), fun _ => ?_⟩) (fun x hx hb hx1 hxm => ⟨fun _ => ?_, fun q => absurd (nI_pos' (by omega)) q⟩) (nP I) 0 (-1) (by omega) (Or.inl ⟨rfl, fun b hb => by omega⟩)
    · refine k I hag (fun j hj => ?_)
      rw [hI j hj, ga_done (Rel_wok h) hT hS hwn (fun u hu hb => hn u (by omega) hb)]
    · rw [hnP] at hx hxm
      refine wX2_goBack ?_
      refine goBack_loop hR (x := x) (G := G) (by omega) hx1 hG (fun I2 hag2 hI2 => ?_) (nP I) 0 I (by omega) ag1_rf (fun j hj => by rw [if_neg (by omega)]; exact hI j hj)
      rw [hwX] at hI2
      rw [(bit5 hS.2.2.2.2.2.2.1 (a := x) (by omega)).2.1, nI_1]
      exact gather_loop h hT k m (i + 1) (g ||| 2 ^ x) (rbk (wI I0) G x) I2 (by omega) (ag1_tr hag hag2) hI2 (ga_step (Rel_wok h) hP.2.2 hS hx hb hxm hwn)
theorem tX2_gather {E : aE} {P : hI_ → hJ_ → Prop} {I : hI_} {J : hJ_} {b T1 : Nat} (h : Rel I) (hb : b < nP I) (hT : T1 ≤ 10000) (k : ∀ I2, ag1 20 I I2 → (∀ j, j < 5 → I2 20 j = nI (lt1 (wI I) j b T1) - 1) → P I2 J) : CallV E mX2_gather [.ref 18, .int (nI b), .int (nI T1 - 1)] SH I J P := by
  have hP := Rel_P h
  have hfl : ag1 20 I (flI I 20 5 (-1)) := fun q hq => by simp [flI, hq]
  have hf5 : ∀ j, j < 5 → flI I 20 5 (-1) 20 j = nI 0 - 1 := fun j hj => by simp [flI, hj]; rfl
  refine wX2_gather ⟨fun q => absurd q (nI_pos (by omega)), fun _ => ⟨fun _ => ⟨vp_in_nI (by omega) (by omega), ?_⟩, fun q => absurd (nI_lt (b := 5) (by omega) (by omega)) q⟩⟩
  rw [nI_clamp (by omega)]
  refine gather_loop h hT k (nP I) 0 0 (fun j => if j = b then T1 else 0) _ (by omega) (ag1_tr hfl ag1_up) (fun j hj => ?_) ?_
  · rw [upI_at]
    by_cases e : j = b
    · rw [if_pos ⟨rfl, e⟩, if_pos e]
    · rw [if_neg (fun q => e q.2), if_neg e]; exact hf5 j hj
  · have hz : ∀ u, Nat.testBit 0 u = true → False := fun u hu => by rw [Nat.zero_testBit] at hu; cases hu
    refine ⟨?_, ?_, ?_, ?_, ?_, ?_, ?_, ?_, ?_⟩
    · intro j; dsimp only; split <;> omega
    · intro j hj; dsimp only; rw [if_neg (by omega)]
    · dsimp only; rw [if_pos rfl]; exact Nat.le_refl T1
    · intro F hF hFa v
      dsimp only
      by_cases e : v = b
      · rw [if_pos e, e]; exact hFa
      · rw [if_neg e]; exact Nat.zero_le _
    · intro u v hu; exact (hz v hu).elim
    · intro u v hu; exact (hz u hu).elim
    · omega
    · intro u hu; exact (hz u hu).elim
    · have : ∀ n, cntB (Nat.testBit 0) n = 0 := by
        intro n
        induction n with
        | zero => rfl
        | succ n ih => unfold cntB; rw [ih, Nat.zero_testBit]; rfl
      exact this _
set_option maxHeartbeats 4000000 in
set_option maxRecDepth 20000 in
theorem wX2_latest {E : aE} {P : Int32 → hI_ → hJ_ → Prop} {I : hI_} {J : hJ_} {a0 : Int32} {a1 : Int32} {a2 : Int32} (k : CallV E mX2_gather [.ref 18, .int a1, .int a2] SH I J (fun I2 J3 => ((¬ (a0 < (0 : Int32))) → (¬ ((5 : Int32) ≤ a0)) → vp_in a0 5) ∧ P (if a0 < (0 : Int32) then (-1 : Int32) else (if (5 : Int32) ≤ a0 then (-1 : Int32) else (I2 20 a0.toNatClampNeg))) I2 J3)) : CallI E mX2_latest [.ref 18, .int a0, .int a1, .int a2] SH I J P := by
  refine Call_of (L := [.ref 18, .int a0, .int a1, .int a2]) ok_X2_latest.1 rfl rfl ?_
  refine V_aload_n dX2_latest_0 rfl ?_
  refine V_iload_n dX2_latest_1 rfl ?_
  refine V_iload_n dX2_latest_2 rfl ?_
  refine U_callV0 [.int a1, .int a2] dX2_latest_3 ov_X2_73 s_18 rfl ⟨rfl, rfl, rfl⟩ rfl rfl rfl (CallV_mono k (fun I2 J3 k => ?_))
  refine V_iload_n dX2_latest_6 rfl ?_
  obtain ⟨hc2007, k⟩ := k
  have key4 : ∀ (y2006 : Int32), y2006 = (if a0 < (0 : Int32) then (-1 : Int32) else (if (5 : Int32) ≤ a0 then (-1 : Int32) else (I2 20 a0.toNatClampNeg))) → V E mX2_latest (kI SH P) 25 [.ref 18, .int a0, .int a1, .int a2] [.int y2006] (SH, I2, J3) (0, 0) := by
    intro y2006 ey2006
    subst ey2006
    exact V_iret dX2_latest_25 ⟨_, rfl, rfl⟩ rfl rfl ⟨_, _, _, rfl, rfl, k⟩
  refine V_if_lt dX2_latest_7 (fun c2008 => ?_) (fun c2008 => ?_)
  · refine V_iconst (v := (-1 : Int32)) dX2_latest_24 rfl ?_
    exact key4 _ (by rw [if_pos c2008])
  · refine V_iload_n dX2_latest_10 rfl ?_
    refine V_iconst (v := (5 : Int32)) dX2_latest_11 rfl ?_
    refine V_icmp_ge dX2_latest_12 (fun c2009 => ?_) (fun c2009 => ?_)
    · refine V_iconst (v := (-1 : Int32)) dX2_latest_24 rfl ?_
      exact key4 _ (by rw [if_neg c2008, if_pos c2009])
    · refine V_aload_n dX2_latest_15 rfl ?_
      refine U_getR dX2_latest_16 fl_X2_15 s_18 rfl ?_
      refine V_iload_n dX2_latest_19 rfl ?_
      have hb2005 := hc2007 c2008 c2009
      refine U_iald dX2_latest_20 s_20 hb2005 ?_
      refine V_goto dX2_latest_21 ?_
      exact key4 _ (by rw [if_neg c2008, if_neg c2009])
theorem tX2_latest {E : aE} {P : Int32 → hI_ → hJ_ → Prop} {I : hI_} {J : hJ_} {a b t : Nat} (h : Rel I) (ha : a < nP I) (hb : b < nP I) (ht : t < 10000) (k : ∀ I2, ag1 20 I I2 → P (nI (lat (wI I) a b t) - 1) I2 J) : CallI E mX2_latest [.ref 18, .int (nI a), .int (nI b), .int (nI t)] SH I J P := by
  have hP := Rel_P h
  refine wX2_latest ?_
  rw [show nI t = nI (t + 1) - 1 from (nI_pred t).symm]
  refine tX2_gather h hb (by omega) (fun I2 hag hI2 => ⟨fun _ _ => vp_in_nI (by omega) (by omega), ?_⟩)
  rw [if_neg (nI_pos (by omega)), if_neg (show ¬ (5 : Int32) ≤ nI a from nI_ge (b := 5) (by omega) (by omega)), nI_clamp (by omega), hI2 a (by omega)]
  unfold lt1
  rw [if_neg (by omega), Nat.add_sub_cancel]
  exact k I2 hag
def HX12_latest_3 (E : aE) (P : Int32 → hI_ → hJ_ → Prop) (v1 : Int32) (v2 : Int32) (v3 : Int32) (v4 : Int32) (I : hI_) (J : hJ_) : Prop := V E mX12_latest (kI SH P) 3 [.ref 68, .int v1, .int v2, .int v3, .int v4] [] (SH, I, J) (0, 0)
set_option maxHeartbeats 4000000 in
set_option maxRecDepth 20000 in
theorem wX12_latest {E : aE} {P : Int32 → hI_ → hJ_ → Prop} {I : hI_} {J : hJ_} {a0 : Int32} {a1 : Int32} {a2 : Int32} (k : HX12_latest_3 E P a0 a1 a2 a2 I J) : CallI E mX12_latest [.ref 68, .int a0, .int a1, .int a2] SH I J P := by
  refine Call_of (L := [.ref 68, .int a0, .int a1, .int a2, .retAddr 0]) ok_X12_latest.1 rfl rfl ?_
  refine V_iload_n dX12_latest_0 rfl ?_
  refine U_istore (L2 := [.ref 68, .int a0, .int a1, .int a2, .int a2]) dX12_latest_1 (by decide) rfl ?_
  exact k
set_option maxHeartbeats 4000000 in
set_option maxRecDepth 20000 in
theorem wX12_latest_3 {E : aE} {P : Int32 → hI_ → hJ_ → Prop} {I : hI_} {J : hJ_} {v1 : Int32} {v2 : Int32} {v3 : Int32} {v4 : Int32} (k : ((v4 < (0 : Int32) → P (-4 : Int32) I J) ∧ (¬ (v4 < (0 : Int32)) → CallI E mX12_news [.ref 68, .int v2, .int v1, .int v4] SH I J (fun x2 I3 J4 => ((v3 < x2 → HX12_latest_3 E P v1 v2 v3 (v4 + (-1 : Int32)) I3 J4) ∧ (¬ (v3 < x2) → P v4 I3 J4)))))) : HX12_latest_3 E P v1 v2 v3 v4 I J := by
  show V E mX12_latest (kI SH P) 3 [.ref 68, .int v1, .int v2, .int v3, .int v4] [] (SH, I, J) (0, 0)
  refine V_iload dX12_latest_3 rfl ?_
  refine V_if_lt dX12_latest_5 (fun c1 => ?_) (fun c1 => ?_)
  · have k := k.1 c1
    refine V_bipush (v := (-4 : Int32)) dX12_latest_29 rfl ?_
    exact V_iret dX12_latest_31 ⟨_, rfl, rfl⟩ rfl rfl ⟨_, _, _, rfl, rfl, k⟩
  · have k := k.2 c1
    refine V_aload_n dX12_latest_8 rfl ?_
    refine V_iload_n dX12_latest_9 rfl ?_
    refine V_iload_n dX12_latest_10 rfl ?_
    refine V_iload dX12_latest_11 rfl ?_
    refine U_callV1 [.int v2, .int v1, .int v4] dX12_latest_13 ov_X12_182 s_68 rfl ⟨rfl, rfl, rfl⟩ rfl rfl rfl (CallI_mono k (fun x2 I3 J4 k => ?_))
    refine V_iload_n dX12_latest_16 rfl ?_
    refine V_icmp_gt dX12_latest_17 (fun c5 => ?_) (fun c5 => ?_)
    · have k := k.1 c5
      refine U_iinc (v := v4 + (-1 : Int32)) (L2 := [.ref 68, .int v1, .int v2, .int v3, .int (v4 + (-1 : Int32))]) dX12_latest_23 (by decide) rfl rfl rfl ?_
      refine V_goto dX12_latest_26 ?_
      exact k
    · have k := k.2 c5
      refine V_iload dX12_latest_20 rfl ?_
      exact V_iret dX12_latest_22 ⟨_, rfl, rfl⟩ rfl rfl ⟨_, _, _, rfl, rfl, k⟩
/-- the model goes back from the minute itself -/
theorem mlat_loop {E : aE} {P : Int32 → hI_ → hJ_ → Prop} {I0 : hI_} {J : hJ_} {a b t : Nat} (h : Rel I0) (ha : a < 5) (hb : b < 5) (ht : t < 10000) (k : ∀ I2, ag1 81 I0 I2 → P (if lat (wI I0) a b t = 0 then -4 else nI (lat (wI I0) a b t) - 1) I2 J) : ∀ (m : Nat) (I : hI_), m ≤ t + 1 → ag1 81 I0 I → lat (wI I0) a b t ≤ m → HX12_latest_3 E P (nI b) (nI a) (nI t) (nI m - 1) I J
  | 0, I, hm, hag, hl => by
    refine wX12_latest_3 ⟨fun _ => ?_, fun q => absurd (by decide) q⟩
    have := k I hag
    rw [if_pos (by omega)] at this
    exact this
  | m + 1, I, hm, hag, hl => by
    have hM : agM I0 I := ag1_M rfl (by omega) hag
    have hR := Rel_agM hM h
    have hw := wI_M hM
    rw [nI_pred]
    refine wX12_latest_3 ⟨fun q => absurd q (nI_pos (by omega)), fun _ => ?_⟩
    refine tX12_news hR ha hb (by omega) (fun I2 hag2 => ?_)
    rw [hw]
    have hle := arr_le (w := wI I0) (a := a) (t := m) (v := b)
    refine ⟨fun c => ?_, fun c => ?_⟩
    · rw [nI_ltI (by omega) (by omega)] at c
      rw [← Int32.sub_eq_add_neg]
      refine mlat_loop h ha hb ht k m I2 (by omega) (ag1_tr hag hag2) ?_
      rcases Nat.lt_or_ge m (lat (wI I0) a b t) with q | q
      · have := (lat_iff (Rel_wok h) ht).mp q; omega
      · exact q
    · rw [nI_ltI (by omega) (by omega)] at c
      have q := (lat_iff (Rel_wok h) ht (a := a) (b := b) (m := m)).mpr (by omega)
      have e : lat (wI I0) a b t = m + 1 := by omega
      have := k I2 (ag1_tr hag hag2)
      rw [e, if_neg (by omega), nI_pred] at this
      exact this
theorem tX12_latest {E : aE} {P : Int32 → hI_ → hJ_ → Prop} {I : hI_} {J : hJ_} {a b t : Nat} (h : Rel I) (ha : a < 5) (hb : b < 5) (ht : t < 10000) (k : ∀ I2, ag1 81 I I2 → P (if lat (wI I) a b t = 0 then -4 else nI (lat (wI I) a b t) - 1) I2 J) : CallI E mX12_latest [.ref 68, .int (nI b), .int (nI a), .int (nI t)] SH I J P := by
  refine wX12_latest ?_
  have e : nI t = nI (t + 1) - 1 := (nI_pred t).symm
  have := mlat_loop (E := E) (P := P) (J := J) h ha hb ht k (t + 1) I (Nat.le_refl _) ag1_rf lat_le
  rw [← e] at this
  exact this
