/-! the first open minute, as class and model look for it -/
def nsh (I : hI_) : Nat := (I 73 2).toInt.toNat
def shF (I : hI_) (s : Nat) : Nat := (I 76 (4 * s + 2)).toInt.toNat
def shT (I : hI_) (s : Nat) : Nat := (I 76 (4 * s + 3)).toInt.toNat
def mtB (I : hI_) (a b s : Nat) : Bool := decide ((I 76 (4 * s) = nI a ∧ I 76 (4 * s + 1) = nI b) ∨ (I 76 (4 * s) = nI b ∧ I 76 (4 * s + 1) = nI a))
def hitB (I : hI_) (a b s t : Nat) : Bool := mtB I a b s && (decide (shF I s ≤ t) && decide (t ≤ shT I s))
def prChk : Bool := (List.range 5).all (fun a => (List.range 5).all (fun b => (List.range 5).all (fun c => (List.range 5).all (fun d => decide (prN a b = prN c d → (c = a ∧ d = b) ∨ (c = b ∧ d = a))))))
theorem prChk_t : prChk = true := by decide +kernel
theorem prN_inj (a : Nat) (ha : a < 5) (b : Nat) (hb : b < 5) (c : Nat) (hc : c < 5) (d : Nat) (hd : d < 5) (h : prN a b = prN c d) : (c = a ∧ d = b) ∨ (c = b ∧ d = a) := by
  have h1 := List.all_eq_true.mp prChk_t a (List.mem_range.mpr ha)
  have h2 := List.all_eq_true.mp h1 b (List.mem_range.mpr hb)
  have h3 := List.all_eq_true.mp h2 c (List.mem_range.mpr hc)
  have h4 := List.all_eq_true.mp h3 d (List.mem_range.mpr hd)
  exact of_decide_eq_true h4 h
/-- a shut's numbers, the same in both -/
theorem Rel_shut {I : hI_} (h : Rel I) : I 3 8 = nI (nsh I) ∧ I 73 2 = nI (nsh I) ∧ nsh I ≤ 12 ∧ ∀ s, s < nsh I → I 7 s = nI (shF I s) ∧ I 8 s = nI (shT I s) ∧ I 76 (4 * s + 2) = nI (shF I s) ∧ I 76 (4 * s + 3) = nI (shT I s) ∧ shF I s ≤ shT I s ∧ shT I s ≤ 999 ∧ (∃ c d, c < 5 ∧ d < 5 ∧ c ≠ d ∧ I 76 (4 * s) = nI c ∧ I 76 (4 * s + 1) = nI d ∧ I 6 s = nI (prN c d)) := by
  obtain ⟨h1, h2⟩ := h.2.1.2.2.1
  have hs := h.2.1.2.2.2.2.2.2.2.2.2
  have e : I 73 2 = nI (nsh I) := ofT h2.1
  refine ⟨h1.trans e, e, by unfold nsh; have := h2.2; omega, fun s hs2 => ?_⟩
  obtain ⟨c, d, g1, g2, g3, g4, g5, g6, g7, g8, g9, g10, g11⟩ := hs s (by rw [e, nI_toInt (by have := h2.2; unfold nsh; omega)]; omega)
  have e2 : I 76 (4 * s + 2) = nI (shF I s) := ofT g9
  have e3 : I 76 (4 * s + 3) = nI (shT I s) := ofT (by omega)
  exact ⟨g7.trans e2, g8.trans e3, e2, e3, by unfold shF shT; omega, by unfold shT; omega, c, d, g1, g2, g3, g4, g5, g6⟩
theorem cl_iff {I : hI_} (h : Rel I) {a b t : Nat} : (wI I).2 a b t = true ↔ ∃ s, s < nsh I ∧ hitB I a b s t = true := by
  show shutB (I 73) (I 76) a b t = true ↔ _
  rw [shutB_iff]
  constructor
  · rintro ⟨s, h1, h2, h3, h4⟩
    refine ⟨s, h1, ?_⟩
    unfold hitB mtB
    simp only [Bool.and_eq_true, decide_eq_true_eq]
    exact ⟨h2, by unfold shF; omega, by unfold shT; omega⟩
  · rintro ⟨s, h1, h2⟩
    obtain ⟨-, -, e2, e3, -⟩ := (Rel_shut h).2.2.2 s h1
    have hT := ((Rel_shut h).2.2.2 s h1).2.2.2.2.2.1
    unfold hitB mtB at h2
    simp only [Bool.and_eq_true, decide_eq_true_eq] at h2
    have h5 := ((Rel_shut h).2.2.2 s h1).2.2.2.2.1
    refine ⟨s, h1, h2.1, ?_, ?_⟩
    · rw [((Rel_shut h).2.2.2 s h1).2.2.1, nI_toInt (by omega)]; omega
    · rw [((Rel_shut h).2.2.2 s h1).2.2.2.1, nI_toInt (by omega)]; omega
theorem cl_no {I : hI_} (h : Rel I) {a b t : Nat} (hn : ∀ s, s < nsh I → hitB I a b s t = false) : (wI I).2 a b t = false := by
  cases hc : (wI I).2 a b t with
  | false => rfl
  | true =>
    obtain ⟨s, h1, h2⟩ := (cl_iff h).mp hc
    rw [hn s h1] at h2; cases h2
/-- how many shuts are not behind -/
def cntS (I : hI_) (a b t : Nat) : Nat := cntB (fun s => decide (s < nsh I) && (mtB I a b s && decide (t ≤ shT I s))) 12
theorem cntS_hit {I : hI_} {a b s t : Nat} (hn : nsh I ≤ 12) (hs : s < nsh I) (h : hitB I a b s t = true) : cntS I a b (shT I s + 1) < cntS I a b t := by
  unfold hitB at h
  simp only [Bool.and_eq_true, decide_eq_true_eq] at h
  refine cntB_lt (fun x hx => ?_) (u := s) ?_ ?_ 12 (by omega)
  · simp only [Bool.and_eq_true, decide_eq_true_eq] at hx ⊢
    exact ⟨hx.1, hx.2.1, by omega⟩
  · simp
  · simp only [Bool.and_eq_true, decide_eq_true_eq]
    exact ⟨hs, h.1, h.2.2⟩
theorem cntS_0 {I : hI_} (h : Rel I) {a b t : Nat} (h0 : cntS I a b t = 0) : (wI I).2 a b t = false := by
  apply cl_no h
  intro s hs
  cases hh : hitB I a b s t with
  | false => rfl
  | true =>
    have := cntS_hit (Rel_shut h).2.2.1 hs hh
    omega
theorem op_hit {I : hI_} (h : Rel I) {a b s t : Nat} (hs : s < nsh I) (hh : hitB I a b s t = true) : op ((wI I).2 a b) (shT I s + 1) = op ((wI I).2 a b) t := by
  have hf := (Rel_wok h).1 a b
  have hh2 := hh
  unfold hitB at hh2
  simp only [Bool.and_eq_true, decide_eq_true_eq] at hh2
  symm
  refine op_eq hf (Nat.le_trans (by omega) (op_ge _ _)) (op_open hf _) (fun v h1 h2 => ?_)
  rcases Nat.lt_or_ge (shT I s) v with q | q
  · exact op_shut (by omega) h2
  · refine (cl_iff h).mpr ⟨s, hs, ?_⟩
    unfold hitB
    simp only [Bool.and_eq_true, decide_eq_true_eq]
    exact ⟨hh2.1, by omega, q⟩
def HX3_openFrom_8 (E : aE) (P : Int32 → hI_ → hJ_ → Prop) (v1 : Int32) (v3 : Int32) (v4 : Int32) (v5 : Int32) (I : hI_) (J : hJ_) : Prop := V E mX3_openFrom (kI SH P) 8 [.ref 3, .int v1, .retAddr 0, .int v3, .int v4, .int v5, .retAddr 0] [] (SH, I, J) (0, 0)
def HX3_openFrom_26 (E : aE) (P : Int32 → hI_ → hJ_ → Prop) (v1 : Int32) (v3 : Int32) (v4 : Int32) (v5 : Int32) (v6 : Int32) (I : hI_) (J : hJ_) : Prop := V E mX3_openFrom (kI SH P) 26 [.ref 3, .int v1, .retAddr 0, .int v3, .int v4, .int v5, .int v6] [] (SH, I, J) (0, 0)
set_option maxHeartbeats 4000000 in
set_option maxRecDepth 20000 in
theorem wX3_openFrom {E : aE} {P : Int32 → hI_ → hJ_ → Prop} {I : hI_} {J : hJ_} {a0 : Int32} {a1 : Int32} (k : HX3_openFrom_8 E P a0 a1 (0 : Int32) (0 : Int32) I J) : CallI E mX3_openFrom [.ref 3, .int a0, .int a1] SH I J P := by
  refine Call_of (L := [.ref 3, .int a0, .int a1, .retAddr 0, .retAddr 0, .retAddr 0, .retAddr 0]) ok_X3_openFrom.1 rfl rfl ?_
  refine V_iload_n dX3_openFrom_0 rfl ?_
  refine U_istore_n (L2 := [.ref 3, .int a0, .int a1, .int a1, .retAddr 0, .retAddr 0, .retAddr 0]) dX3_openFrom_1 (by decide) rfl ?_
  refine V_iconst (v := (0 : Int32)) dX3_openFrom_2 rfl ?_
  refine U_istore (L2 := [.ref 3, .int a0, .int a1, .int a1, .int (0 : Int32), .retAddr 0, .retAddr 0]) dX3_openFrom_3 (by decide) rfl ?_
  refine V_iconst (v := (0 : Int32)) dX3_openFrom_5 rfl ?_
  refine U_istore (L2 := [.ref 3, .int a0, .int a1, .int a1, .int (0 : Int32), .int (0 : Int32), .retAddr 0]) dX3_openFrom_6 (by decide) rfl ?_
  exact V_wk (wk_eq (wk_eq (wk_j (wk_eq (wk_eq (wk_eq (wk_j (wk_nil)))))))) k
set_option maxHeartbeats 4000000 in
set_option maxRecDepth 20000 in
theorem wX3_openFrom_8 {E : aE} {P : Int32 → hI_ → hJ_ → Prop} {I : hI_} {J : hJ_} {v1 : Int32} {v3 : Int32} {v4 : Int32} {v5 : Int32} (k : (((12 : Int32) ≤ v5 → P v3 I J) ∧ (¬ ((12 : Int32) ≤ v5) → ((¬ v4 = (0 : Int32) → P v3 I J) ∧ (v4 = (0 : Int32) → HX3_openFrom_26 E P v1 v3 (1 : Int32) v5 (0 : Int32) I J))))) : HX3_openFrom_8 E P v1 v3 v4 v5 I J := by
  show V E mX3_openFrom (kI SH P) 8 [.ref 3, .int v1, .retAddr 0, .int v3, .int v4, .int v5, .retAddr 0] [] (SH, I, J) (0, 0)
  refine V_iload dX3_openFrom_8 rfl ?_
  refine V_bipush (v := (12 : Int32)) dX3_openFrom_10 rfl ?_
  refine V_icmp_ge dX3_openFrom_12 (fun c1 => ?_) (fun c1 => ?_)
  · have k := k.1 c1
    refine V_iload_n dX3_openFrom_93 rfl ?_
    exact V_iret dX3_openFrom_94 ⟨_, rfl, rfl⟩ rfl rfl ⟨_, _, _, rfl, rfl, k⟩
  · have k := k.2 c1
    refine V_iload dX3_openFrom_15 rfl ?_
    refine V_if_ne dX3_openFrom_17 (fun c2 => ?_) (fun c2 => ?_)
    · have k := k.1 c2
      refine V_iload_n dX3_openFrom_93 rfl ?_
      exact V_iret dX3_openFrom_94 ⟨_, rfl, rfl⟩ rfl rfl ⟨_, _, _, rfl, rfl, k⟩
    · have k := k.2 c2
      refine V_iconst (v := (1 : Int32)) dX3_openFrom_20 rfl ?_
      refine U_istore (L2 := [.ref 3, .int v1, .retAddr 0, .int v3, .int (1 : Int32), .int v5, .retAddr 0]) dX3_openFrom_21 (by decide) rfl ?_
      refine V_iconst (v := (0 : Int32)) dX3_openFrom_23 rfl ?_
      refine U_istore (L2 := [.ref 3, .int v1, .retAddr 0, .int v3, .int (1 : Int32), .int v5, .int (0 : Int32)]) dX3_openFrom_24 (by decide) rfl ?_
      exact k
set_option maxHeartbeats 4000000 in
set_option maxRecDepth 20000 in
theorem wX3_openFrom_26 {E : aE} {P : Int32 → hI_ → hJ_ → Prop} {I : hI_} {J : hJ_} {v1 : Int32} {v3 : Int32} {v4 : Int32} {v5 : Int32} {v6 : Int32} (k : (((I 3 8) ≤ v6 → HX3_openFrom_8 E P v1 v3 v4 (v5 + (1 : Int32)) I J) ∧ (¬ ((I 3 8) ≤ v6) → (vp_in v6 12) ∧ (((I 6 v6.toNatClampNeg) = v1) → vp_in v6 12) ∧ (((I 6 v6.toNatClampNeg) = v1) → (¬ (v3 < (I 7 v6.toNatClampNeg))) → vp_in v6 12) ∧ (((I 6 v6.toNatClampNeg) = v1) → (¬ (v3 < (I 7 v6.toNatClampNeg))) → (¬ ((I 8 v6.toNatClampNeg) < v3)) → vp_in v6 12) ∧ HX3_openFrom_26 E P v1 (if ¬ (I 6 v6.toNatClampNeg) = v1 then v3 else (if v3 < (I 7 v6.toNatClampNeg) then v3 else (if (I 8 v6.toNatClampNeg) < v3 then v3 else ((I 8 v6.toNatClampNeg) + (1 : Int32))))) (if ¬ (I 6 v6.toNatClampNeg) = v1 then v4 else (if v3 < (I 7 v6.toNatClampNeg) then v4 else (if (I 8 v6.toNatClampNeg) < v3 then v4 else (0 : Int32)))) v5 (v6 + (1 : Int32)) I J))) : HX3_openFrom_26 E P v1 v3 v4 v5 v6 I J := by
  show V E mX3_openFrom (kI SH P) 26 [.ref 3, .int v1, .retAddr 0, .int v3, .int v4, .int v5, .int v6] [] (SH, I, J) (0, 0)
  refine V_iload dX3_openFrom_26 rfl ?_
  refine V_aload_n dX3_openFrom_28 rfl ?_
  refine U_getI dX3_openFrom_29 fl_X3_46 s_3 rfl ?_
  refine V_icmp_ge dX3_openFrom_32 (fun c1 => ?_) (fun c1 => ?_)
  · have k := k.1 c1
    refine U_iinc (v := v5 + (1 : Int32)) (L2 := [.ref 3, .int v1, .retAddr 0, .int v3, .int v4, .int (v5 + (1 : Int32)), .int v6]) dX3_openFrom_87 (by decide) rfl rfl rfl ?_
    refine V_goto dX3_openFrom_90 ?_
    exact V_wk (wk_eq (wk_eq (wk_j (wk_eq (wk_eq (wk_eq (wk_j (wk_nil)))))))) k
  · have k := k.2 c1
    refine V_aload_n dX3_openFrom_35 rfl ?_
    refine U_getR dX3_openFrom_36 fl_X3_18 s_3 rfl ?_
    refine V_iload dX3_openFrom_39 rfl ?_
    obtain ⟨hb2, k⟩ := k
    refine U_iald dX3_openFrom_41 s_6 hb2 ?_
    refine V_iload_n dX3_openFrom_42 rfl ?_
    obtain ⟨hc2009, hc2010, hc2011, k⟩ := k
    have key3 : ∀ (y2007 : Int32) (y2008 : Int32), y2007 = (if ¬ (I 6 v6.toNatClampNeg) = v1 then v3 else (if v3 < (I 7 v6.toNatClampNeg) then v3 else (if (I 8 v6.toNatClampNeg) < v3 then v3 else ((I 8 v6.toNatClampNeg) + (1 : Int32))))) → y2008 = (if ¬ (I 6 v6.toNatClampNeg) = v1 then v4 else (if v3 < (I 7 v6.toNatClampNeg) then v4 else (if (I 8 v6.toNatClampNeg) < v3 then v4 else (0 : Int32)))) → V E mX3_openFrom (kI SH P) 81 [.ref 3, .int v1, .retAddr 0, .int y2007, .int y2008, .int v5, .int v6] [] (SH, I, J) (0, 0) := by
      intro y2007 y2008 ey2007 ey2008
      subst ey2007
      subst ey2008
      refine U_iinc (v := v6 + (1 : Int32)) (L2 := [.ref 3, .int v1, .retAddr 0, .int (if ¬ (I 6 v6.toNatClampNeg) = v1 then v3 else (if v3 < (I 7 v6.toNatClampNeg) then v3 else (if (I 8 v6.toNatClampNeg) < v3 then v3 else ((I 8 v6.toNatClampNeg) + (1 : Int32))))), .int (if ¬ (I 6 v6.toNatClampNeg) = v1 then v4 else (if v3 < (I 7 v6.toNatClampNeg) then v4 else (if (I 8 v6.toNatClampNeg) < v3 then v4 else (0 : Int32)))), .int v5, .int (v6 + (1 : Int32))]) dX3_openFrom_81 (by decide) rfl rfl rfl ?_
      refine V_goto dX3_openFrom_84 ?_
      exact k
    refine V_icmp_ne dX3_openFrom_43 (fun c2012 => ?_) (fun c2012 => ?_)
    · exact key3 _ _ (by rw [if_pos c2012]) (by rw [if_pos c2012])
    · refine V_aload_n dX3_openFrom_46 rfl ?_
      refine U_getR dX3_openFrom_47 fl_X3_21 s_3 rfl ?_
      refine V_iload dX3_openFrom_50 rfl ?_
      have hb2004 := hc2009 c2012
      refine U_iald dX3_openFrom_52 s_7 hb2004 ?_
      refine V_iload_n dX3_openFrom_53 rfl ?_
      refine V_icmp_gt dX3_openFrom_54 (fun c2013 => ?_) (fun c2013 => ?_)
      · exact key3 _ _ (by rw [if_neg (not_not_intro c2012), if_pos c2013]) (by rw [if_neg (not_not_intro c2012), if_pos c2013])
      · refine V_iload_n dX3_openFrom_57 rfl ?_
        refine V_aload_n dX3_openFrom_58 rfl ?_
        refine U_getR dX3_openFrom_59 fl_X3_24 s_3 rfl ?_
        refine V_iload dX3_openFrom_62 rfl ?_
        have hb2005 := hc2010 c2012 c2013
        refine U_iald dX3_openFrom_64 s_8 hb2005 ?_
        refine V_icmp_gt dX3_openFrom_65 (fun c2014 => ?_) (fun c2014 => ?_)
        · exact key3 _ _ (by rw [if_neg (not_not_intro c2012), if_neg c2013, if_pos c2014]) (by rw [if_neg (not_not_intro c2012), if_neg c2013, if_pos c2014])
        · refine V_aload_n dX3_openFrom_68 rfl ?_
          refine U_getR dX3_openFrom_69 fl_X3_24 s_3 rfl ?_
          refine V_iload dX3_openFrom_72 rfl ?_
          have hb2006 := hc2011 c2012 c2013 c2014
          refine U_iald dX3_openFrom_74 s_8 hb2006 ?_
          refine V_iconst (v := (1 : Int32)) dX3_openFrom_75 rfl ?_
          refine V_iadd dX3_openFrom_76 ?_
          refine U_istore_n (L2 := [.ref 3, .int v1, .retAddr 0, .int ((I 8 v6.toNatClampNeg) + (1 : Int32)), .int v4, .int v5, .int v6]) dX3_openFrom_77 (by decide) rfl ?_
          refine V_iconst (v := (0 : Int32)) dX3_openFrom_78 rfl ?_
          refine U_istore (L2 := [.ref 3, .int v1, .retAddr 0, .int ((I 8 v6.toNatClampNeg) + (1 : Int32)), .int (0 : Int32), .int v5, .int v6]) dX3_openFrom_79 (by decide) rfl ?_
          exact key3 _ _ (by rw [if_neg (not_not_intro c2012), if_neg c2013, if_neg c2014]) (by rw [if_neg (not_not_intro c2012), if_neg c2013, if_neg c2014])
theorem mt_cls {I : hI_} (h : Rel I) {a b s : Nat} (ha : a < 5) (hb : b < 5) (hs : s < nsh I) : I 6 s = nI (prN a b) ↔ mtB I a b s = true := by
  obtain ⟨-, -, -, -, -, -, c, d, hc, hd, hcd, e1, e2, e3⟩ := (Rel_shut h).2.2.2 s hs
  unfold mtB
  rw [e1, e2, e3, decide_eq_true_eq, nI_eq (by have := prN_lt hc hd; omega) (by have := prN_lt ha hb; omega), nI_eq (by omega) (by omega), nI_eq (by omega) (by omega), nI_eq (by omega) (by omega), nI_eq (by omega) (by omega)]
  constructor
  · intro q
    exact prN_inj a ha b hb c hc d hd q.symm
  · rintro (⟨rfl, rfl⟩ | ⟨rfl, rfl⟩)
    · rfl
    · exact prN_sym _ _
theorem openF_in {E : aE} {P : Int32 → hI_ → hJ_ → Prop} {I : hI_} {J : hJ_} {a b i : Nat} (h : Rel I) (ha : a < 5) (hb : b < 5) (hi : i < 12) {O : Nat} (k : ∀ t o, t ≤ 10000 → op ((wI I).2 a b) t = O → ((o = 1 ∧ (wI I).2 a b t = false) ∨ (o = 0 ∧ cntS I a b t + (i + 1) ≤ 12)) → HX3_openFrom_8 E P (nI (prN a b)) (nI t) o (nI (i + 1)) I J) : ∀ (m s t : Nat) (o : Int32), s + m = nsh I → t ≤ 10000 → op ((wI I).2 a b) t = O → ((o = 1 ∧ cntS I a b t + i ≤ 12 ∧ ∀ q, q < s → hitB I a b q t = false) ∨ (o = 0 ∧ cntS I a b t + (i + 1) ≤ 12)) → HX3_openFrom_26 E P (nI (prN a b)) (nI t) o (nI i) (nI s) I J
  | 0, s, t, o, hs, ht, hO, ho => by
    have hN := Rel_shut h
    have : s = nsh I := by omega
    subst this
    refine wX3_openFrom_26 ⟨fun _ => ?_, fun q => absurd (by rw [hN.1]; exact Int32.le_refl _) q⟩
    rw [nI_1]
    refine k t o ht hO ?_
    rcases ho with ⟨h1, h2, h3⟩ | h1
    · exact Or.inl ⟨h1, cl_no h h3⟩
    · exact Or.inr h1
  | m + 1, s, t, o, hs, ht, hO, ho => by
    have hN := Rel_shut h
    obtain ⟨e7, e8, -, -, hft, hT, -⟩ := hN.2.2.2 s (by omega)
    have hm := mt_cls h ha hb (s := s) (by omega)
    have vin : vp_in (nI s) 12 := vp_in_nI (by omega) (by omega)
    refine wX3_openFrom_26 ⟨fun q => absurd q (by rw [hN.1]; exact nI_ge (by omega) (by omega)), fun _ => ⟨vin, fun _ => vin, fun _ _ => vin, fun _ _ _ => vin, ?_⟩⟩
    rw [nI_clamp (by omega), e7, e8, nI_1, nI_1]
    by_cases hh : hitB I a b s t = true
    · have hh2 := hh
      unfold hitB at hh2
      simp only [Bool.and_eq_true, decide_eq_true_eq] at hh2
      have c1 : I 6 s = nI (prN a b) := hm.mpr hh2.1
      have c2 : ¬ nI t < nI (shF I s) := nI_nlt (by omega) (by omega)
      have c3 : ¬ nI (shT I s) < nI t := nI_nlt (by omega) (by omega)
      rw [if_neg (fun q => q c1), if_neg c2, if_neg c3, if_neg (fun q => q c1), if_neg c2, if_neg c3]
      have hlt := cntS_hit hN.2.2.1 (by omega) hh
      exact openF_in h ha hb hi k m (s + 1) (shT I s + 1) 0 (by omega) (by omega) (by rw [op_hit h (by omega) hh]; exact hO) (Or.inr ⟨rfl, by rcases ho with ⟨-, h2, -⟩ | ⟨-, h2⟩ <;> omega⟩)
    · have hh : hitB I a b s t = false := by simpa using hh
      have e : ∀ {α : Type} (x y : α), (if ¬ I 6 s = nI (prN a b) then x else if nI t < nI (shF I s) then x else if nI (shT I s) < nI t then x else y) = x := by
        intro α x y
        by_cases c1 : I 6 s = nI (prN a b)
        · rw [if_neg (fun q => q c1)]
          by_cases c2 : nI t < nI (shF I s)
          · rw [if_pos c2]
          · rw [if_neg c2]
            by_cases c3 : nI (shT I s) < nI t
            · rw [if_pos c3]
            · exfalso
              rw [nI_ltI (by omega) (by omega)] at c2 c3
              have : hitB I a b s t = true := by
                unfold hitB
                simp only [Bool.and_eq_true, decide_eq_true_eq]
                exact ⟨hm.mp c1, by omega, by omega⟩
              rw [hh] at this; cases this
        · rw [if_pos c1]
      rw [e, e]
      refine openF_in h ha hb hi k m (s + 1) t o (by omega) ht hO ?_
      rcases ho with ⟨h1, h2, h3⟩ | h1
      · refine Or.inl ⟨h1, h2, fun q hq => ?_⟩
        by_cases eq : q = s
        · rw [eq]; exact hh
        · exact h3 q (by omega)
      · exact Or.inr h1
theorem openF_out {E : aE} {P : Int32 → hI_ → hJ_ → Prop} {I : hI_} {J : hJ_} {a b : Nat} (h : Rel I) (ha : a < 5) (hb : b < 5) {O : Nat} (k : P (nI O) I J) : ∀ (m i t : Nat) (o : Int32), i + m = 12 → t ≤ 10000 → op ((wI I).2 a b) t = O → ((o = 1 ∧ (wI I).2 a b t = false) ∨ (o = 0 ∧ cntS I a b t + i ≤ 12)) → HX3_openFrom_8 E P (nI (prN a b)) (nI t) o (nI i) I J
  | 0, i, t, o, hi, ht, hO, ho => by
    have hfr : (wI I).2 a b t = false := by
      rcases ho with h1 | h1
      · exact h1.2
      · exact cntS_0 h (by omega)
    have e : t = O := by rw [← hO, op_free ((Rel_wok h).1 a b) hfr]
    refine wX3_openFrom_8 ⟨fun _ => by rw [e]; exact k, fun q => absurd (nI_le (a := 12) (b := i) (by omega) (by omega)) q⟩
  | m + 1, i, t, o, hi, ht, hO, ho => by
    refine wX3_openFrom_8 ⟨fun q => absurd q (nI_ge (b := 12) (by omega) (by omega)), fun _ => ⟨fun ho1 => ?_, fun ho0 => ?_⟩⟩
    · have hfr : (wI I).2 a b t = false := by
        rcases ho with h1 | h1
        · exact h1.2
        · exact absurd h1.1 ho1
      have e : t = O := by rw [← hO, op_free ((Rel_wok h).1 a b) hfr]
      rw [e]; exact k
    · have hc : cntS I a b t + i ≤ 12 := by
        rcases ho with h1 | h1
        · rw [h1.1] at ho0; exact absurd ho0 (by decide)
        · exact h1.2
      refine openF_in h ha hb (i := i) (by omega) (O := O) (fun t2 o2 h1 h2 h3 => openF_out h ha hb k m (i + 1) t2 o2 (by omega) h1 h2 h3) (nsh I) 0 t 1 (by omega) ht hO (Or.inl ⟨rfl, hc, fun q hq => by omega⟩)
theorem tX3_openFrom {E : aE} {P : Int32 → hI_ → hJ_ → Prop} {I : hI_} {J : hJ_} {a b t : Nat} (h : Rel I) (ha : a < 5) (hb : b < 5) (ht : t ≤ 10000) (k : P (nI (op ((wI I).2 a b) t)) I J) : CallI E mX3_openFrom [.ref 3, .int (nI (prN a b)), .int (nI t)] SH I J P := by
  refine wX3_openFrom (openF_out h ha hb k 12 0 t 0 (by omega) ht rfl (Or.inr ⟨rfl, ?_⟩))
  have := cntB_n (p := fun s => decide (s < nsh I) && (mtB I a b s && decide (t ≤ shT I s))) 12
  unfold cntS
  omega
