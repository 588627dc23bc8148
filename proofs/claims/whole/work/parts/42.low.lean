/-! fractions in lowest terms -/
def HX10_inLowestTerms_12 (E : aE) (P : Int64 → hI_ → hJ_ → Prop) (v0 : Int64) (v2 : Int64) (v4 : Int32) (v5 : Int64) (v7 : Int64) (v9 : Int32) (I : hI_) (J : hJ_) : Prop := V E mX10_inLowestTerms (kJ SH P) 12 [.long v0, .retAddr 0, .long v2, .retAddr 0, .int v4, .long v5, .retAddr 0, .long v7, .retAddr 0, .int v9, .retAddr 0, .retAddr 0] [] (SH, I, J) (0, 0)
set_option maxHeartbeats 4000000 in
set_option maxRecDepth 20000 in
theorem wX10_inLowestTerms {E : aE} {P : Int64 → hI_ → hJ_ → Prop} {I : hI_} {J : hJ_} {a0 : Int64} {a1 : Int64} {a2 : Int32} (k : HX10_inLowestTerms_12 E P a0 a1 a2 (labs a0) a1 (0 : Int32) I J) : CallJ E mX10_inLowestTerms [.long a0, .long a1, .int a2] SH I J P := by
  refine Call_of (L := [.long a0, .retAddr 0, .long a1, .retAddr 0, .int a2, .retAddr 0, .retAddr 0, .retAddr 0, .retAddr 0, .retAddr 0, .retAddr 0, .retAddr 0]) ok_X10_inLowestTerms.1 rfl rfl ?_
  refine V_lload_n dX10_inLowestTerms_0 rfl ?_
  refine V_labs dX10_inLowestTerms_1 om_X10_58 rfl ?_
  refine U_lstore (L2 := [.long a0, .retAddr 0, .long a1, .retAddr 0, .int a2, .long (labs a0), .retAddr 0, .retAddr 0, .retAddr 0, .retAddr 0, .retAddr 0, .retAddr 0]) dX10_inLowestTerms_4 (by decide) rfl ?_
  refine V_lload_n dX10_inLowestTerms_6 rfl ?_
  refine U_lstore (L2 := [.long a0, .retAddr 0, .long a1, .retAddr 0, .int a2, .long (labs a0), .retAddr 0, .long a1, .retAddr 0, .retAddr 0, .retAddr 0, .retAddr 0]) dX10_inLowestTerms_7 (by decide) rfl ?_
  refine V_iconst (v := (0 : Int32)) dX10_inLowestTerms_9 rfl ?_
  refine U_istore (L2 := [.long a0, .retAddr 0, .long a1, .retAddr 0, .int a2, .long (labs a0), .retAddr 0, .long a1, .retAddr 0, .int (0 : Int32), .retAddr 0, .retAddr 0]) dX10_inLowestTerms_10 (by decide) rfl ?_
  exact k
set_option maxHeartbeats 4000000 in
set_option maxRecDepth 20000 in
theorem wX10_inLowestTerms_12 {E : aE} {P : Int64 → hI_ → hJ_ → Prop} {I : hI_} {J : hJ_} {v0 : Int64} {v2 : Int64} {v4 : Int32} {v5 : Int64} {v7 : Int64} {v9 : Int32} (k : (((200 : Int32) ≤ v9 → ((¬ v4 = (0 : Int32)) → ¬ (lmax v5 (1 : Int64)) = 0) ∧ ((v4 = (0 : Int32)) → ¬ (lmax v5 (1 : Int64)) = 0) ∧ P (if ¬ v4 = (0 : Int32) then (v2 / (lmax v5 (1 : Int64))) else (v0 / (lmax v5 (1 : Int64)))) I J) ∧ (¬ ((200 : Int32) ≤ v9) → ((v7 ≤ (0 : Int64) → ((¬ v4 = (0 : Int32)) → ¬ (lmax v5 (1 : Int64)) = 0) ∧ ((v4 = (0 : Int32)) → ¬ (lmax v5 (1 : Int64)) = 0) ∧ P (if ¬ v4 = (0 : Int32) then (v2 / (lmax v5 (1 : Int64))) else (v0 / (lmax v5 (1 : Int64)))) I J) ∧ (¬ (v7 ≤ (0 : Int64)) → (¬ v7 = 0) ∧ HX10_inLowestTerms_12 E P v0 v2 v4 v7 (v5 - v5 / v7 * v7) (v9 + (1 : Int32)) I J))))) : HX10_inLowestTerms_12 E P v0 v2 v4 v5 v7 v9 I J := by
  show V E mX10_inLowestTerms (kJ SH P) 12 [.long v0, .retAddr 0, .long v2, .retAddr 0, .int v4, .long v5, .retAddr 0, .long v7, .retAddr 0, .int v9, .retAddr 0, .retAddr 0] [] (SH, I, J) (0, 0)
  refine V_iload dX10_inLowestTerms_12 rfl ?_
  refine V_sipush (v := (200 : Int32)) dX10_inLowestTerms_14 rfl ?_
  refine V_icmp_ge dX10_inLowestTerms_17 (fun c1 => ?_) (fun c1 => ?_)
  · have k := k.1 c1
    refine V_lload dX10_inLowestTerms_48 rfl ?_
    refine V_lconst (v := (1 : Int64)) dX10_inLowestTerms_50 rfl ?_
    refine V_lmax dX10_inLowestTerms_51 om_X10_61 rfl ?_
    refine U_lstore (L2 := [.long v0, .retAddr 0, .long v2, .retAddr 0, .int v4, .long v5, .retAddr 0, .long v7, .retAddr 0, .long (lmax v5 (1 : Int64)), .retAddr 0, .retAddr 0]) dX10_inLowestTerms_54 (by decide) rfl ?_
    refine V_iload dX10_inLowestTerms_56 rfl ?_
    obtain ⟨hc2006, hc2007, k⟩ := k
    have key2 : ∀ (y2005 : Int64), y2005 = (if ¬ v4 = (0 : Int32) then (v2 / (lmax v5 (1 : Int64))) else (v0 / (lmax v5 (1 : Int64)))) → V E mX10_inLowestTerms (kJ SH P) 72 [.long v0, .retAddr 0, .long v2, .retAddr 0, .int v4, .long v5, .retAddr 0, .long v7, .retAddr 0, .long (lmax v5 (1 : Int64)), .retAddr 0, .retAddr 0] [.long y2005] (SH, I, J) (0, 0) := by
      intro y2005 ey2005
      subst ey2005
      exact V_lret dX10_inLowestTerms_72 rfl rfl rfl ⟨_, _, _, rfl, rfl, k⟩
    refine V_if_ne dX10_inLowestTerms_58 (fun c2008 => ?_) (fun c2008 => ?_)
    · refine V_lload_n dX10_inLowestTerms_68 rfl ?_
      refine V_lload dX10_inLowestTerms_69 rfl ?_
      have hz1003 := hc2006 c2008
      refine V_ldiv dX10_inLowestTerms_71 hz1003 ?_
      exact key2 _ (by rw [if_pos c2008])
    · refine V_lload_n dX10_inLowestTerms_61 rfl ?_
      refine V_lload dX10_inLowestTerms_62 rfl ?_
      have hz2004 := hc2007 c2008
      refine V_ldiv dX10_inLowestTerms_64 hz2004 ?_
      refine V_goto dX10_inLowestTerms_65 ?_
      exact key2 _ (by rw [if_neg (not_not_intro c2008)])
  · have k := k.2 c1
    refine V_lload dX10_inLowestTerms_20 rfl ?_
    refine V_lconst (v := (0 : Int64)) dX10_inLowestTerms_22 rfl ?_
    refine U_lcmp_le dX10_inLowestTerms_23 dX10_inLowestTerms_24 (fun c2009 => ?_) (fun c2009 => ?_)
    · have k := k.1 c2009
      refine V_lload dX10_inLowestTerms_48 rfl ?_
      refine V_lconst (v := (1 : Int64)) dX10_inLowestTerms_50 rfl ?_
      refine V_lmax dX10_inLowestTerms_51 om_X10_61 rfl ?_
      refine U_lstore (L2 := [.long v0, .retAddr 0, .long v2, .retAddr 0, .int v4, .long v5, .retAddr 0, .long v7, .retAddr 0, .long (lmax v5 (1 : Int64)), .retAddr 0, .retAddr 0]) dX10_inLowestTerms_54 (by decide) rfl ?_
      refine V_iload dX10_inLowestTerms_56 rfl ?_
      obtain ⟨hc4014, hc4015, k⟩ := k
      have key2010 : ∀ (y4013 : Int64), y4013 = (if ¬ v4 = (0 : Int32) then (v2 / (lmax v5 (1 : Int64))) else (v0 / (lmax v5 (1 : Int64)))) → V E mX10_inLowestTerms (kJ SH P) 72 [.long v0, .retAddr 0, .long v2, .retAddr 0, .int v4, .long v5, .retAddr 0, .long v7, .retAddr 0, .long (lmax v5 (1 : Int64)), .retAddr 0, .retAddr 0] [.long y4013] (SH, I, J) (0, 0) := by
        intro y4013 ey4013
        subst ey4013
        exact V_lret dX10_inLowestTerms_72 rfl rfl rfl ⟨_, _, _, rfl, rfl, k⟩
      refine V_if_ne dX10_inLowestTerms_58 (fun c4016 => ?_) (fun c4016 => ?_)
      · refine V_lload_n dX10_inLowestTerms_68 rfl ?_
        refine V_lload dX10_inLowestTerms_69 rfl ?_
        have hz3011 := hc4014 c4016
        refine V_ldiv dX10_inLowestTerms_71 hz3011 ?_
        exact key2010 _ (by rw [if_pos c4016])
      · refine V_lload_n dX10_inLowestTerms_61 rfl ?_
        refine V_lload dX10_inLowestTerms_62 rfl ?_
        have hz4012 := hc4015 c4016
        refine V_ldiv dX10_inLowestTerms_64 hz4012 ?_
        refine V_goto dX10_inLowestTerms_65 ?_
        exact key2010 _ (by rw [if_neg (not_not_intro c4016)])
    · have k := k.2 c2009
      refine V_lload dX10_inLowestTerms_27 rfl ?_
      refine V_lload dX10_inLowestTerms_29 rfl ?_
      obtain ⟨hz4017, k⟩ := k
      refine V_lrem dX10_inLowestTerms_31 hz4017 ?_
      refine U_lstore (L2 := [.long v0, .retAddr 0, .long v2, .retAddr 0, .int v4, .long v5, .retAddr 0, .long v7, .retAddr 0, .int v9, .long (v5 - v5 / v7 * v7), .retAddr 0]) dX10_inLowestTerms_32 (by decide) rfl ?_
      refine V_lload dX10_inLowestTerms_34 rfl ?_
      refine U_lstore (L2 := [.long v0, .retAddr 0, .long v2, .retAddr 0, .int v4, .long v7, .retAddr 0, .long v7, .retAddr 0, .int v9, .long (v5 - v5 / v7 * v7), .retAddr 0]) dX10_inLowestTerms_36 (by decide) rfl ?_
      refine V_lload dX10_inLowestTerms_38 rfl ?_
      refine U_lstore (L2 := [.long v0, .retAddr 0, .long v2, .retAddr 0, .int v4, .long v7, .retAddr 0, .long (v5 - v5 / v7 * v7), .retAddr 0, .int v9, .long (v5 - v5 / v7 * v7), .retAddr 0]) dX10_inLowestTerms_40 (by decide) rfl ?_
      refine U_iinc (v := v9 + (1 : Int32)) (L2 := [.long v0, .retAddr 0, .long v2, .retAddr 0, .int v4, .long v7, .retAddr 0, .long (v5 - v5 / v7 * v7), .retAddr 0, .int (v9 + (1 : Int32)), .long (v5 - v5 / v7 * v7), .retAddr 0]) dX10_inLowestTerms_42 (by decide) rfl rfl rfl ?_
      refine V_goto dX10_inLowestTerms_45 ?_
      exact V_wk (wk_eq (wk_j (wk_eq (wk_j (wk_eq (wk_eq (wk_j (wk_eq (wk_j (wk_eq (wk_j (wk_j (wk_nil))))))))))))) k
def HX12_lowest_17 (E : aE) (P : Int64 → hI_ → hJ_ → Prop) (v0 : Int64) (v2 : Int64) (v4 : Int32) (v5 : Int64) (v7 : Int64) (I : hI_) (J : hJ_) : Prop := V E mX12_lowest (kJ SH P) 17 [.long v0, .retAddr 0, .long v2, .retAddr 0, .int v4, .long v5, .retAddr 0, .long v7, .retAddr 0, .retAddr 0, .retAddr 0] [] (SH, I, J) (0, 0)
set_option maxHeartbeats 4000000 in
set_option maxRecDepth 20000 in
theorem wX12_lowest {E : aE} {P : Int64 → hI_ → hJ_ → Prop} {I : hI_} {J : hJ_} {a0 : Int64} {a1 : Int64} {a2 : Int32} (k : HX12_lowest_17 E P a0 a1 a2 (if (0 : Int64) ≤ a0 then a0 else (-a0)) a1 I J) : CallJ E mX12_lowest [.long a0, .long a1, .int a2] SH I J P := by
  refine Call_of (L := [.long a0, .retAddr 0, .long a1, .retAddr 0, .int a2, .retAddr 0, .retAddr 0, .retAddr 0, .retAddr 0, .retAddr 0, .retAddr 0]) ok_X12_lowest.1 rfl rfl ?_
  refine V_lload_n dX12_lowest_0 rfl ?_
  refine V_lconst (v := (0 : Int64)) dX12_lowest_1 rfl ?_
  have key1 : ∀ (y2002 : Int64), y2002 = (if (0 : Int64) ≤ a0 then a0 else (-a0)) → V E mX12_lowest (kJ SH P) 12 [.long a0, .retAddr 0, .long a1, .retAddr 0, .int a2, .retAddr 0, .retAddr 0, .retAddr 0, .retAddr 0, .retAddr 0, .retAddr 0] [.long y2002] (SH, I, J) (0, 0) := by
    intro y2002 ey2002
    subst ey2002
    refine U_lstore (L2 := [.long a0, .retAddr 0, .long a1, .retAddr 0, .int a2, .long (if (0 : Int64) ≤ a0 then a0 else (-a0)), .retAddr 0, .retAddr 0, .retAddr 0, .retAddr 0, .retAddr 0]) dX12_lowest_12 (by decide) rfl ?_
    refine V_lload_n dX12_lowest_14 rfl ?_
    refine U_lstore (L2 := [.long a0, .retAddr 0, .long a1, .retAddr 0, .int a2, .long (if (0 : Int64) ≤ a0 then a0 else (-a0)), .retAddr 0, .long a1, .retAddr 0, .retAddr 0, .retAddr 0]) dX12_lowest_15 (by decide) rfl ?_
    exact k
  refine U_lcmp_ge dX12_lowest_2 dX12_lowest_3 (fun c2003 => ?_) (fun c2003 => ?_)
  · refine V_lload_n dX12_lowest_11 rfl ?_
    exact key1 _ (by rw [if_pos c2003])
  · refine V_lload_n dX12_lowest_6 rfl ?_
    refine V_lneg dX12_lowest_7 ?_
    refine V_goto dX12_lowest_8 ?_
    exact key1 _ (by rw [if_neg c2003])
set_option maxHeartbeats 4000000 in
set_option maxRecDepth 20000 in
theorem wX12_lowest_17 {E : aE} {P : Int64 → hI_ → hJ_ → Prop} {I : hI_} {J : hJ_} {v0 : Int64} {v2 : Int64} {v4 : Int32} {v5 : Int64} {v7 : Int64} (k : ((v7 = (0 : Int64) → (¬ v5 = 0) ∧ P ((if ¬ v4 = (0 : Int32) then v2 else v0) / v5) I J) ∧ (¬ (v7 = (0 : Int64)) → (¬ v7 = 0) ∧ HX12_lowest_17 E P v0 v2 v4 v7 (v5 - v5 / v7 * v7) I J))) : HX12_lowest_17 E P v0 v2 v4 v5 v7 I J := by
  show V E mX12_lowest (kJ SH P) 17 [.long v0, .retAddr 0, .long v2, .retAddr 0, .int v4, .long v5, .retAddr 0, .long v7, .retAddr 0, .retAddr 0, .retAddr 0] [] (SH, I, J) (0, 0)
  refine V_lload dX12_lowest_17 rfl ?_
  refine V_lconst (v := (0 : Int64)) dX12_lowest_19 rfl ?_
  refine U_lcmp_eq dX12_lowest_20 dX12_lowest_21 (fun c1 => ?_) (fun c1 => ?_)
  · have k := k.1 c1
    refine V_iload dX12_lowest_42 rfl ?_
    have key2 : ∀ (y2003 : Int64), y2003 = (if ¬ v4 = (0 : Int32) then v2 else v0) → V E mX12_lowest (kJ SH P) 52 [.long v0, .retAddr 0, .long v2, .retAddr 0, .int v4, .long v5, .retAddr 0, .long v7, .retAddr 0, .retAddr 0, .retAddr 0] [.long y2003] (SH, I, J) (0, 0) := by
      intro y2003 ey2003
      subst ey2003
      refine V_lload dX12_lowest_52 rfl ?_
      obtain ⟨hz2004, k⟩ := k
      refine V_ldiv dX12_lowest_54 hz2004 ?_
      exact V_lret dX12_lowest_55 rfl rfl rfl ⟨_, _, _, rfl, rfl, k⟩
    refine V_if_ne dX12_lowest_44 (fun c2005 => ?_) (fun c2005 => ?_)
    · refine V_lload_n dX12_lowest_51 rfl ?_
      exact key2 _ (by rw [if_pos c2005])
    · refine V_lload_n dX12_lowest_47 rfl ?_
      refine V_goto dX12_lowest_48 ?_
      exact key2 _ (by rw [if_neg (not_not_intro c2005)])
  · have k := k.2 c1
    refine V_lload dX12_lowest_24 rfl ?_
    refine V_lload dX12_lowest_26 rfl ?_
    obtain ⟨hz2006, k⟩ := k
    refine V_lrem dX12_lowest_28 hz2006 ?_
    refine U_lstore (L2 := [.long v0, .retAddr 0, .long v2, .retAddr 0, .int v4, .long v5, .retAddr 0, .long v7, .retAddr 0, .long (v5 - v5 / v7 * v7), .retAddr 0]) dX12_lowest_29 (by decide) rfl ?_
    refine V_lload dX12_lowest_31 rfl ?_
    refine U_lstore (L2 := [.long v0, .retAddr 0, .long v2, .retAddr 0, .int v4, .long v7, .retAddr 0, .long v7, .retAddr 0, .long (v5 - v5 / v7 * v7), .retAddr 0]) dX12_lowest_33 (by decide) rfl ?_
    refine V_lload dX12_lowest_35 rfl ?_
    refine U_lstore (L2 := [.long v0, .retAddr 0, .long v2, .retAddr 0, .int v4, .long v7, .retAddr 0, .long (v5 - v5 / v7 * v7), .retAddr 0, .long (v5 - v5 / v7 * v7), .retAddr 0]) dX12_lowest_37 (by decide) rfl ?_
    refine V_goto dX12_lowest_39 ?_
    exact V_wk (wk_eq (wk_j (wk_eq (wk_j (wk_eq (wk_eq (wk_j (wk_eq (wk_j (wk_j (wk_j (wk_nil)))))))))))) k
theorem half_mod {y r : Nat} (hr : 0 < r) (h : r ≤ y) : 2 * (y % r) < y := by
  have h1 := Nat.mod_lt y hr
  have h2 := Nat.div_add_mod y r
  have h3 : 1 ≤ y / r := (Nat.one_le_div_iff hr).mpr h
  have h4 : r * 1 ≤ r * (y / r) := Nat.mul_le_mul_left r h3
  omega
theorem gcd_st (x y : Nat) : Nat.gcd x y = Nat.gcd y (x % y) := by rw [Nat.gcd_comm x y, Nat.gcd_rec y x, Nat.gcd_comm]
theorem lowX_fin {E : aE} {P : Int64 → hI_ → hJ_ → Prop} {I : hI_} {J : hJ_} {a b : Int64} {q : Int32} {x : Nat} (hx : x < 2 ^ 63) (h0 : 0 < x) (k : P (if ¬ q = 0 then b / lN x else a / lN x) I J) (i : Int32) : HX10_inLowestTerms_12 E P a b q (lN x) (lN 0) i I J := by
  have e : lmax (lN x) 1 = lN x := by
    unfold lmax
    by_cases c : (1 : Int64) < lN x
    · rw [if_pos c]
    · rw [if_neg c]
      have : ¬ 1 < x := fun z => c ((pk_lLT (a := 1) (by omega) hx).mpr z)
      rw [show x = 1 by omega]; rfl
  have z : ¬ lN x = 0 := fun z => by have := (pk_lEQ (b := 0) hx (by omega)).mp z; omega
  refine wX10_inLowestTerms_12 ?_
  rw [e]
  exact ⟨fun _ => ⟨fun _ => z, fun _ => z, k⟩, fun _ => ⟨fun _ => ⟨fun _ => z, fun _ => z, k⟩, fun w => absurd (Int64.le_refl _) w⟩⟩
theorem lowX_loop {E : aE} {P : Int64 → hI_ → hJ_ → Prop} {I : hI_} {J : hJ_} {a b : Int64} {q : Int32} {g : Nat} (k : P (if ¬ q = 0 then b / lN g else a / lN g) I J) : ∀ (f x y i : Nat), y < 2 ^ f → i + 2 * f ≤ 200 → x < 2 ^ 63 → y < 2 ^ 63 → (0 < x ∨ 0 < y) → Nat.gcd x y = g → HX10_inLowestTerms_12 E P a b q (lN x) (lN y) (nI i) I J
  | 0, x, y, i, hy, hi, hx, hy3, h0, hg => by
    have e : y = 0 := by omega
    subst e
    rw [Nat.gcd_zero_right] at hg
    subst hg
    exact lowX_fin hx (by omega) k _
  | f + 1, x, y, i, hy, hi, hx, hy3, h0, hg => by
    have st : ∀ (x y i : Nat), i < 200 → x < 2 ^ 63 → y < 2 ^ 63 → 0 < y → HX10_inLowestTerms_12 E P a b q (lN y) (lN (x % y)) (nI (i + 1)) I J → HX10_inLowestTerms_12 E P a b q (lN x) (lN y) (nI i) I J := fun x y i hi hx hy h0 hk => by
      have z : ¬ lN y = 0 := fun z => by have := (pk_lEQ (b := 0) hy (by omega)).mp z; omega
      refine wX10_inLowestTerms_12 ⟨fun w => absurd w (nI_ge (b := 200) hi (by omega)), fun _ => ⟨fun w => ?_, fun _ => ⟨z, ?_⟩⟩⟩
      · have := (pk_lLE (b := 0) hy (by omega)).mp w; omega
      · rw [pk_lRem hx h0 hy, nI_1]; exact hk
    by_cases e : y = 0
    · subst e
      rw [Nat.gcd_zero_right] at hg
      subst hg
      exact lowX_fin hx (by omega) k _
    · have hm := Nat.mod_lt x (show y > 0 by omega)
      refine st x y i (by omega) hx hy3 (by omega) ?_
      rw [gcd_st] at hg
      by_cases e2 : x % y = 0
      · rw [e2] at hg ⊢
        rw [Nat.gcd_zero_right] at hg
        subst hg
        exact lowX_fin hy3 (by omega) k _
      · have hm2 := half_mod (y := y) (r := x % y) (by omega) (by omega)
        refine st y (x % y) (i + 1) (by omega) hy3 (by omega) (by omega) ?_
        rw [gcd_st] at hg
        have hp : 2 ^ (f + 1) = 2 * 2 ^ f := by rw [Nat.pow_succ, Nat.mul_comm]
        exact lowX_loop k f (x % y) (y % (x % y)) (i + 1 + 1) (by omega) (by omega) (by omega) (by omega) (Or.inl (by omega)) hg
theorem lowM_loop {E : aE} {P : Int64 → hI_ → hJ_ → Prop} {I : hI_} {J : hJ_} {a b : Int64} {q : Int32} {g : Nat} (k : P ((if ¬ q = 0 then b else a) / lN g) I J) : ∀ (n x y : Nat), y ≤ n → x < 2 ^ 63 → y < 2 ^ 63 → (0 < x ∨ 0 < y) → Nat.gcd x y = g → HX12_lowest_17 E P a b q (lN x) (lN y) I J
  | n, x, y, hn, hx, hy, h0, hg => by
    by_cases e : y = 0
    · subst e
      rw [Nat.gcd_zero_right] at hg
      subst hg
      have z : ¬ lN x = 0 := fun z => by have := (pk_lEQ (b := 0) hx (by omega)).mp z; omega
      exact wX12_lowest_17 ⟨fun _ => ⟨z, k⟩, fun w => absurd rfl w⟩
    · have z : ¬ lN y = 0 := fun z => by have := (pk_lEQ (b := 0) hy (by omega)).mp z; omega
      refine wX12_lowest_17 ⟨fun w => absurd w z, fun _ => ⟨z, ?_⟩⟩
      have hm := Nat.mod_lt x (show y > 0 by omega)
      rw [pk_lRem hx (by omega) hy]
      rw [gcd_st] at hg
      cases n with
      | zero => omega
      | succ n => exact lowM_loop k n y (x % y) (by omega) hy (by omega) (Or.inl (by omega)) hg
/-- a number of a course, below 0 too -/
def isAbs (a : Int64) (x : Nat) : Prop := x < 2 ^ 62 ∧ (a = lN x ∨ a = - lN x)
theorem abs_X {a : Int64} {x : Nat} (h : isAbs a x) : labs a = lN x ∧ (if (0 : Int64) ≤ a then a else -a) = lN x := by
  obtain ⟨hx, h | h⟩ := h
  · have hp : (0 : Int64) ≤ lN x := (pk_lLE (a := 0) (by omega) (by omega)).mpr (by omega)
    rw [h, if_pos hp]
    refine ⟨?_, rfl⟩
    unfold labs
    by_cases c : 0 < lN x
    · rw [if_pos c]
    · rw [if_neg c]
      have : ¬ 0 < x := fun z => c ((pk_lLT (a := 0) (by omega) (by omega)).mpr z)
      rw [show x = 0 by omega]; rfl
  · by_cases e : x = 0
    · subst e
      have : a = 0 := h
      rw [this]; exact ⟨rfl, rfl⟩
    · have ht : a.toInt = -(x : Int) := by
        rw [h, Int64.toInt_neg, pk_lT (by omega)]
        exact Int.bmod_eq_of_le (by omega) (by omega)
      have hn : ¬ (0 : Int64) ≤ a := fun z => by
        have := Int64.le_iff_toInt_le.mp z
        have h0 : (0 : Int64).toInt = 0 := rfl
        omega
      have hn2 : ¬ (0 : Int64) < a := fun z => by
        have := Int64.lt_iff_toInt_lt.mp z
        have h0 : (0 : Int64).toInt = 0 := rfl
        omega
      unfold labs
      rw [if_neg hn, if_neg hn2, h, Int64.neg_neg]
      exact ⟨rfl, rfl⟩
theorem tX10_low {E : aE} {P : Int64 → hI_ → hJ_ → Prop} {I : hI_} {J : hJ_} {a : Int64} {x y : Nat} {q : Int32} (ha : isAbs a x) (hy : 0 < y) (hy2 : y < 2 ^ 62) (k : P (if ¬ q = 0 then lN y / lN (Nat.gcd x y) else a / lN (Nat.gcd x y)) I J) : CallJ E mX10_inLowestTerms [.long a, .long (lN y), .int q] SH I J P := by
  refine wX10_inLowestTerms ?_
  rw [(abs_X ha).1]
  exact lowX_loop k 62 x y 0 hy2 (by omega) (by have := ha.1; omega) (by omega) (Or.inr hy) rfl
theorem tX12_low {E : aE} {P : Int64 → hI_ → hJ_ → Prop} {I : hI_} {J : hJ_} {a : Int64} {x y : Nat} {q : Int32} (ha : isAbs a x) (hy : 0 < y) (hy2 : y < 2 ^ 62) (k : P (if ¬ q = 0 then lN y / lN (Nat.gcd x y) else a / lN (Nat.gcd x y)) I J) : CallJ E mX12_lowest [.long a, .long (lN y), .int q] SH I J P := by
  refine wX12_lowest ?_
  rw [(abs_X ha).2]
  refine lowM_loop (g := Nat.gcd x y) ?_ y x y (Nat.le_refl _) (by have := ha.1; omega) (by omega) (Or.inr hy) rfl
  by_cases z : q = 0
  · rw [if_neg (fun w => w z)] at k ⊢; exact k
  · rw [if_pos z] at k ⊢; exact k
/-- courses as numbers -/
def m3 (I : hI_) (j : Nat) : Nat := (I 73 j).toInt.toNat
def mS (I : hI_) : Nat := m3 I 3 + m3 I 4 + m3 I 5
theorem Rel_m3 {I : hI_} (h : Rel I) : I 73 3 = nI (m3 I 3) ∧ I 73 4 = nI (m3 I 4) ∧ I 73 5 = nI (m3 I 5) ∧ 1 ≤ mS I ∧ mS I ≤ 12 ∧ m3 I 3 ≤ 4 ∧ m3 I 4 ≤ 4 ∧ m3 I 5 ≤ 4 := by
  obtain ⟨b0, b1, b2, b3⟩ := h.2.1.2.2.2.2.1
  refine ⟨ofT b0.1, ofT b1.1, ofT b2.1, ?_, ?_, ?_, ?_, ?_⟩
  · unfold mS m3; have := b0.1; have := b1.1; have := b2.1; omega
  · unfold mS m3; have := b0.2; have := b1.2; have := b2.2; omega
  · unfold m3; have := b0.2; omega
  · unfold m3; have := b1.2; omega
  · unfold m3; have := b2.2; omega
def cN (I : hI_) : Nat → Nat → Nat
  | 0, k => if k = 12 then 1 else 0
  | n + 1, k => (m3 I 3 * (if 24 ≤ k then 0 else cN I n (k + 1)) + m3 I 4 * cN I n k) + m3 I 5 * (if k = 0 then 0 else cN I n (k - 1))
theorem cn_N {I : hI_} (h : Rel I) : ∀ n k, cn I n k = lN (cN I n k)
  | 0, k => by
    have e1 : cn I 0 k = if k = 12 then 1 else 0 := rfl
    have e2 : cN I 0 k = if k = 12 then 1 else 0 := rfl
    rw [e1, e2]
    by_cases z : k = 12
    · rw [if_pos z, if_pos z]; rfl
    · rw [if_neg z, if_neg z]; rfl
  | n + 1, k => by
    obtain ⟨h0, h1, h2, -, -, q0, q1, q2⟩ := Rel_m3 h
    have e1 : cn I (n + 1) k = ((I 73 3).toInt64 * (if 24 ≤ k then 0 else cn I n (k + 1)) + (I 73 4).toInt64 * cn I n k) + (I 73 5).toInt64 * (if k = 0 then 0 else cn I n (k - 1)) := rfl
    have e2 : cN I (n + 1) k = (m3 I 3 * (if 24 ≤ k then 0 else cN I n (k + 1)) + m3 I 4 * cN I n k) + m3 I 5 * (if k = 0 then 0 else cN I n (k - 1)) := rfl
    have z1 : (if 24 ≤ k then (0 : Int64) else cn I n (k + 1)) = lN (if 24 ≤ k then 0 else cN I n (k + 1)) := by
      by_cases z : 24 ≤ k
      · rw [if_pos z, if_pos z]; rfl
      · rw [if_neg z, if_neg z]; exact cn_N h n (k + 1)
    have z2 : (if k = 0 then (0 : Int64) else cn I n (k - 1)) = lN (if k = 0 then 0 else cN I n (k - 1)) := by
      by_cases z : k = 0
      · rw [if_pos z, if_pos z]; rfl
      · rw [if_neg z, if_neg z]; exact cn_N h n (k - 1)
    rw [e1, e2, z1, z2, cn_N h n k, h0, h1, h2, nI_l (by omega), nI_l (by omega), nI_l (by omega), lN_mul, lN_mul, lN_mul, lN_add, lN_add]
theorem cN_le {I : hI_} : ∀ n k, cN I n k ≤ mS I ^ n
  | 0, k => by
    have e2 : cN I 0 k = if k = 12 then 1 else 0 := rfl
    rw [e2, Nat.pow_zero]; split <;> omega
  | n + 1, k => by
    have e2 : cN I (n + 1) k = (m3 I 3 * (if 24 ≤ k then 0 else cN I n (k + 1)) + m3 I 4 * cN I n k) + m3 I 5 * (if k = 0 then 0 else cN I n (k - 1)) := rfl
    have a1 : (if 24 ≤ k then 0 else cN I n (k + 1)) ≤ mS I ^ n := by
      by_cases z : 24 ≤ k
      · rw [if_pos z]; exact Nat.zero_le _
      · rw [if_neg z]; exact cN_le n (k + 1)
    have a2 : (if k = 0 then 0 else cN I n (k - 1)) ≤ mS I ^ n := by
      by_cases z : k = 0
      · rw [if_pos z]; exact Nat.zero_le _
      · rw [if_neg z]; exact cN_le n (k - 1)
    have b1 := Nat.mul_le_mul_left (m3 I 3) a1
    have b2 := Nat.mul_le_mul_left (m3 I 4) (cN_le (I := I) n k)
    have b3 := Nat.mul_le_mul_left (m3 I 5) a2
    have e3 : mS I ^ (n + 1) = m3 I 3 * mS I ^ n + m3 I 4 * mS I ^ n + m3 I 5 * mS I ^ n := by
      rw [Nat.pow_succ, Nat.mul_comm]
      conv => lhs; rw [show mS I = m3 I 3 + m3 I 4 + m3 I 5 from rfl]
      rw [show m3 I 3 + m3 I 4 + m3 I 5 = mS I from rfl]
      conv => lhs; lhs; rw [show mS I = m3 I 3 + m3 I 4 + m3 I 5 from rfl]
      rw [Nat.add_mul, Nat.add_mul]
    rw [e2, e3]
    omega
theorem pw_N {I : hI_} (h : Rel I) : ∀ n, pw I n = lN (mS I ^ n)
  | 0 => rfl
  | n + 1 => by
    obtain ⟨h0, h1, h2, -, -, q0, q1, q2⟩ := Rel_m3 h
    have e1 : pw I (n + 1) = pw I n * (I 73 3 + I 73 4 + I 73 5).toInt64 := rfl
    rw [e1, pw_N h n, h0, h1, h2, nI_add, nI_add, nI_l (by omega), lN_mul]
    rfl
theorem mS_pow {I : hI_} (h : Rel I) {n : Nat} (hn : n ≤ 12) : 0 < mS I ^ n ∧ mS I ^ n ≤ 8916100448256 := by
  obtain ⟨-, -, -, h1, h2, -⟩ := Rel_m3 h
  refine ⟨Nat.pow_pos (by omega), ?_⟩
  calc mS I ^ n ≤ 12 ^ n := Nat.pow_le_pow_left h2 n
    _ ≤ 12 ^ 12 := Nat.pow_le_pow_right (by omega) hn
    _ = 8916100448256 := by decide
set_option maxHeartbeats 4000000 in
set_option maxRecDepth 20000 in
theorem wX11_odds {E : aE} {P : Int64 → hI_ → hJ_ → Prop} {I : hI_} {J : hJ_} {a0 : Int32} {a1 : Int32} {a2 : Int32} (k : ((¬ (0 ≤ a0 ∧ a0 ≤ 12) → P (-1 : Int64) I J) ∧ ((0 ≤ a0 ∧ a0 ≤ 12) → ((¬ ((-12 : Int32) ≤ a1 ∧ a1 ≤ (12 : Int32)) → P (-1 : Int64) I J) ∧ (((-12 : Int32) ≤ a1 ∧ a1 ≤ (12 : Int32)) → ((((0 : Int32) ≤ a2 ∧ a2 ≤ (1 : Int32)) → CallV E mX10_walk [.ref 42, .int a0] SH I J (fun I5 J6 => (vp_in (a1 + (12 : Int32)) 25) ∧ CallJ E mX10_power [.ref 42, .int a0] SH I5 J6 (fun x8 I9 J10 => CallJ E mX10_inLowestTerms [.long (J6 43 (a1 + (12 : Int32)).toNatClampNeg), .long x8, .int a2] SH I9 J10 (fun x11 I12 J13 => P x11 I12 J13)))) ∧ (¬ (((0 : Int32) ≤ a2 ∧ a2 ≤ (1 : Int32))) → P (-1 : Int64) I J))))))) : CallJ E mX11_odds [.ref 0, .int a0, .int a1, .int a2] SH I J P := by
  refine Call_of (L := [.ref 0, .int a0, .int a1, .int a2]) ok_X11_odds.1 rfl rfl ?_
  refine V_iload_n dX11_odds_0 rfl ?_
  refine U_callS1 [.int a0] dX11_odds_1 os_X11_287 ⟨rfl, rfl, rfl⟩ rfl rfl rfl (tX11_isAge ?_)
  refine U_ifb_eq dX11_odds_4 (fun c1 => ?_) (fun c1 => ?_)
  · have k := k.1 c1
    refine V_ldc2_w (v := (-1 : Int64)) dX11_odds_27 (gt_4 178 rfl rfl) ?_
    exact V_lret dX11_odds_30 rfl rfl rfl ⟨_, _, _, rfl, rfl, k⟩
  · have k := k.2 c1
    refine V_iload_n dX11_odds_7 rfl ?_
    refine V_bipush (v := (-12 : Int32)) dX11_odds_8 rfl ?_
    refine V_bipush (v := (12 : Int32)) dX11_odds_10 rfl ?_
    refine U_callS1 [.int a1, .int (-12 : Int32), .int (12 : Int32)] dX11_odds_12 os_X11_104 ⟨rfl, rfl, rfl⟩ rfl rfl rfl (tX11_within ?_)
    refine U_ifb_eq dX11_odds_15 (fun c2 => ?_) (fun c2 => ?_)
    · have k := k.1 c2
      refine V_ldc2_w (v := (-1 : Int64)) dX11_odds_27 (gt_4 178 rfl rfl) ?_
      exact V_lret dX11_odds_30 rfl rfl rfl ⟨_, _, _, rfl, rfl, k⟩
    · have k := k.2 c2
      refine V_iload_n dX11_odds_18 rfl ?_
      refine V_iconst (v := (0 : Int32)) dX11_odds_19 rfl ?_
      refine V_iconst (v := (1 : Int32)) dX11_odds_20 rfl ?_
      refine U_callS1 [.int a2, .int (0 : Int32), .int (1 : Int32)] dX11_odds_21 os_X11_104 ⟨rfl, rfl, rfl⟩ rfl rfl rfl (tX11_within ?_)
      refine U_ifb_ne dX11_odds_24 (fun c3 => ?_) (fun c3 => ?_)
      · have k := k.1 c3
        refine V_aload_n dX11_odds_31 rfl ?_
        refine U_getR dX11_odds_32 fl_X11_85 s_0 rfl ?_
        refine V_iload_n dX11_odds_35 rfl ?_
        refine U_callV0 [.int a0] dX11_odds_36 ov_X11_292 s_42 rfl ⟨rfl, rfl, rfl⟩ rfl rfl rfl (CallV_mono k (fun I5 J6 k => ?_))
        refine V_aload_n dX11_odds_39 rfl ?_
        refine U_getR dX11_odds_40 fl_X11_85 s_0 rfl ?_
        refine U_getR dX11_odds_43 fl_X11_295 s_42 rfl ?_
        refine V_iload_n dX11_odds_46 rfl ?_
        refine V_bipush (v := (12 : Int32)) dX11_odds_47 rfl ?_
        refine V_iadd dX11_odds_49 ?_
        obtain ⟨hb7, k⟩ := k
        refine U_lald dX11_odds_50 s_43 hb7 ?_
        refine V_aload_n dX11_odds_51 rfl ?_
        refine U_getR dX11_odds_52 fl_X11_85 s_0 rfl ?_
        refine V_iload_n dX11_odds_55 rfl ?_
        refine U_callV2 [.int a0] dX11_odds_56 ov_X11_299 s_42 rfl ⟨rfl, rfl, rfl⟩ rfl rfl rfl (CallJ_mono k (fun x8 I9 J10 k => ?_))
        refine V_iload_n dX11_odds_59 rfl ?_
        refine U_callS2 [.long (J6 43 (a1 + (12 : Int32)).toNatClampNeg), .long x8, .int a2] dX11_odds_60 os_X11_303 ⟨rfl, rfl, rfl⟩ rfl rfl rfl (CallJ_mono k (fun x11 I12 J13 k => ?_))
        exact V_lret dX11_odds_63 rfl rfl rfl ⟨_, _, _, rfl, rfl, k⟩
      · have k := k.2 c3
        refine V_ldc2_w (v := (-1 : Int64)) dX11_odds_27 (gt_4 178 rfl rfl) ?_
        exact V_lret dX11_odds_30 rfl rfl rfl ⟨_, _, _, rfl, rfl, k⟩
set_option maxHeartbeats 4000000 in
set_option maxRecDepth 20000 in
theorem wX12_odds {E : aE} {P : Int64 → hI_ → hJ_ → Prop} {I : hI_} {J : hJ_} {a0 : Int32} {a1 : Int32} {a2 : Int32} (k : ((¬ ((0 : Int32) ≤ a0 ∧ a0 ≤ (12 : Int32)) → P (-1 : Int64) I J) ∧ (((0 : Int32) ≤ a0 ∧ a0 ≤ (12 : Int32)) → ((¬ ((-12 : Int32) ≤ a1 ∧ a1 ≤ (12 : Int32)) → P (-1 : Int64) I J) ∧ (((-12 : Int32) ≤ a1 ∧ a1 ≤ (12 : Int32)) → ((((0 : Int32) ≤ a2 ∧ a2 ≤ (1 : Int32)) → CallV E mX12_layWalks [.ref 68, .int a0] SH I J (fun I5 J6 => (vp_in ((12 : Int32) + a1) 25) ∧ CallJ E mX12_lowest [.long (J6 88 ((12 : Int32) + a1).toNatClampNeg), .long (J6 68 32), .int a2] SH I5 J6 (fun x8 I9 J10 => P x8 I9 J10))) ∧ (¬ (((0 : Int32) ≤ a2 ∧ a2 ≤ (1 : Int32))) → P (-1 : Int64) I J))))))) : CallJ E mX12_odds [.ref 68, .int a0, .int a1, .int a2] SH I J P := by
  refine Call_of (L := [.ref 68, .int a0, .int a1, .int a2]) ok_X12_odds.1 rfl rfl ?_
  refine V_iload_n dX12_odds_0 rfl ?_
  refine V_i2l dX12_odds_1 ?_
  refine V_lconst (v := (0 : Int64)) dX12_odds_2 rfl ?_
  refine V_ldc2_w (v := (12 : Int64)) dX12_odds_3 (gt_6 221 rfl rfl) ?_
  refine U_callS1 [.long a0.toInt64, .long (0 : Int64), .long (12 : Int64)] dX12_odds_6 os_X12_91 ⟨rfl, rfl, rfl⟩ rfl rfl rfl (tX12_in32 (v := a0) (lo := (0 : Int32)) (hi := (12 : Int32)) rfl (by decide) (by decide) ?_)
  refine U_ifb_eq dX12_odds_9 (fun c1 => ?_) (fun c1 => ?_)
  · have k := k.1 c1
    refine V_ldc2_w (v := (-1 : Int64)) dX12_odds_36 (gt_6 223 rfl rfl) ?_
    exact V_lret dX12_odds_39 rfl rfl rfl ⟨_, _, _, rfl, rfl, k⟩
  · have k := k.2 c1
    refine V_iload_n dX12_odds_12 rfl ?_
    refine V_i2l dX12_odds_13 ?_
    refine V_ldc2_w (v := (-12 : Int64)) dX12_odds_14 (gt_6 222 rfl rfl) ?_
    refine V_ldc2_w (v := (12 : Int64)) dX12_odds_17 (gt_6 221 rfl rfl) ?_
    refine U_callS1 [.long a1.toInt64, .long (-12 : Int64), .long (12 : Int64)] dX12_odds_20 os_X12_91 ⟨rfl, rfl, rfl⟩ rfl rfl rfl (tX12_in32 (v := a1) (lo := (-12 : Int32)) (hi := (12 : Int32)) rfl (by decide) (by decide) ?_)
    refine U_ifb_eq dX12_odds_23 (fun c2 => ?_) (fun c2 => ?_)
    · have k := k.1 c2
      refine V_ldc2_w (v := (-1 : Int64)) dX12_odds_36 (gt_6 223 rfl rfl) ?_
      exact V_lret dX12_odds_39 rfl rfl rfl ⟨_, _, _, rfl, rfl, k⟩
    · have k := k.2 c2
      refine V_iload_n dX12_odds_26 rfl ?_
      refine V_i2l dX12_odds_27 ?_
      refine V_lconst (v := (0 : Int64)) dX12_odds_28 rfl ?_
      refine V_lconst (v := (1 : Int64)) dX12_odds_29 rfl ?_
      refine U_callS1 [.long a2.toInt64, .long (0 : Int64), .long (1 : Int64)] dX12_odds_30 os_X12_91 ⟨rfl, rfl, rfl⟩ rfl rfl rfl (tX12_in32 (v := a2) (lo := (0 : Int32)) (hi := (1 : Int32)) rfl (by decide) (by decide) ?_)
      refine U_ifb_ne dX12_odds_33 (fun c3 => ?_) (fun c3 => ?_)
      · have k := k.1 c3
        refine V_aload_n dX12_odds_40 rfl ?_
        refine V_iload_n dX12_odds_41 rfl ?_
        refine U_callV0 [.int a0] dX12_odds_42 ov_X12_288 s_68 rfl ⟨rfl, rfl, rfl⟩ rfl rfl rfl (CallV_mono k (fun I5 J6 k => ?_))
        refine V_aload_n dX12_odds_45 rfl ?_
        refine U_getR dX12_odds_46 fl_X12_68 s_68 rfl ?_
        refine V_bipush (v := (12 : Int32)) dX12_odds_49 rfl ?_
        refine V_iload_n dX12_odds_51 rfl ?_
        refine V_iadd dX12_odds_52 ?_
        obtain ⟨hb7, k⟩ := k
        refine U_lald dX12_odds_53 s_88 hb7 ?_
        refine V_aload_n dX12_odds_54 rfl ?_
        refine U_getJ dX12_odds_55 fl_X12_278 s_68 rfl ?_
        refine V_iload_n dX12_odds_58 rfl ?_
        refine U_callS2 [.long (J6 88 ((12 : Int32) + a1).toNatClampNeg), .long (J6 68 32), .int a2] dX12_odds_59 os_X12_291 ⟨rfl, rfl, rfl⟩ rfl rfl rfl (CallJ_mono k (fun x8 I9 J10 k => ?_))
        exact V_lret dX12_odds_62 rfl rfl rfl ⟨_, _, _, rfl, rfl, k⟩
      · have k := k.2 c3
        refine V_ldc2_w (v := (-1 : Int64)) dX12_odds_36 (gt_6 223 rfl rfl) ?_
        exact V_lret dX12_odds_39 rfl rfl rfl ⟨_, _, _, rfl, rfl, k⟩
theorem op_odds {E : aE} {I : hI_} {J : hJ_} {P : hI_ → hJ_ → Prop} {a0 a1 a2 : Int32} (h : Rel I) (hP : ∀ I2 J2, Rel I2 → P I2 J2) : Op2J E mX11_odds mX12_odds [.int a0, .int a1, .int a2] I J P := by
  have kI := hP I J h
  refine wX11_odds ⟨fun c1 => wX12_odds ⟨fun _ => ⟨rfl, kI⟩, fun d => absurd d c1⟩, fun c1 => ⟨fun c2 => wX12_odds ⟨fun _ => ⟨rfl, kI⟩, fun _ => ⟨fun _ => ⟨rfl, kI⟩, fun d => absurd d c2⟩⟩, fun c2 => ⟨fun c3 => ?_, fun c3 => wX12_odds ⟨fun _ => ⟨rfl, kI⟩, fun _ => ⟨fun _ => ⟨rfl, kI⟩, fun _ => ⟨fun d => absurd d c3, fun _ => ⟨rfl, kI⟩⟩⟩⟩⟩⟩⟩
  obtain ⟨n, hn, rfl⟩ := in_le (n := 12) rfl c1
  obtain ⟨y, hy, ey⟩ : ∃ y : Nat, y < 25 ∧ a1 + 12 = nI y := by
    have h1 := Int32.le_iff_toInt_le.mp c2.1
    have h2 := Int32.le_iff_toInt_le.mp c2.2
    have e1 : (-12 : Int32).toInt = -12 := rfl
    have e2 : (12 : Int32).toInt = 12 := rfl
    have e3 : (a1 + 12).toInt = a1.toInt + 12 := by
      rw [Int32.toInt_add, e2]
      exact Int.bmod_eq_of_le (by omega) (by omega)
    exact ⟨(a1 + 12).toInt.toNat, by omega, ofT (by omega)⟩
  have ey2 : 12 + a1 = nI y := by rw [Int32.add_comm]; exact ey
  have hp := mS_pow h hn
  have hc := @cN_le I n y
  have ab : isAbs (lN (cN I n y)) (cN I n y) := ⟨by omega, Or.inl rfl⟩
  refine tX10_walk h hn (fun J2 h43 => ?_)
  rw [ey]
  refine ⟨vp_in_nI (by omega) (by omega), tX10_power h hn ?_⟩
  rw [nI_clamp (by omega), h43 y hy, cn_N h, pw_N h]
  refine tX10_low ab hp.1 (by omega) ?_
  refine wX12_odds ⟨fun d => absurd c1 d, fun _ => ⟨fun d => absurd c2 d, fun _ => ⟨fun _ => ?_, fun d => absurd c3 d⟩⟩⟩
  refine tX12_layWalks hn (fun J3 h88 hpw => ?_)
  rw [ey2]
  refine ⟨vp_in_nI (by omega) (by omega), ?_⟩
  rw [nI_clamp (by omega), h88 y hy, hpw, cn_N h, pw_N h]
  exact tX12_low ab hp.1 (by omega) ⟨rfl, hP _ _ h⟩
