/-- price and since when, behind k steps -/
def prS (S : Nat → Int32) (p t v0 s0 : Int32) : Nat → Int32 × Int32
  | 0 => (v0, s0)
  | k + 1 => if S (3 * k) = p ∧ (prS S p t v0 s0 k).2 ≤ S (3 * k + 1) ∧ S (3 * k + 1) ≤ t then (S (3 * k + 2), S (3 * k + 1)) else prS S p t v0 s0 k
def prc (I : hI_) (p t : Int32) : Int32 := (prS (I 82) p t (I 74 p.toNatClampNeg) (-1) (nS I)).1
def prOK (I : hI_) (p : Int32) : Prop := Rel I ∧ ∃ k : Nat, k < nP I ∧ p = nI k
theorem prS_0 {S : Nat → Int32} {p t v0 : Int32} : ∀ (n : Nat), (∀ k, k < n → 0 ≤ (S (3 * k + 1)).toInt) → (prS S p t v0 0 n).1 = (prS S p t v0 (-1) n).1 ∧ ((prS S p t v0 0 n).2 = (prS S p t v0 (-1) n).2 ∨ ((prS S p t v0 0 n).2 = 0 ∧ (prS S p t v0 (-1) n).2 = -1))
  | 0, _ => ⟨rfl, Or.inr ⟨rfl, rfl⟩⟩
  | n + 1, h => by
    obtain ⟨h1, h2⟩ := prS_0 (S := S) (p := p) (t := t) (v0 := v0) n (fun k hk => h k (by omega))
    have h3 := h n (by omega)
    have e : ((prS S p t v0 0 n).2 ≤ S (3 * n + 1)) ↔ ((prS S p t v0 (-1) n).2 ≤ S (3 * n + 1)) := by
      rcases h2 with h2 | h2
      · rw [h2]
      · rw [h2.1, h2.2, Int32.le_iff_toInt_le, Int32.le_iff_toInt_le]
        have z : (0 : Int32).toInt = 0 := rfl
        have o : (-1 : Int32).toInt = -1 := rfl
        omega
    unfold prS
    by_cases c : S (3 * n) = p ∧ (prS S p t v0 (-1) n).2 ≤ S (3 * n + 1) ∧ S (3 * n + 1) ≤ t
    · rw [if_pos c, if_pos (show S (3 * n) = p ∧ (prS S p t v0 0 n).2 ≤ S (3 * n + 1) ∧ S (3 * n + 1) ≤ t by rw [e]; exact c)]
      exact ⟨rfl, Or.inl rfl⟩
    · rw [if_neg c, if_neg (show ¬ (S (3 * n) = p ∧ (prS S p t v0 0 n).2 ≤ S (3 * n + 1) ∧ S (3 * n + 1) ≤ t) by rw [e]; exact c)]
      exact ⟨h1, h2⟩
theorem prS_bet {S : Nat → Int32} {p t v0 s0 : Int32} (hv : bet 1 v0 999) : ∀ (n : Nat), (∀ k, k < n → bet 1 (S (3 * k + 2)) 999) → bet 1 (prS S p t v0 s0 n).1 999
  | 0, _ => hv
  | n + 1, h => by
    unfold prS
    split
    · exact h n (by omega)
    · exact prS_bet hv n (fun k hk => h k (by omega))
theorem prS_eq {S : Nat → Int32} {p t u v0 s0 : Int32} : ∀ (n : Nat), (∀ k, k < n → S (3 * k) = p → (S (3 * k + 1) ≤ t ↔ S (3 * k + 1) ≤ u)) → prS S p t v0 s0 n = prS S p u v0 s0 n
  | 0, _ => rfl
  | n + 1, h => by
    have h1 := prS_eq (S := S) (p := p) (t := t) (u := u) (v0 := v0) (s0 := s0) n (fun k hk => h k (by omega))
    unfold prS
    rw [h1]
    by_cases hp : S (3 * n) = p
    · simp only [h n (by omega) hp]
    · rw [if_neg (fun q => hp q.1), if_neg (fun q => hp q.1)]
def HX1_priceAt_29 (E : aE) (P : Int32 → hI_ → hJ_ → Prop) (v1 : Int32) (v2 : Int32) (v3 : Int32) (v4 : Int32) (v5 : Int32) (I : hI_) (J : hJ_) : Prop := V E mX1_priceAt (kI SH P) 29 [.ref 21, .int v1, .int v2, .int v3, .int v4, .int v5, .retAddr 0] [] (SH, I, J) (0, 0)
set_option maxHeartbeats 4000000 in
set_option maxRecDepth 20000 in
theorem wX1_priceAt {E : aE} {P : Int32 → hI_ → hJ_ → Prop} {I : hI_} {J : hJ_} {a0 : Int32} {a1 : Int32} (k : ((¬ (a0 < (0 : Int32))) → (¬ ((5 : Int32) ≤ a0)) → vp_in a0 5) ∧ HX1_priceAt_29 E P a0 a1 (if a0 < (0 : Int32) then (0 : Int32) else (if (5 : Int32) ≤ a0 then (0 : Int32) else (I 4 a0.toNatClampNeg))) (0 : Int32) (0 : Int32) I J) : CallI E mX1_priceAt [.ref 21, .int a0, .int a1] SH I J P := by
  refine Call_of (L := [.ref 21, .int a0, .int a1, .retAddr 0, .retAddr 0, .retAddr 0, .retAddr 0]) ok_X1_priceAt.1 rfl rfl ?_
  refine V_iload_n dX1_priceAt_0 rfl ?_
  obtain ⟨hc2004, k⟩ := k
  have key1 : ∀ (y2003 : Int32), y2003 = (if a0 < (0 : Int32) then (0 : Int32) else (if (5 : Int32) ≤ a0 then (0 : Int32) else (I 4 a0.toNatClampNeg))) → V E mX1_priceAt (kI SH P) 22 [.ref 21, .int a0, .int a1, .retAddr 0, .retAddr 0, .retAddr 0, .retAddr 0] [.int y2003] (SH, I, J) (0, 0) := by
    intro y2003 ey2003
    subst ey2003
    refine U_istore_n (L2 := [.ref 21, .int a0, .int a1, .int (if a0 < (0 : Int32) then (0 : Int32) else (if (5 : Int32) ≤ a0 then (0 : Int32) else (I 4 a0.toNatClampNeg))), .retAddr 0, .retAddr 0, .retAddr 0]) dX1_priceAt_22 (by decide) rfl ?_
    refine V_iconst (v := (0 : Int32)) dX1_priceAt_23 rfl ?_
    refine U_istore (L2 := [.ref 21, .int a0, .int a1, .int (if a0 < (0 : Int32) then (0 : Int32) else (if (5 : Int32) ≤ a0 then (0 : Int32) else (I 4 a0.toNatClampNeg))), .int (0 : Int32), .retAddr 0, .retAddr 0]) dX1_priceAt_24 (by decide) rfl ?_
    refine V_iconst (v := (0 : Int32)) dX1_priceAt_26 rfl ?_
    refine U_istore (L2 := [.ref 21, .int a0, .int a1, .int (if a0 < (0 : Int32) then (0 : Int32) else (if (5 : Int32) ≤ a0 then (0 : Int32) else (I 4 a0.toNatClampNeg))), .int (0 : Int32), .int (0 : Int32), .retAddr 0]) dX1_priceAt_27 (by decide) rfl ?_
    exact k
  refine V_if_lt dX1_priceAt_1 (fun c2005 => ?_) (fun c2005 => ?_)
  · refine V_iconst (v := (0 : Int32)) dX1_priceAt_21 rfl ?_
    exact key1 _ (by rw [if_pos c2005])
  · refine V_iload_n dX1_priceAt_4 rfl ?_
    refine V_iconst (v := (5 : Int32)) dX1_priceAt_5 rfl ?_
    refine V_icmp_ge dX1_priceAt_6 (fun c2006 => ?_) (fun c2006 => ?_)
    · refine V_iconst (v := (0 : Int32)) dX1_priceAt_21 rfl ?_
      exact key1 _ (by rw [if_neg c2005, if_pos c2006])
    · refine V_aload_n dX1_priceAt_9 rfl ?_
      refine U_getR dX1_priceAt_10 fl_X1_26 s_21 rfl ?_
      refine U_getR dX1_priceAt_13 fl_X1_38 s_3 rfl ?_
      refine V_iload_n dX1_priceAt_16 rfl ?_
      have hb2002 := hc2004 c2005 c2006
      refine U_iald dX1_priceAt_17 s_4 hb2002 ?_
      refine V_goto dX1_priceAt_18 ?_
      exact key1 _ (by rw [if_neg c2005, if_neg c2006])
set_option maxHeartbeats 4000000 in
set_option maxRecDepth 20000 in
theorem wX1_priceAt_29 {E : aE} {P : Int32 → hI_ → hJ_ → Prop} {I : hI_} {J : hJ_} {v1 : Int32} {v2 : Int32} {v3 : Int32} {v4 : Int32} {v5 : Int32} (k : (((I 22 3) ≤ v5 → P v3 I J) ∧ (¬ ((I 22 3) ≤ v5) → (rok I 22 3 24) ∧ (rok I 22 3 24) ∧ (((rat I 22 23 v5 (0 : Int32)) = v1) → (¬ ((rat I 22 23 v5 (1 : Int32)) < v4)) → (¬ (v2 < (rat I 22 23 v5 (1 : Int32)))) → rok I 22 3 24) ∧ HX1_priceAt_29 E P v1 v2 (if ¬ (rat I 22 23 v5 (0 : Int32)) = v1 then v3 else (if (rat I 22 23 v5 (1 : Int32)) < v4 then v3 else (if v2 < (rat I 22 23 v5 (1 : Int32)) then v3 else (rat I 22 23 v5 (2 : Int32))))) (if ¬ (rat I 22 23 v5 (0 : Int32)) = v1 then v4 else (if (rat I 22 23 v5 (1 : Int32)) < v4 then v4 else (if v2 < (rat I 22 23 v5 (1 : Int32)) then v4 else (rat I 22 23 v5 (1 : Int32))))) (v5 + (1 : Int32)) I J))) : HX1_priceAt_29 E P v1 v2 v3 v4 v5 I J := by
  show V E mX1_priceAt (kI SH P) 29 [.ref 21, .int v1, .int v2, .int v3, .int v4, .int v5, .retAddr 0] [] (SH, I, J) (0, 0)
  refine V_iload dX1_priceAt_29 rfl ?_
  refine V_aload_n dX1_priceAt_31 rfl ?_
  refine U_getR dX1_priceAt_32 fl_X1_14 s_21 rfl ?_
  refine U_getI dX1_priceAt_35 fl_X1_30 s_22 rfl ?_
  refine V_icmp_ge dX1_priceAt_38 (fun c1 => ?_) (fun c1 => ?_)
  · have k := k.1 c1
    refine V_iload_n dX1_priceAt_101 rfl ?_
    exact V_iret dX1_priceAt_102 ⟨_, rfl, rfl⟩ rfl rfl ⟨_, _, _, rfl, rfl, k⟩
  · have k := k.2 c1
    refine V_aload_n dX1_priceAt_41 rfl ?_
    refine U_getR dX1_priceAt_42 fl_X1_14 s_21 rfl ?_
    refine V_iload dX1_priceAt_45 rfl ?_
    refine V_iconst (v := (1 : Int32)) dX1_priceAt_47 rfl ?_
    obtain ⟨hp2, k⟩ := k
    refine U_callV1 [.int v5, .int (1 : Int32)] dX1_priceAt_48 ov_X1_44 s_22 rfl ⟨rfl, rfl, rfl⟩ rfl rfl rfl (tX5_at s_22 s_23 (by decide) hp2 ?_)
    refine U_istore (L2 := [.ref 21, .int v1, .int v2, .int v3, .int v4, .int v5, .int (rat I 22 23 v5 (1 : Int32))]) dX1_priceAt_51 (by decide) rfl ?_
    refine V_aload_n dX1_priceAt_53 rfl ?_
    refine U_getR dX1_priceAt_54 fl_X1_14 s_21 rfl ?_
    refine V_iload dX1_priceAt_57 rfl ?_
    refine V_iconst (v := (0 : Int32)) dX1_priceAt_59 rfl ?_
    obtain ⟨hp3, k⟩ := k
    refine U_callV1 [.int v5, .int (0 : Int32)] dX1_priceAt_60 ov_X1_44 s_22 rfl ⟨rfl, rfl, rfl⟩ rfl rfl rfl (tX5_at s_22 s_23 (by decide) hp3 ?_)
    refine V_iload_n dX1_priceAt_63 rfl ?_
    obtain ⟨hc2008, k⟩ := k
    have key4 : ∀ (y2006 : Int32) (y2007 : Int32), y2006 = (if ¬ (rat I 22 23 v5 (0 : Int32)) = v1 then v3 else (if (rat I 22 23 v5 (1 : Int32)) < v4 then v3 else (if v2 < (rat I 22 23 v5 (1 : Int32)) then v3 else (rat I 22 23 v5 (2 : Int32))))) → y2007 = (if ¬ (rat I 22 23 v5 (0 : Int32)) = v1 then v4 else (if (rat I 22 23 v5 (1 : Int32)) < v4 then v4 else (if v2 < (rat I 22 23 v5 (1 : Int32)) then v4 else (rat I 22 23 v5 (1 : Int32))))) → V E mX1_priceAt (kI SH P) 95 [.ref 21, .int v1, .int v2, .int y2006, .int y2007, .int v5, .int (rat I 22 23 v5 (1 : Int32))] [] (SH, I, J) (0, 0) := by
      intro y2006 y2007 ey2006 ey2007
      subst ey2006
      subst ey2007
      refine U_iinc (v := v5 + (1 : Int32)) (L2 := [.ref 21, .int v1, .int v2, .int (if ¬ (rat I 22 23 v5 (0 : Int32)) = v1 then v3 else (if (rat I 22 23 v5 (1 : Int32)) < v4 then v3 else (if v2 < (rat I 22 23 v5 (1 : Int32)) then v3 else (rat I 22 23 v5 (2 : Int32))))), .int (if ¬ (rat I 22 23 v5 (0 : Int32)) = v1 then v4 else (if (rat I 22 23 v5 (1 : Int32)) < v4 then v4 else (if v2 < (rat I 22 23 v5 (1 : Int32)) then v4 else (rat I 22 23 v5 (1 : Int32))))), .int (v5 + (1 : Int32)), .int (rat I 22 23 v5 (1 : Int32))]) dX1_priceAt_95 (by decide) rfl rfl rfl ?_
      refine V_goto dX1_priceAt_98 ?_
      exact V_wk (wk_eq (wk_eq (wk_eq (wk_eq (wk_eq (wk_eq (wk_j (wk_nil)))))))) k
    refine V_icmp_ne dX1_priceAt_64 (fun c2009 => ?_) (fun c2009 => ?_)
    · exact key4 _ _ (by rw [if_pos c2009]) (by rw [if_pos c2009])
    · refine V_iload dX1_priceAt_67 rfl ?_
      refine V_iload dX1_priceAt_69 rfl ?_
      refine V_icmp_gt dX1_priceAt_71 (fun c2010 => ?_) (fun c2010 => ?_)
      · exact key4 _ _ (by rw [if_neg (not_not_intro c2009), if_pos c2010]) (by rw [if_neg (not_not_intro c2009), if_pos c2010])
      · refine V_iload dX1_priceAt_74 rfl ?_
        refine V_iload_n dX1_priceAt_76 rfl ?_
        refine V_icmp_gt dX1_priceAt_77 (fun c2011 => ?_) (fun c2011 => ?_)
        · exact key4 _ _ (by rw [if_neg (not_not_intro c2009), if_neg c2010, if_pos c2011]) (by rw [if_neg (not_not_intro c2009), if_neg c2010, if_pos c2011])
        · refine V_aload_n dX1_priceAt_80 rfl ?_
          refine U_getR dX1_priceAt_81 fl_X1_14 s_21 rfl ?_
          refine V_iload dX1_priceAt_84 rfl ?_
          refine V_iconst (v := (2 : Int32)) dX1_priceAt_86 rfl ?_
          have hp2005 := hc2008 c2009 c2010 c2011
          refine U_callV1 [.int v5, .int (2 : Int32)] dX1_priceAt_87 ov_X1_44 s_22 rfl ⟨rfl, rfl, rfl⟩ rfl rfl rfl (tX5_at s_22 s_23 (by decide) hp2005 ?_)
          refine U_istore_n (L2 := [.ref 21, .int v1, .int v2, .int (rat I 22 23 v5 (2 : Int32)), .int v4, .int v5, .int (rat I 22 23 v5 (1 : Int32))]) dX1_priceAt_90 (by decide) rfl ?_
          refine V_iload dX1_priceAt_91 rfl ?_
          refine U_istore (L2 := [.ref 21, .int v1, .int v2, .int (rat I 22 23 v5 (2 : Int32)), .int (rat I 22 23 v5 (1 : Int32)), .int v5, .int (rat I 22 23 v5 (1 : Int32))]) dX1_priceAt_93 (by decide) rfl ?_
          exact key4 _ _ (by rw [if_neg (not_not_intro c2009), if_neg c2010, if_neg c2011]) (by rw [if_neg (not_not_intro c2009), if_neg c2010, if_neg c2011])
theorem priceX_loop {E : aE} {P : Int32 → hI_ → hJ_ → Prop} {I : hI_} {J : hJ_} {p t v0 : Int32} (h : Rel I) (k : P (prS (I 82) p t v0 0 (nS I)).1 I J) : ∀ (m i : Nat), i + m = nS I → HX1_priceAt_29 E P p t (prS (I 82) p t v0 0 i).1 (prS (I 82) p t v0 0 i).2 (nI i) I J
  | 0, i, hi => by
    have hS := Rel_S h
    have : i = nS I := by omega
    subst this
    refine wX1_priceAt_29 ⟨fun _ => k, fun c => absurd (by rw [hS.1]; exact Int32.le_refl _) c⟩
  | m + 1, i, hi => by
    have hS := Rel_S h
    have hr := (Rel_rows h).1
    obtain ⟨⟨e0, e1, e2⟩, -⟩ := Rel_step h (k := i) (by omega)
    refine wX1_priceAt_29 ⟨fun c => absurd c (by rw [hS.1]; exact nI_ge (by omega) (by omega)), fun _ => ⟨hr, hr, fun _ _ _ => hr, ?_⟩⟩
    rw [e0, e1, e2, nI_1]
    have ih := priceX_loop (E := E) h k m (i + 1) (by omega)
    unfold prS at ih
    generalize hs : prS (I 82) p t v0 0 i = s at ih ⊢
    by_cases c : I 82 (3 * i) = p ∧ s.2 ≤ I 82 (3 * i + 1) ∧ I 82 (3 * i + 1) ≤ t
    · rw [if_pos c] at ih
      rw [if_neg (fun q => q c.1), if_neg (Int32.not_lt.mpr c.2.1), if_neg (Int32.not_lt.mpr c.2.2), if_neg (fun q => q c.1), if_neg (Int32.not_lt.mpr c.2.1), if_neg (Int32.not_lt.mpr c.2.2)]
      exact ih
    · rw [if_neg c] at ih
      by_cases c1 : I 82 (3 * i) = p
      · by_cases c2 : I 82 (3 * i + 1) < s.2
        · rw [if_neg (fun q => q c1), if_pos c2, if_neg (fun q => q c1), if_pos c2]; exact ih
        · have c3 : t < I 82 (3 * i + 1) := Int32.not_le.mp (fun z => c ⟨c1, Int32.not_lt.mp c2, z⟩)
          rw [if_neg (fun q => q c1), if_neg c2, if_pos c3, if_neg (fun q => q c1), if_neg c2, if_pos c3]; exact ih
      · rw [if_pos c1, if_pos c1]; exact ih
theorem tX1_priceAt {E : aE} {P : Int32 → hI_ → hJ_ → Prop} {I : hI_} {J : hJ_} {p t : Int32} (hp : prOK I p) (k : P (prc I p t) I J) : CallI E mX1_priceAt [.ref 21, .int p, .int t] SH I J P := by
  obtain ⟨h, x, hx, rfl⟩ := hp
  have hP := Rel_P h
  refine wX1_priceAt ⟨fun _ _ => vp_in_nI (by omega) (by omega), ?_⟩
  rw [if_neg (nI_pos (by omega)), if_neg (show ¬ (5 : Int32) ≤ nI x from nI_ge (b := 5) (by omega) (by omega)), nI_clamp (by omega)]
  have e : I 4 x = I 74 x := (h.2.1.2.2.2.2.2.2.2.1 x (by rw [hP.2.1, nI_toInt (by omega)]; omega)).1
  rw [e]
  refine priceX_loop h ?_ (nS I) 0 (by omega)
  rw [(prS_0 (nS I) (fun j hj => (Rel_step h hj).2.2.1.1)).1]
  unfold prc at k
  rw [nI_clamp (by omega)] at k
  exact k
def HX12_priceAt_13 (E : aE) (P : Int32 → hI_ → hJ_ → Prop) (v1 : Int32) (v2 : Int32) (v3 : Int32) (v4 : Int32) (v5 : Int32) (I : hI_) (J : hJ_) : Prop := V E mX12_priceAt (kI SH P) 13 [.ref 68, .int v1, .int v2, .int v3, .int v4, .int v5] [] (SH, I, J) (0, 0)
set_option maxHeartbeats 4000000 in
set_option maxRecDepth 20000 in
theorem wX12_priceAt {E : aE} {P : Int32 → hI_ → hJ_ → Prop} {I : hI_} {J : hJ_} {a0 : Int32} {a1 : Int32} (k : (vp_in a0 5) ∧ HX12_priceAt_13 E P a0 a1 (I 74 a0.toNatClampNeg) (-1 : Int32) (0 : Int32) I J) : CallI E mX12_priceAt [.ref 68, .int a0, .int a1] SH I J P := by
  refine Call_of (L := [.ref 68, .int a0, .int a1, .retAddr 0, .retAddr 0, .retAddr 0]) ok_X12_priceAt.1 rfl rfl ?_
  refine V_aload_n dX12_priceAt_0 rfl ?_
  refine U_getR dX12_priceAt_1 fl_X12_25 s_68 rfl ?_
  refine V_iload_n dX12_priceAt_4 rfl ?_
  obtain ⟨hb1, k⟩ := k
  refine U_iald dX12_priceAt_5 s_74 hb1 ?_
  refine U_istore_n (L2 := [.ref 68, .int a0, .int a1, .int (I 74 a0.toNatClampNeg), .retAddr 0, .retAddr 0]) dX12_priceAt_6 (by decide) rfl ?_
  refine V_iconst (v := (-1 : Int32)) dX12_priceAt_7 rfl ?_
  refine U_istore (L2 := [.ref 68, .int a0, .int a1, .int (I 74 a0.toNatClampNeg), .int (-1 : Int32), .retAddr 0]) dX12_priceAt_8 (by decide) rfl ?_
  refine V_iconst (v := (0 : Int32)) dX12_priceAt_10 rfl ?_
  refine U_istore (L2 := [.ref 68, .int a0, .int a1, .int (I 74 a0.toNatClampNeg), .int (-1 : Int32), .int (0 : Int32)]) dX12_priceAt_11 (by decide) rfl ?_
  exact k
set_option maxHeartbeats 4000000 in
set_option maxRecDepth 20000 in
theorem wX12_priceAt_13 {E : aE} {P : Int32 → hI_ → hJ_ → Prop} {I : hI_} {J : hJ_} {v1 : Int32} {v2 : Int32} {v3 : Int32} {v4 : Int32} {v5 : Int32} (k : (((I 82 280) ≤ v5 → P v3 I J) ∧ (¬ ((I 82 280) ≤ v5) → (vp_in ((3 : Int32) * v5) 900) ∧ (((I 82 ((3 : Int32) * v5).toNatClampNeg) = v1) → vp_in (((3 : Int32) * v5) + (1 : Int32)) 900) ∧ (((I 82 ((3 : Int32) * v5).toNatClampNeg) = v1) → ((v4 ≤ (I 82 (((3 : Int32) * v5) + (1 : Int32)).toNatClampNeg) ∧ (I 82 (((3 : Int32) * v5) + (1 : Int32)).toNatClampNeg) ≤ v2)) → vp_in (((3 : Int32) * v5) + (1 : Int32)) 900) ∧ (((I 82 ((3 : Int32) * v5).toNatClampNeg) = v1) → ((v4 ≤ (I 82 (((3 : Int32) * v5) + (1 : Int32)).toNatClampNeg) ∧ (I 82 (((3 : Int32) * v5) + (1 : Int32)).toNatClampNeg) ≤ v2)) → vp_in (((3 : Int32) * v5) + (2 : Int32)) 900) ∧ HX12_priceAt_13 E P v1 v2 (if ¬ (I 82 ((3 : Int32) * v5).toNatClampNeg) = v1 then v3 else (if ¬ (v4 ≤ (I 82 (((3 : Int32) * v5) + (1 : Int32)).toNatClampNeg) ∧ (I 82 (((3 : Int32) * v5) + (1 : Int32)).toNatClampNeg) ≤ v2) then v3 else (I 82 (((3 : Int32) * v5) + (2 : Int32)).toNatClampNeg))) (if ¬ (I 82 ((3 : Int32) * v5).toNatClampNeg) = v1 then v4 else (if ¬ (v4 ≤ (I 82 (((3 : Int32) * v5) + (1 : Int32)).toNatClampNeg) ∧ (I 82 (((3 : Int32) * v5) + (1 : Int32)).toNatClampNeg) ≤ v2) then v4 else (I 82 (((3 : Int32) * v5) + (1 : Int32)).toNatClampNeg))) (v5 + (1 : Int32)) I J))) : HX12_priceAt_13 E P v1 v2 v3 v4 v5 I J := by
  show V E mX12_priceAt (kI SH P) 13 [.ref 68, .int v1, .int v2, .int v3, .int v4, .int v5] [] (SH, I, J) (0, 0)
  refine V_iload dX12_priceAt_13 rfl ?_
  refine V_aload_n dX12_priceAt_15 rfl ?_
  refine U_getR dX12_priceAt_16 fl_X12_49 s_68 rfl ?_
  refine V_sipush (v := (280 : Int32)) dX12_priceAt_19 rfl ?_
  refine U_ialdx (x := I 82 280) dX12_priceAt_22 s_82 (by unfold vp_in; decide) rfl ?_
  refine V_icmp_ge dX12_priceAt_23 (fun c1 => ?_) (fun c1 => ?_)
  · have k := k.1 c1
    refine V_iload_n dX12_priceAt_93 rfl ?_
    exact V_iret dX12_priceAt_94 ⟨_, rfl, rfl⟩ rfl rfl ⟨_, _, _, rfl, rfl, k⟩
  · have k := k.2 c1
    refine V_aload_n dX12_priceAt_26 rfl ?_
    refine U_getR dX12_priceAt_27 fl_X12_49 s_68 rfl ?_
    refine V_iconst (v := (3 : Int32)) dX12_priceAt_30 rfl ?_
    refine V_iload dX12_priceAt_31 rfl ?_
    refine V_imul dX12_priceAt_33 ?_
    obtain ⟨hb2, k⟩ := k
    refine U_iald dX12_priceAt_34 s_82 hb2 ?_
    refine V_iload_n dX12_priceAt_35 rfl ?_
    obtain ⟨hc2009, hc2010, hc2011, k⟩ := k
    have key3 : ∀ (y2007 : Int32) (y2008 : Int32), y2007 = (if ¬ (I 82 ((3 : Int32) * v5).toNatClampNeg) = v1 then v3 else (if ¬ (v4 ≤ (I 82 (((3 : Int32) * v5) + (1 : Int32)).toNatClampNeg) ∧ (I 82 (((3 : Int32) * v5) + (1 : Int32)).toNatClampNeg) ≤ v2) then v3 else (I 82 (((3 : Int32) * v5) + (2 : Int32)).toNatClampNeg))) → y2008 = (if ¬ (I 82 ((3 : Int32) * v5).toNatClampNeg) = v1 then v4 else (if ¬ (v4 ≤ (I 82 (((3 : Int32) * v5) + (1 : Int32)).toNatClampNeg) ∧ (I 82 (((3 : Int32) * v5) + (1 : Int32)).toNatClampNeg) ≤ v2) then v4 else (I 82 (((3 : Int32) * v5) + (1 : Int32)).toNatClampNeg))) → V E mX12_priceAt (kI SH P) 87 [.ref 68, .int v1, .int v2, .int y2007, .int y2008, .int v5] [] (SH, I, J) (0, 0) := by
      intro y2007 y2008 ey2007 ey2008
      subst ey2007
      subst ey2008
      refine U_iinc (v := v5 + (1 : Int32)) (L2 := [.ref 68, .int v1, .int v2, .int (if ¬ (I 82 ((3 : Int32) * v5).toNatClampNeg) = v1 then v3 else (if ¬ (v4 ≤ (I 82 (((3 : Int32) * v5) + (1 : Int32)).toNatClampNeg) ∧ (I 82 (((3 : Int32) * v5) + (1 : Int32)).toNatClampNeg) ≤ v2) then v3 else (I 82 (((3 : Int32) * v5) + (2 : Int32)).toNatClampNeg))), .int (if ¬ (I 82 ((3 : Int32) * v5).toNatClampNeg) = v1 then v4 else (if ¬ (v4 ≤ (I 82 (((3 : Int32) * v5) + (1 : Int32)).toNatClampNeg) ∧ (I 82 (((3 : Int32) * v5) + (1 : Int32)).toNatClampNeg) ≤ v2) then v4 else (I 82 (((3 : Int32) * v5) + (1 : Int32)).toNatClampNeg))), .int (v5 + (1 : Int32))]) dX12_priceAt_87 (by decide) rfl rfl rfl ?_
      refine V_goto dX12_priceAt_90 ?_
      exact k
    refine V_icmp_ne dX12_priceAt_36 (fun c2012 => ?_) (fun c2012 => ?_)
    · exact key3 _ _ (by rw [if_pos c2012]) (by rw [if_pos c2012])
    · refine V_aload_n dX12_priceAt_39 rfl ?_
      refine U_getR dX12_priceAt_40 fl_X12_49 s_68 rfl ?_
      refine V_iconst (v := (3 : Int32)) dX12_priceAt_43 rfl ?_
      refine V_iload dX12_priceAt_44 rfl ?_
      refine V_imul dX12_priceAt_46 ?_
      refine V_iconst (v := (1 : Int32)) dX12_priceAt_47 rfl ?_
      refine V_iadd dX12_priceAt_48 ?_
      have hb2004 := hc2009 c2012
      refine U_iald dX12_priceAt_49 s_82 hb2004 ?_
      refine V_i2l dX12_priceAt_50 ?_
      refine V_iload dX12_priceAt_51 rfl ?_
      refine V_i2l dX12_priceAt_53 ?_
      refine V_iload_n dX12_priceAt_54 rfl ?_
      refine V_i2l dX12_priceAt_55 ?_
      refine U_callS1 [.long ((I 82 (((3 : Int32) * v5) + (1 : Int32)).toNatClampNeg).toInt64), .long v4.toInt64, .long v2.toInt64] dX12_priceAt_56 os_X12_91 ⟨rfl, rfl, rfl⟩ rfl rfl rfl (tX12_in32 (v := (I 82 (((3 : Int32) * v5) + (1 : Int32)).toNatClampNeg)) (lo := v4) (hi := v2) rfl rfl rfl ?_)
      refine U_ifb_eq dX12_priceAt_59 (fun c2013 => ?_) (fun c2013 => ?_)
      · exact key3 _ _ (by rw [if_neg (not_not_intro c2012), if_pos c2013]) (by rw [if_neg (not_not_intro c2012), if_pos c2013])
      · refine V_aload_n dX12_priceAt_62 rfl ?_
        refine U_getR dX12_priceAt_63 fl_X12_49 s_68 rfl ?_
        refine V_iconst (v := (3 : Int32)) dX12_priceAt_66 rfl ?_
        refine V_iload dX12_priceAt_67 rfl ?_
        refine V_imul dX12_priceAt_69 ?_
        refine V_iconst (v := (1 : Int32)) dX12_priceAt_70 rfl ?_
        refine V_iadd dX12_priceAt_71 ?_
        have hb2005 := hc2010 c2012 c2013
        refine U_iald dX12_priceAt_72 s_82 hb2005 ?_
        refine U_istore (L2 := [.ref 68, .int v1, .int v2, .int v3, .int (I 82 (((3 : Int32) * v5) + (1 : Int32)).toNatClampNeg), .int v5]) dX12_priceAt_73 (by decide) rfl ?_
        refine V_aload_n dX12_priceAt_75 rfl ?_
        refine U_getR dX12_priceAt_76 fl_X12_49 s_68 rfl ?_
        refine V_iconst (v := (3 : Int32)) dX12_priceAt_79 rfl ?_
        refine V_iload dX12_priceAt_80 rfl ?_
        refine V_imul dX12_priceAt_82 ?_
        refine V_iconst (v := (2 : Int32)) dX12_priceAt_83 rfl ?_
        refine V_iadd dX12_priceAt_84 ?_
        have hb2006 := hc2011 c2012 c2013
        refine U_iald dX12_priceAt_85 s_82 hb2006 ?_
        refine U_istore_n (L2 := [.ref 68, .int v1, .int v2, .int (I 82 (((3 : Int32) * v5) + (2 : Int32)).toNatClampNeg), .int (I 82 (((3 : Int32) * v5) + (1 : Int32)).toNatClampNeg), .int v5]) dX12_priceAt_86 (by decide) rfl ?_
        exact key3 _ _ (by rw [if_neg (not_not_intro c2012), if_neg (not_not_intro c2013)]) (by rw [if_neg (not_not_intro c2012), if_neg (not_not_intro c2013)])
theorem m3_nI (k : Nat) : (3 : Int32) * nI k = nI (3 * k) := pk_mul 3 k
theorem priceM_loop {E : aE} {P : Int32 → hI_ → hJ_ → Prop} {I : hI_} {J : hJ_} {p t v0 : Int32} (h : Rel I) (k : P (prS (I 82) p t v0 (-1) (nS I)).1 I J) : ∀ (m i : Nat), i + m = nS I → HX12_priceAt_13 E P p t (prS (I 82) p t v0 (-1) i).1 (prS (I 82) p t v0 (-1) i).2 (nI i) I J
  | 0, i, hi => by
    have hS := Rel_S h
    have : i = nS I := by omega
    subst this
    refine wX12_priceAt_13 ⟨fun _ => k, fun c => absurd (by rw [hS.2.1]; exact Int32.le_refl _) c⟩
  | m + 1, i, hi => by
    have hS := Rel_S h
    refine wX12_priceAt_13 ⟨fun c => absurd c (by rw [hS.2.1]; exact nI_ge (by omega) (by omega)), fun _ => ?_⟩
    have a1 : nI (3 * i) + 1 = nI (3 * i + 1) := nI_1 _
    have a2 : nI (3 * i) + 2 = nI (3 * i + 2) := nI_add _ 2
    rw [m3_nI, a1, a2, nI_clamp (by omega), nI_clamp (by omega), nI_clamp (by omega), nI_1]
    refine ⟨vp_in_nI (by omega) (by omega), fun _ => vp_in_nI (by omega) (by omega), fun _ _ => vp_in_nI (by omega) (by omega), fun _ _ => vp_in_nI (by omega) (by omega), ?_⟩
    have ih := priceM_loop (E := E) h k m (i + 1) (by omega)
    unfold prS at ih
    generalize hs : prS (I 82) p t v0 (-1) i = s at ih ⊢
    by_cases c : I 82 (3 * i) = p ∧ s.2 ≤ I 82 (3 * i + 1) ∧ I 82 (3 * i + 1) ≤ t
    · rw [if_pos c] at ih
      rw [if_neg (fun q => q c.1), if_neg (fun q => q c.2), if_neg (fun q => q c.1), if_neg (fun q => q c.2)]
      exact ih
    · rw [if_neg c] at ih
      by_cases c1 : I 82 (3 * i) = p
      · have c2 : ¬ (s.2 ≤ I 82 (3 * i + 1) ∧ I 82 (3 * i + 1) ≤ t) := fun z => c ⟨c1, z⟩
        rw [if_neg (fun q => q c1), if_pos c2, if_neg (fun q => q c1), if_pos c2]; exact ih
      · rw [if_pos c1, if_pos c1]; exact ih
theorem tX12_priceAt {E : aE} {P : Int32 → hI_ → hJ_ → Prop} {I : hI_} {J : hJ_} {p t : Int32} (hp : prOK I p) (k : P (prc I p t) I J) : CallI E mX12_priceAt [.ref 68, .int p, .int t] SH I J P := by
  obtain ⟨h, x, hx, rfl⟩ := hp
  have hP := Rel_P h
  refine wX12_priceAt ⟨vp_in_nI (by omega) (by omega), ?_⟩
  unfold prc at k
  exact priceM_loop h k (nS I) 0 (by omega)
set_option maxHeartbeats 4000000 in
set_option maxRecDepth 20000 in
theorem wX11_price {E : aE} {P : Int32 → hI_ → hJ_ → Prop} {I : hI_} {J : hJ_} {a0 : Int32} {a1 : Int32} (k : (((0 ≤ a0 ∧ a0 ≤ I 3 6 - 1)) → ((0 ≤ a1 ∧ a1 ≤ 999)) → prOK I a0) ∧ P (if ¬ (0 ≤ a0 ∧ a0 ≤ I 3 6 - 1) then (-1 : Int32) else (if ¬ (0 ≤ a1 ∧ a1 ≤ 999) then (-1 : Int32) else (prc I a0 a1))) I J) : CallI E mX11_price [.ref 0, .int a0, .int a1] SH I J P := by
  refine Call_of (L := [.ref 0, .int a0, .int a1]) ok_X11_price.1 rfl rfl ?_
  refine V_aload_n dX11_price_0 rfl ?_
  refine V_iload_n dX11_price_1 rfl ?_
  refine U_callV1 [.int a0] dX11_price_2 ov_X11_148 s_0 rfl ⟨rfl, rfl, rfl⟩ rfl rfl rfl (tX11_isPlace ?_)
  obtain ⟨hc2004, k⟩ := k
  have key1 : ∀ (y2003 : Int32), y2003 = (if ¬ (0 ≤ a0 ∧ a0 ≤ I 3 6 - 1) then (-1 : Int32) else (if ¬ (0 ≤ a1 ∧ a1 ≤ 999) then (-1 : Int32) else (prc I a0 a1))) → V E mX11_price (kI SH P) 28 [.ref 0, .int a0, .int a1] [.int y2003] (SH, I, J) (0, 0) := by
    intro y2003 ey2003
    subst ey2003
    exact V_iret dX11_price_28 ⟨_, rfl, rfl⟩ rfl rfl ⟨_, _, _, rfl, rfl, k⟩
  refine U_ifb_eq dX11_price_5 (fun c2005 => ?_) (fun c2005 => ?_)
  · refine V_iconst (v := (-1 : Int32)) dX11_price_27 rfl ?_
    exact key1 _ (by rw [if_pos c2005])
  · refine V_iload_n dX11_price_8 rfl ?_
    refine U_callS1 [.int a1] dX11_price_9 os_X11_159 ⟨rfl, rfl, rfl⟩ rfl rfl rfl (tX11_isMinute ?_)
    refine U_ifb_eq dX11_price_12 (fun c2006 => ?_) (fun c2006 => ?_)
    · refine V_iconst (v := (-1 : Int32)) dX11_price_27 rfl ?_
      exact key1 _ (by rw [if_neg (not_not_intro c2005), if_pos c2006])
    · refine V_aload_n dX11_price_15 rfl ?_
      refine U_getR dX11_price_16 fl_X11_47 s_0 rfl ?_
      refine V_iload_n dX11_price_19 rfl ?_
      refine V_iload_n dX11_price_20 rfl ?_
      have hp2002 := hc2004 c2005 c2006
      refine U_callV1 [.int a0, .int a1] dX11_price_21 ov_X11_173 s_21 rfl ⟨rfl, rfl, rfl⟩ rfl rfl rfl (tX1_priceAt hp2002 ?_)
      refine V_goto dX11_price_24 ?_
      exact key1 _ (by rw [if_neg (not_not_intro c2005), if_neg (not_not_intro c2006)])
set_option maxHeartbeats 4000000 in
set_option maxRecDepth 20000 in
theorem wX12_price {E : aE} {P : Int32 → hI_ → hJ_ → Prop} {I : hI_} {J : hJ_} {a0 : Int32} {a1 : Int32} (k : (((0 ≤ a0 ∧ a0 ≤ I 73 0 - 1)) → ((0 ≤ a1 ∧ a1 ≤ 999)) → prOK I a0) ∧ P (if ¬ (0 ≤ a0 ∧ a0 ≤ I 73 0 - 1) then (-1 : Int32) else (if ¬ (0 ≤ a1 ∧ a1 ≤ 999) then (-1 : Int32) else (prc I a0 a1))) I J) : CallI E mX12_price [.ref 68, .int a0, .int a1] SH I J P := by
  refine Call_of (L := [.ref 68, .int a0, .int a1]) ok_X12_price.1 rfl rfl ?_
  refine V_aload_n dX12_price_0 rfl ?_
  refine V_iload_n dX12_price_1 rfl ?_
  refine U_callV1 [.int a0] dX12_price_2 ov_X12_167 s_68 rfl ⟨rfl, rfl, rfl⟩ rfl rfl rfl (tX12_isPlace ?_)
  obtain ⟨hc2004, k⟩ := k
  have key1 : ∀ (y2003 : Int32), y2003 = (if ¬ (0 ≤ a0 ∧ a0 ≤ I 73 0 - 1) then (-1 : Int32) else (if ¬ (0 ≤ a1 ∧ a1 ≤ 999) then (-1 : Int32) else (prc I a0 a1))) → V E mX12_price (kI SH P) 25 [.ref 68, .int a0, .int a1] [.int y2003] (SH, I, J) (0, 0) := by
    intro y2003 ey2003
    subst ey2003
    exact V_iret dX12_price_25 ⟨_, rfl, rfl⟩ rfl rfl ⟨_, _, _, rfl, rfl, k⟩
  refine U_ifb_eq dX12_price_5 (fun c2005 => ?_) (fun c2005 => ?_)
  · refine V_iconst (v := (-1 : Int32)) dX12_price_24 rfl ?_
    exact key1 _ (by rw [if_pos c2005])
  · refine V_iload_n dX12_price_8 rfl ?_
    refine U_callS1 [.int a1] dX12_price_9 os_X12_179 ⟨rfl, rfl, rfl⟩ rfl rfl rfl (tX12_isMinute ?_)
    refine U_ifb_eq dX12_price_12 (fun c2006 => ?_) (fun c2006 => ?_)
    · refine V_iconst (v := (-1 : Int32)) dX12_price_24 rfl ?_
      exact key1 _ (by rw [if_neg (not_not_intro c2005), if_pos c2006])
    · refine V_aload_n dX12_price_15 rfl ?_
      refine V_iload_n dX12_price_16 rfl ?_
      refine V_iload_n dX12_price_17 rfl ?_
      have hp2002 := hc2004 c2005 c2006
      refine U_callV1 [.int a0, .int a1] dX12_price_18 ov_X12_193 s_68 rfl ⟨rfl, rfl, rfl⟩ rfl rfl rfl (tX12_priceAt hp2002 ?_)
      refine V_goto dX12_price_21 ?_
      exact key1 _ (by rw [if_neg (not_not_intro c2005), if_neg (not_not_intro c2006)])
theorem Rel_pl {I : hI_} (h : Rel I) : I 3 6 = I 73 0 := h.2.1.1.1
theorem op_price {E : aE} {I : hI_} {J : hJ_} {P : hI_ → hJ_ → Prop} {a b : Int32} (h : Rel I) (hP : ∀ I2 J2, Rel I2 → P I2 J2) : Op2 E mX11_price mX12_price [.int a, .int b] I J P := by
  have hp := Rel_P h
  have e := Rel_pl h
  have ok : (0 ≤ a ∧ a ≤ I 73 0 - 1) → prOK I a := fun c => ⟨h, in_lt (by omega) (by rw [hp.2.1] at c; exact c)⟩
  refine wX11_price ⟨fun c _ => ok (by rw [← e]; exact c), wX12_price ⟨fun c _ => ok c, ?_, hP I J h⟩⟩
  rw [e]
