/-- a payment, as a number -/
noncomputable def xP (I : hI_) (p d : Nat) : Int := if d < nD I then (py I p d).toInt else 0
theorem nI_oI (n : Nat) : nI n = Int32.ofInt (n : Int) := rfl
theorem sS_n {I : hI_} (h : Rel I) {d : Nat} (hd : d < nD I) : ∃ n : Nat, n ≤ 98901 ∧ sS I d = Int32.ofInt (n : Int) := by
  have ok := deal_ok h hd
  have pc := pc_ok h ok.2.1.2
  have tl := tk_le h hd
  refine ⟨pcN I (cD I d) * tk I d, ?_, ?_⟩
  · exact Nat.le_trans (Nat.mul_le_mul pc.2.2 tl) (by omega)
  · unfold sS
    rw [pc.1, pk_mul, nI_oI]
theorem py_n {I : hI_} (h : Rel I) {p d : Nat} (hd : d < nD I) : -98901 ≤ (py I p d).toInt ∧ (py I p d).toInt ≤ 98901 := by
  obtain ⟨n, hn, e⟩ := sS_n h hd
  have a1 : -98901 ≤ (sS I d).toInt ∧ (sS I d).toInt ≤ 98901 := by
    rw [e, Int32.toInt_ofInt_of_le (by omega) (by omega)]; omega
  have a2 : -98901 ≤ (- sS I d).toInt ∧ (- sS I d).toInt ≤ 98901 := by
    rw [e, ← Int32.ofInt_neg, Int32.toInt_ofInt_of_le (by omega) (by omega)]; omega
  unfold py
  split
  · split
    · exact a2
    · exact a1
  · split
    · split
      · exact a1
      · exact a2
    · exact ⟨by decide, by decide⟩
theorem xP_b {I : hI_} (h : Rel I) (p : Nat) : ∀ e, -98901 ≤ xP I p e ∧ xP I p e ≤ 98901 := fun e => by
  unfold xP
  by_cases z : e < nD I
  · rw [if_pos z]; exact py_n h z
  · rw [if_neg z]; omega
theorem xP_py {I : hI_} {p d : Nat} (hd : d < nD I) : py I p d = Int32.ofInt (xP I p d) := by
  unfold xP
  rw [if_pos hd, Int32.ofInt_toInt]
theorem oI_le {a b : Int} (ha : -10000000 ≤ a ∧ a ≤ 10000000) (hb : -10000000 ≤ b ∧ b ≤ 10000000) : (Int32.ofInt a ≤ Int32.ofInt b) ↔ a ≤ b := by
  rw [Int32.le_iff_toInt_le, Int32.toInt_ofInt_of_le (by omega) (by omega), Int32.toInt_ofInt_of_le (by omega) (by omega)]
theorem oI_lt {a b : Int} (ha : -10000000 ≤ a ∧ a ≤ 10000000) (hb : -10000000 ≤ b ∧ b ≤ 10000000) : (Int32.ofInt a < Int32.ofInt b) ↔ a < b := by
  rw [Int32.lt_iff_toInt_lt, Int32.toInt_ofInt_of_le (by omega) (by omega), Int32.toInt_ofInt_of_le (by omega) (by omega)]
theorem oI_add (a b : Int) : Int32.ofInt a + Int32.ofInt b = Int32.ofInt (a + b) := (Int32.ofInt_add a b).symm
theorem oI_sub (a b : Int) : Int32.ofInt a - Int32.ofInt b = Int32.ofInt (a - b) := (Int32.ofInt_sub a b).symm
def HX7_sumOfDearest_8 (E : aE) (P : Int32 → hI_ → hJ_ → Prop) (v1 : Int32) (v2 : Int32) (v3 : Int32) (v4 : Int32) (v5 : Int32) (I : hI_) (J : hJ_) : Prop := V E mX7_sumOfDearest (kI SH P) 8 [.ref 29, .int v1, .int v2, .int v3, .int v4, .int v5, .retAddr 0, .retAddr 0] [] (SH, I, J) (0, 0)
def HX7_sumOfDearest_20 (E : aE) (P : Int32 → hI_ → hJ_ → Prop) (v1 : Int32) (v2 : Int32) (v3 : Int32) (v4 : Int32) (v5 : Int32) (v6 : Int32) (v7 : Int32) (I : hI_) (J : hJ_) : Prop := V E mX7_sumOfDearest (kI SH P) 20 [.ref 29, .int v1, .int v2, .int v3, .int v4, .int v5, .int v6, .int v7] [] (SH, I, J) (0, 0)
set_option maxHeartbeats 4000000 in
set_option maxRecDepth 20000 in
theorem wX7_sumOfDearest {E : aE} {P : Int32 → hI_ → hJ_ → Prop} {I : hI_} {J : hJ_} {a0 : Int32} {a1 : Int32} (k : HX7_sumOfDearest_8 E P a0 a1 (0 : Int32) (0 : Int32) (0 : Int32) I J) : CallI E mX7_sumOfDearest [.ref 29, .int a0, .int a1] SH I J P := by
  refine Call_of (L := [.ref 29, .int a0, .int a1, .retAddr 0, .retAddr 0, .retAddr 0, .retAddr 0, .retAddr 0]) ok_X7_sumOfDearest.1 rfl rfl ?_
  refine V_iconst (v := (0 : Int32)) dX7_sumOfDearest_0 rfl ?_
  refine U_istore_n (L2 := [.ref 29, .int a0, .int a1, .int (0 : Int32), .retAddr 0, .retAddr 0, .retAddr 0, .retAddr 0]) dX7_sumOfDearest_1 (by decide) rfl ?_
  refine V_iconst (v := (0 : Int32)) dX7_sumOfDearest_2 rfl ?_
  refine U_istore (L2 := [.ref 29, .int a0, .int a1, .int (0 : Int32), .int (0 : Int32), .retAddr 0, .retAddr 0, .retAddr 0]) dX7_sumOfDearest_3 (by decide) rfl ?_
  refine V_iconst (v := (0 : Int32)) dX7_sumOfDearest_5 rfl ?_
  refine U_istore (L2 := [.ref 29, .int a0, .int a1, .int (0 : Int32), .int (0 : Int32), .int (0 : Int32), .retAddr 0, .retAddr 0]) dX7_sumOfDearest_6 (by decide) rfl ?_
  exact k
set_option maxHeartbeats 4000000 in
set_option maxRecDepth 20000 in
theorem wX7_sumOfDearest_8 {E : aE} {P : Int32 → hI_ → hJ_ → Prop} {I : hI_} {J : hJ_} {v1 : Int32} {v2 : Int32} {v3 : Int32} {v4 : Int32} {v5 : Int32} (k : ((v1 ≤ v5 → P v3 I J) ∧ (¬ (v1 ≤ v5) → HX7_sumOfDearest_20 E P v1 v2 v3 v4 v5 (-1 : Int32) (0 : Int32) I J))) : HX7_sumOfDearest_8 E P v1 v2 v3 v4 v5 I J := by
  show V E mX7_sumOfDearest (kI SH P) 8 [.ref 29, .int v1, .int v2, .int v3, .int v4, .int v5, .retAddr 0, .retAddr 0] [] (SH, I, J) (0, 0)
  refine V_iload dX7_sumOfDearest_8 rfl ?_
  refine V_iload_n dX7_sumOfDearest_10 rfl ?_
  refine V_icmp_ge dX7_sumOfDearest_11 (fun c1 => ?_) (fun c1 => ?_)
  · have k := k.1 c1
    refine V_iload_n dX7_sumOfDearest_105 rfl ?_
    exact V_iret dX7_sumOfDearest_106 ⟨_, rfl, rfl⟩ rfl rfl ⟨_, _, _, rfl, rfl, k⟩
  · have k := k.2 c1
    refine V_iconst (v := (-1 : Int32)) dX7_sumOfDearest_14 rfl ?_
    refine U_istore (L2 := [.ref 29, .int v1, .int v2, .int v3, .int v4, .int v5, .int (-1 : Int32), .retAddr 0]) dX7_sumOfDearest_15 (by decide) rfl ?_
    refine V_iconst (v := (0 : Int32)) dX7_sumOfDearest_17 rfl ?_
    refine U_istore (L2 := [.ref 29, .int v1, .int v2, .int v3, .int v4, .int v5, .int (-1 : Int32), .int (0 : Int32)]) dX7_sumOfDearest_18 (by decide) rfl ?_
    exact k
set_option maxHeartbeats 4000000 in
set_option maxRecDepth 20000 in
theorem wX7_sumOfDearest_20 {E : aE} {P : Int32 → hI_ → hJ_ → Prop} {I : hI_} {J : hJ_} {v1 : Int32} {v2 : Int32} {v3 : Int32} {v4 : Int32} {v5 : Int32} {v6 : Int32} {v7 : Int32} (k : ((v2 ≤ v7 → ((¬ (v6 < (0 : Int32))) → vp_in v6 24) ∧ HX7_sumOfDearest_8 E P v1 v2 (if v6 < (0 : Int32) then v3 else (v3 + (I 32 v6.toNatClampNeg))) (if v6 < (0 : Int32) then v4 else (v4 ||| ((1 : Int32) <<< (v6 &&& 31)))) (v5 + (1 : Int32)) I J) ∧ (¬ (v2 ≤ v7) → (((24 : Int32) ≤ v7 → ((¬ (v6 < (0 : Int32))) → vp_in v6 24) ∧ HX7_sumOfDearest_8 E P v1 v2 (if v6 < (0 : Int32) then v3 else (v3 + (I 32 v6.toNatClampNeg))) (if v6 < (0 : Int32) then v4 else (v4 ||| ((1 : Int32) <<< (v6 &&& 31)))) (v5 + (1 : Int32)) I J) ∧ (¬ ((24 : Int32) ≤ v7) → ((((v4 >>> (v7 &&& 31)) &&& (1 : Int32)) = (0 : Int32)) → (¬ (v6 < (0 : Int32))) → vp_in v7 24) ∧ ((((v4 >>> (v7 &&& 31)) &&& (1 : Int32)) = (0 : Int32)) → (¬ (v6 < (0 : Int32))) → vp_in v6 24) ∧ HX7_sumOfDearest_20 E P v1 v2 v3 v4 v5 (if ¬ ((v4 >>> (v7 &&& 31)) &&& (1 : Int32)) = (0 : Int32) then v6 else (if v6 < (0 : Int32) then v7 else (if (I 32 v7.toNatClampNeg) ≤ (I 32 v6.toNatClampNeg) then v6 else v7))) (v7 + (1 : Int32)) I J))))) : HX7_sumOfDearest_20 E P v1 v2 v3 v4 v5 v6 v7 I J := by
  show V E mX7_sumOfDearest (kI SH P) 20 [.ref 29, .int v1, .int v2, .int v3, .int v4, .int v5, .int v6, .int v7] [] (SH, I, J) (0, 0)
  refine V_iload dX7_sumOfDearest_20 rfl ?_
  refine V_iload_n dX7_sumOfDearest_22 rfl ?_
  refine V_icmp_ge dX7_sumOfDearest_23 (fun c1 => ?_) (fun c1 => ?_)
  · have k := k.1 c1
    refine V_iload dX7_sumOfDearest_75 rfl ?_
    obtain ⟨hc2006, k⟩ := k
    have key2 : ∀ (y2004 : Int32) (y2005 : Int32), y2004 = (if v6 < (0 : Int32) then v3 else (v3 + (I 32 v6.toNatClampNeg))) → y2005 = (if v6 < (0 : Int32) then v4 else (v4 ||| ((1 : Int32) <<< (v6 &&& 31)))) → V E mX7_sumOfDearest (kI SH P) 99 [.ref 29, .int v1, .int v2, .int y2004, .int y2005, .int v5, .int v6, .int v7] [] (SH, I, J) (0, 0) := by
      intro y2004 y2005 ey2004 ey2005
      subst ey2004
      subst ey2005
      refine U_iinc (v := v5 + (1 : Int32)) (L2 := [.ref 29, .int v1, .int v2, .int (if v6 < (0 : Int32) then v3 else (v3 + (I 32 v6.toNatClampNeg))), .int (if v6 < (0 : Int32) then v4 else (v4 ||| ((1 : Int32) <<< (v6 &&& 31)))), .int (v5 + (1 : Int32)), .int v6, .int v7]) dX7_sumOfDearest_99 (by decide) rfl rfl rfl ?_
      refine V_goto dX7_sumOfDearest_102 ?_
      exact V_wk (wk_eq (wk_eq (wk_eq (wk_eq (wk_eq (wk_eq (wk_j (wk_j (wk_nil))))))))) k
    refine V_if_lt dX7_sumOfDearest_77 (fun c2007 => ?_) (fun c2007 => ?_)
    · exact key2 _ _ (by rw [if_pos c2007]) (by rw [if_pos c2007])
    · refine V_iload dX7_sumOfDearest_80 rfl ?_
      refine V_iconst (v := (1 : Int32)) dX7_sumOfDearest_82 rfl ?_
      refine V_iload dX7_sumOfDearest_83 rfl ?_
      refine V_ishl dX7_sumOfDearest_85 ?_
      refine V_ior dX7_sumOfDearest_86 ?_
      refine U_istore (L2 := [.ref 29, .int v1, .int v2, .int v3, .int (v4 ||| ((1 : Int32) <<< (v6 &&& 31))), .int v5, .int v6, .int v7]) dX7_sumOfDearest_87 (by decide) rfl ?_
      refine V_iload_n dX7_sumOfDearest_89 rfl ?_
      refine V_aload_n dX7_sumOfDearest_90 rfl ?_
      refine U_getR dX7_sumOfDearest_91 fl_X7_18 s_29 rfl ?_
      refine V_iload dX7_sumOfDearest_94 rfl ?_
      have hb2003 := hc2006 c2007
      refine U_iald dX7_sumOfDearest_96 s_32 hb2003 ?_
      refine V_iadd dX7_sumOfDearest_97 ?_
      refine U_istore_n (L2 := [.ref 29, .int v1, .int v2, .int (v3 + (I 32 v6.toNatClampNeg)), .int (v4 ||| ((1 : Int32) <<< (v6 &&& 31))), .int v5, .int v6, .int v7]) dX7_sumOfDearest_98 (by decide) rfl ?_
      exact key2 _ _ (by rw [if_neg c2007]) (by rw [if_neg c2007])
  · have k := k.2 c1
    refine V_iload dX7_sumOfDearest_26 rfl ?_
    refine V_bipush (v := (24 : Int32)) dX7_sumOfDearest_28 rfl ?_
    refine V_icmp_ge dX7_sumOfDearest_30 (fun c2008 => ?_) (fun c2008 => ?_)
    · have k := k.1 c2008
      refine V_iload dX7_sumOfDearest_75 rfl ?_
      obtain ⟨hc4013, k⟩ := k
      have key2009 : ∀ (y4011 : Int32) (y4012 : Int32), y4011 = (if v6 < (0 : Int32) then v3 else (v3 + (I 32 v6.toNatClampNeg))) → y4012 = (if v6 < (0 : Int32) then v4 else (v4 ||| ((1 : Int32) <<< (v6 &&& 31)))) → V E mX7_sumOfDearest (kI SH P) 99 [.ref 29, .int v1, .int v2, .int y4011, .int y4012, .int v5, .int v6, .int v7] [] (SH, I, J) (0, 0) := by
        intro y4011 y4012 ey4011 ey4012
        subst ey4011
        subst ey4012
        refine U_iinc (v := v5 + (1 : Int32)) (L2 := [.ref 29, .int v1, .int v2, .int (if v6 < (0 : Int32) then v3 else (v3 + (I 32 v6.toNatClampNeg))), .int (if v6 < (0 : Int32) then v4 else (v4 ||| ((1 : Int32) <<< (v6 &&& 31)))), .int (v5 + (1 : Int32)), .int v6, .int v7]) dX7_sumOfDearest_99 (by decide) rfl rfl rfl ?_
        refine V_goto dX7_sumOfDearest_102 ?_
        exact V_wk (wk_eq (wk_eq (wk_eq (wk_eq (wk_eq (wk_eq (wk_j (wk_j (wk_nil))))))))) k
      refine V_if_lt dX7_sumOfDearest_77 (fun c4014 => ?_) (fun c4014 => ?_)
      · exact key2009 _ _ (by rw [if_pos c4014]) (by rw [if_pos c4014])
      · refine V_iload dX7_sumOfDearest_80 rfl ?_
        refine V_iconst (v := (1 : Int32)) dX7_sumOfDearest_82 rfl ?_
        refine V_iload dX7_sumOfDearest_83 rfl ?_
        refine V_ishl dX7_sumOfDearest_85 ?_
        refine V_ior dX7_sumOfDearest_86 ?_
        refine U_istore (L2 := [.ref 29, .int v1, .int v2, .int v3, .int (v4 ||| ((1 : Int32) <<< (v6 &&& 31))), .int v5, .int v6, .int v7]) dX7_sumOfDearest_87 (by decide) rfl ?_
        refine V_iload_n dX7_sumOfDearest_89 rfl ?_
        refine V_aload_n dX7_sumOfDearest_90 rfl ?_
        refine U_getR dX7_sumOfDearest_91 fl_X7_18 s_29 rfl ?_
        refine V_iload dX7_sumOfDearest_94 rfl ?_
        have hb4010 := hc4013 c4014
        refine U_iald dX7_sumOfDearest_96 s_32 hb4010 ?_
        refine V_iadd dX7_sumOfDearest_97 ?_
        refine U_istore_n (L2 := [.ref 29, .int v1, .int v2, .int (v3 + (I 32 v6.toNatClampNeg)), .int (v4 ||| ((1 : Int32) <<< (v6 &&& 31))), .int v5, .int v6, .int v7]) dX7_sumOfDearest_98 (by decide) rfl ?_
        exact key2009 _ _ (by rw [if_neg c4014]) (by rw [if_neg c4014])
    · have k := k.2 c2008
      refine V_iload dX7_sumOfDearest_33 rfl ?_
      refine V_iload dX7_sumOfDearest_35 rfl ?_
      refine V_ishr dX7_sumOfDearest_37 ?_
      refine V_iconst (v := (1 : Int32)) dX7_sumOfDearest_38 rfl ?_
      refine V_iand dX7_sumOfDearest_39 ?_
      obtain ⟨hc6019, hc6020, k⟩ := k
      have key4015 : ∀ (y6018 : Int32), y6018 = (if ¬ ((v4 >>> (v7 &&& 31)) &&& (1 : Int32)) = (0 : Int32) then v6 else (if v6 < (0 : Int32) then v7 else (if (I 32 v7.toNatClampNeg) ≤ (I 32 v6.toNatClampNeg) then v6 else v7))) → V E mX7_sumOfDearest (kI SH P) 69 [.ref 29, .int v1, .int v2, .int v3, .int v4, .int v5, .int y6018, .int v7] [] (SH, I, J) (0, 0) := by
        intro y6018 ey6018
        subst ey6018
        refine U_iinc (v := v7 + (1 : Int32)) (L2 := [.ref 29, .int v1, .int v2, .int v3, .int v4, .int v5, .int (if ¬ ((v4 >>> (v7 &&& 31)) &&& (1 : Int32)) = (0 : Int32) then v6 else (if v6 < (0 : Int32) then v7 else (if (I 32 v7.toNatClampNeg) ≤ (I 32 v6.toNatClampNeg) then v6 else v7))), .int (v7 + (1 : Int32))]) dX7_sumOfDearest_69 (by decide) rfl rfl rfl ?_
        refine V_goto dX7_sumOfDearest_72 ?_
        exact k
      refine V_if_ne dX7_sumOfDearest_40 (fun c6021 => ?_) (fun c6021 => ?_)
      · exact key4015 _ (by rw [if_pos c6021])
      · refine V_iload dX7_sumOfDearest_43 rfl ?_
        refine V_if_lt dX7_sumOfDearest_45 (fun c6022 => ?_) (fun c6022 => ?_)
        · refine V_iload dX7_sumOfDearest_65 rfl ?_
          refine U_istore (L2 := [.ref 29, .int v1, .int v2, .int v3, .int v4, .int v5, .int v7, .int v7]) dX7_sumOfDearest_67 (by decide) rfl ?_
          exact key4015 _ (by rw [if_neg (not_not_intro c6021), if_pos c6022])
        · refine V_aload_n dX7_sumOfDearest_48 rfl ?_
          refine U_getR dX7_sumOfDearest_49 fl_X7_18 s_29 rfl ?_
          refine V_iload dX7_sumOfDearest_52 rfl ?_
          have hb6016 := hc6019 c6021 c6022
          refine U_iald dX7_sumOfDearest_54 s_32 hb6016 ?_
          refine V_aload_n dX7_sumOfDearest_55 rfl ?_
          refine U_getR dX7_sumOfDearest_56 fl_X7_18 s_29 rfl ?_
          refine V_iload dX7_sumOfDearest_59 rfl ?_
          have hb6017 := hc6020 c6021 c6022
          refine U_iald dX7_sumOfDearest_61 s_32 hb6017 ?_
          refine V_icmp_le dX7_sumOfDearest_62 (fun c6023 => ?_) (fun c6023 => ?_)
          · exact key4015 _ (by rw [if_neg (not_not_intro c6021), if_neg c6022, if_pos c6023])
          · refine V_iload dX7_sumOfDearest_65 rfl ?_
            refine U_istore (L2 := [.ref 29, .int v1, .int v2, .int v3, .int v4, .int v5, .int v7, .int v7]) dX7_sumOfDearest_67 (by decide) rfl ?_
            exact key4015 _ (by rw [if_neg (not_not_intro c6021), if_neg c6022, if_neg c6023])
theorem dearI_loop {E : aE} {P : Int32 → hI_ → hJ_ → Prop} {I : hI_} {J : hJ_} {x : Nat → Int} {N d n i : Nat} {s v4 : Int32} {U : Nat → Bool} (h32 : ∀ e, e < N → I 32 e = Int32.ofInt (x e)) (hx : ∀ e, -98901 ≤ x e ∧ x e ≤ 98901) (hN : N ≤ 24) (hd : d ≤ N) (hU : ∀ e, e < 24 → tb v4 e = U e) (k : HX7_sumOfDearest_8 E P (nI n) (nI d) (if enX (bg x (fun e => !U e) d) < 0 then s else s + I 32 (enX (bg x (fun e => !U e) d)).toNatClampNeg) (if enX (bg x (fun e => !U e) d) < 0 then v4 else v4 ||| (1 <<< (enX (bg x (fun e => !U e) d) &&& 31))) (nI (i + 1)) I J) : ∀ (m e : Nat), e + m = d → HX7_sumOfDearest_20 E P (nI n) (nI d) s v4 (nI i) (enX (bg x (fun e => !U e) e)) (nI e) I J
  | 0, e, he => by
    have e0 : e = d := by omega
    subst e0
    refine wX7_sumOfDearest_20 ⟨fun _ => ⟨fun z => ?_, ?_⟩, fun z => absurd (nI_le (Nat.le_refl _) (by omega)) z⟩
    · cases q : bg x (fun e => !U e) e with
      | none => rw [q] at z; exact absurd (by decide) z
      | some b =>
        have := ((bg_ok e).2 b q).1
        exact vp_in_nI (by omega) (by omega)
    · rw [nI_1 i]; exact k
  | m + 1, e, he => by
    have rc := dearI_loop h32 hx hN hd hU k m (e + 1) (by omega)
    have ve : vp_in (nI e) 24 := vp_in_nI (by omega) (by omega)
    have ti := tb_is (v := v4) (d := e) (by omega)
    rw [hU e (by omega)] at ti
    refine wX7_sumOfDearest_20 ⟨fun z => absurd z (nI_ge (by omega) (by omega)), fun _ => ⟨fun z => absurd z (nI_ge (b := 24) (by omega) (by omega)), fun _ => ⟨fun _ _ => ve, fun _ z => ?_, ?_⟩⟩⟩
    · cases q : bg x (fun e => !U e) e with
      | none => rw [q] at z; exact absurd (by decide) z
      | some b =>
        have := ((bg_ok e).2 b q).1
        exact vp_in_nI (by omega) (by omega)
    · rw [nI_1 e]
      rw [bg_s] at rc
      by_cases u : U e = true
      · rw [if_pos (show ¬ ((v4 >>> (nI e &&& 31)) &&& 1) = 0 from fun y => by rw [ti.mp y] at u; cases u)]
        rw [u, if_neg (by decide)] at rc
        exact rc
      · have u' : U e = false := Bool.eq_false_iff.mpr u
        rw [if_neg (show ¬ ¬ ((v4 >>> (nI e &&& 31)) &&& 1) = 0 from fun y => y (ti.mpr u'))]
        rw [u', if_pos (by decide)] at rc
        cases q : bg x (fun e => !U e) e with
        | none =>
          rw [q] at rc
          rw [if_pos (show enX none < 0 by decide)]
          exact rc
        | some b =>
          have hb := ((bg_ok e).2 b q).1
          rw [q] at rc
          rw [if_neg (show ¬ enX (some b) < 0 from nI_pos (by omega)), nI_clamp (by omega), show (enX (some b)).toNatClampNeg = b from nI_clamp (by omega), h32 e (by omega), h32 b (by omega)]
          have hxe := hx e
          have hxb := hx b
          have ol := oI_le (a := x e) (b := x b) (by omega) (by omega)
          unfold bgP at rc
          dsimp only at rc
          by_cases y : x e ≤ x b
          · rw [if_pos y] at rc
            rw [if_pos (ol.mpr y)]; exact rc
          · rw [if_neg y] at rc
            rw [if_neg (fun w => y (ol.mp w))]; exact rc
def topX (x : Nat → Int) (d i : Nat) (U : Nat → Bool) : Prop := cntB U d ≤ i ∧ (cntB U d = i ∨ ∀ v, v < d → U v = true) ∧ ∃ t, (∀ u, u < d → U u = true → t ≤ x u) ∧ ∀ v, v < d → U v = false → x v ≤ t
theorem dearO_loop {E : aE} {P : Int32 → hI_ → hJ_ → Prop} {I : hI_} {J : hJ_} {x : Nat → Int} {N d n : Nat} (h32 : ∀ e, e < N → I 32 e = Int32.ofInt (x e)) (hx : ∀ e, -98901 ≤ x e ∧ x e ≤ 98901) (hN : N ≤ 24) (hd : d ≤ N) (hn : n ≤ 24) (k : ∀ s : Int, (s = gG x d n ∨ (s ≤ gG x d n ∧ 1 ≤ n ∧ gG x d (n - 1) = gG x d n)) → -2373624 ≤ s → s ≤ 2373624 → P (Int32.ofInt s) I J) : ∀ (m i : Nat) (v4 : Int32) (U : Nat → Bool), i + m = n → (∀ e, e < 24 → tb v4 e = U e) → topX x d i U → HX7_sumOfDearest_8 E P (nI n) (nI d) (Int32.ofInt (sel x U d)) v4 (nI i) I J
  | 0, i, v4, U, hi, hU, ⟨t1, t2, t, t3, t4⟩ => by
    have e : i = n := by omega
    subst e
    have sb := sel_b (U := U) hx d
    refine wX7_sumOfDearest_8 ⟨fun _ => k _ (dear_or t3 t4 t1 t2) (by omega) (by omega), fun z => absurd (nI_le (Nat.le_refl _) (by omega)) z⟩
  | m + 1, i, v4, U, hi, hU, ⟨t1, t2, t, t3, t4⟩ => by
    refine wX7_sumOfDearest_8 ⟨fun z => absurd z (nI_ge (by omega) (by omega)), fun _ => ?_⟩
    refine dearI_loop h32 hx hN hd hU ?_ d 0 (by omega)
    obtain ⟨b1, b2⟩ := bg_ok (x := x) (ok := fun e => !U e) d
    cases q : bg x (fun e => !U e) d with
    | none =>
      rw [if_pos (show enX none < 0 by decide), if_pos (show enX none < 0 by decide)]
      have al : ∀ v, v < d → U v = true := fun v hv => by
        have := b1 q v hv
        cases w : U v with
        | true => rfl
        | false => rw [w] at this; cases this
      exact dearO_loop h32 hx hN hd hn k m (i + 1) v4 U (by omega) hU ⟨by omega, Or.inr al, t, t3, t4⟩
    | some b =>
      obtain ⟨b3, b4, b5⟩ := b2 b q
      have ub : U b = false := by
        cases w : U b with
        | false => rfl
        | true => rw [w] at b4; cases b4
      have ci : cntB U d = i := by
        rcases t2 with t2 | t2
        · exact t2
        · rw [t2 b b3] at ub; cases ub
      have ca := cnt_add ub d b3
      rw [if_neg (show ¬ enX (some b) < 0 from nI_pos (by omega)), if_neg (show ¬ enX (some b) < 0 from nI_pos (by omega)), show (enX (some b)).toNatClampNeg = b from nI_clamp (by omega), h32 b (by omega), oI_add, ← sel_add ub d b3]
      refine dearO_loop h32 hx hN hd hn k m (i + 1) _ (adB U b) (by omega) (fun e he => ?_) ⟨by omega, Or.inl (by omega), x b, fun u hu h1 => ?_, fun v hv h1 => ?_⟩
      · show tb (v4 ||| (1 <<< (nI b &&& 31))) e = _
        rw [tb_or (by omega) he, hU e he]
        rfl
      · by_cases w : u = b
        · rw [w]; exact Int.le_refl _
        · rw [adB_o w] at h1
          have := t3 u hu h1
          have := t4 b b3 ub
          omega
      · have w : v ≠ b := fun y => by rw [y, adB_d] at h1; cases h1
        rw [adB_o w] at h1
        exact b5 v hv (by rw [h1]; rfl)
theorem cnt_0 : ∀ d, cntB (fun _ => false) d = 0
  | 0 => rfl
  | d + 1 => by
    have e : cntB (fun _ => false) (d + 1) = cntB (fun _ => false) d + 0 := rfl
    rw [e, cnt_0 d]
theorem sel_0 {x : Nat → Int} : ∀ d, sel x (fun _ => false) d = 0
  | 0 => rfl
  | d + 1 => by
    have e : sel x (fun _ => false) (d + 1) = sel x (fun _ => false) d + 0 := rfl
    rw [e, sel_0 d]; rfl
theorem tX7_sumOfDearest {E : aE} {P : Int32 → hI_ → hJ_ → Prop} {I : hI_} {J : hJ_} {x : Nat → Int} {N d n : Nat} (h32 : ∀ e, e < N → I 32 e = Int32.ofInt (x e)) (hx : ∀ e, -98901 ≤ x e ∧ x e ≤ 98901) (hN : N ≤ 24) (hd : d ≤ N) (hn : n ≤ 24) (k : ∀ s : Int, (s = gG x d n ∨ (s ≤ gG x d n ∧ 1 ≤ n ∧ gG x d (n - 1) = gG x d n)) → -2373624 ≤ s → s ≤ 2373624 → P (Int32.ofInt s) I J) : CallI E mX7_sumOfDearest [.ref 29, .int (nI n), .int (nI d)] SH I J P := by
  have := dearO_loop (E := E) (P := P) h32 hx hN hd hn k n 0 0 (fun _ => false) (by omega) (fun e _ => tb_0 e) ⟨by rw [cnt_0]; exact Nat.le_refl _, Or.inl (cnt_0 d), 98901, fun u _ h => (by cases h), fun v _ _ => (hx v).2⟩
  rw [sel_0] at this
  exact wX7_sumOfDearest this
def HX12_greatest_6 (E : aE) (P : Int32 → hI_ → hJ_ → Prop) (v1 : Int32) (v2 : Int32) (v3 : Int32) (v4 : Int32) (v5 : Int32) (I : hI_) (J : hJ_) : Prop := V E mX12_greatest (kI SH P) 6 [.ref 68, .int v1, .int v2, .int v3, .int v4, .int v5, .retAddr 0, .retAddr 0, .retAddr 0] [] (SH, I, J) (0, 0)
def HX12_greatest_29 (E : aE) (P : Int32 → hI_ → hJ_ → Prop) (v1 : Int32) (v2 : Int32) (v3 : Int32) (v4 : Int32) (v5 : Int32) (I : hI_) (J : hJ_) : Prop := V E mX12_greatest (kI SH P) 29 [.ref 68, .int v1, .int v2, .int v3, .int v4, .int v5, .retAddr 0, .retAddr 0, .retAddr 0] [] (SH, I, J) (0, 0)
def HX12_greatest_42 (E : aE) (P : Int32 → hI_ → hJ_ → Prop) (v1 : Int32) (v2 : Int32) (v3 : Int32) (v4 : Int32) (v5 : Int32) (v6 : Int32) (v7 : Int32) (I : hI_) (J : hJ_) : Prop := V E mX12_greatest (kI SH P) 42 [.ref 68, .int v1, .int v2, .int v3, .int v4, .int v5, .int v6, .int v7, .retAddr 0] [] (SH, I, J) (0, 0)
set_option maxHeartbeats 4000000 in
set_option maxRecDepth 20000 in
theorem wX12_greatest {E : aE} {P : Int32 → hI_ → hJ_ → Prop} {I : hI_} {J : hJ_} {a0 : Int32} {a1 : Int32} {a2 : Int32} (k : HX12_greatest_6 E P a0 a1 a2 (0 : Int32) (0 : Int32) I J) : CallI E mX12_greatest [.ref 68, .int a0, .int a1, .int a2] SH I J P := by
  refine Call_of (L := [.ref 68, .int a0, .int a1, .int a2, .retAddr 0, .retAddr 0, .retAddr 0, .retAddr 0, .retAddr 0]) ok_X12_greatest.1 rfl rfl ?_
  refine V_iconst (v := (0 : Int32)) dX12_greatest_0 rfl ?_
  refine U_istore (L2 := [.ref 68, .int a0, .int a1, .int a2, .int (0 : Int32), .retAddr 0, .retAddr 0, .retAddr 0, .retAddr 0]) dX12_greatest_1 (by decide) rfl ?_
  refine V_iconst (v := (0 : Int32)) dX12_greatest_3 rfl ?_
  refine U_istore (L2 := [.ref 68, .int a0, .int a1, .int a2, .int (0 : Int32), .int (0 : Int32), .retAddr 0, .retAddr 0, .retAddr 0]) dX12_greatest_4 (by decide) rfl ?_
  exact k
set_option maxHeartbeats 4000000 in
set_option maxRecDepth 20000 in
theorem wX12_greatest_6 {E : aE} {P : Int32 → hI_ → hJ_ → Prop} {I : hI_} {J : hJ_} {v1 : Int32} {v2 : Int32} {v3 : Int32} {v4 : Int32} {v5 : Int32} (k : ((v2 ≤ v5 → HX12_greatest_29 E P v1 v2 v3 v4 (0 : Int32) I J) ∧ (¬ (v2 ≤ v5) → (vp_in v5 24) ∧ HX12_greatest_6 E P v1 v2 v3 v4 (v5 + (1 : Int32)) (upI I 86 v5.toNatClampNeg (0 : Int32)) J))) : HX12_greatest_6 E P v1 v2 v3 v4 v5 I J := by
  show V E mX12_greatest (kI SH P) 6 [.ref 68, .int v1, .int v2, .int v3, .int v4, .int v5, .retAddr 0, .retAddr 0, .retAddr 0] [] (SH, I, J) (0, 0)
  refine V_iload dX12_greatest_6 rfl ?_
  refine V_iload_n dX12_greatest_8 rfl ?_
  refine V_icmp_ge dX12_greatest_9 (fun c1 => ?_) (fun c1 => ?_)
  · have k := k.1 c1
    refine V_iconst (v := (0 : Int32)) dX12_greatest_26 rfl ?_
    refine U_istore (L2 := [.ref 68, .int v1, .int v2, .int v3, .int v4, .int (0 : Int32), .retAddr 0, .retAddr 0, .retAddr 0]) dX12_greatest_27 (by decide) rfl ?_
    exact k
  · have k := k.2 c1
    refine V_aload_n dX12_greatest_12 rfl ?_
    refine U_getR dX12_greatest_13 fl_X12_62 s_68 rfl ?_
    refine V_iload dX12_greatest_16 rfl ?_
    refine V_iconst (v := (0 : Int32)) dX12_greatest_18 rfl ?_
    obtain ⟨hb2, k⟩ := k
    refine U_zast dX12_greatest_19 (by decide) s_86 hb2 ?_
    refine U_iinc (v := v5 + (1 : Int32)) (L2 := [.ref 68, .int v1, .int v2, .int v3, .int v4, .int (v5 + (1 : Int32)), .retAddr 0, .retAddr 0, .retAddr 0]) dX12_greatest_20 (by decide) rfl rfl rfl ?_
    refine V_goto dX12_greatest_23 ?_
    exact k
set_option maxHeartbeats 4000000 in
set_option maxRecDepth 20000 in
theorem wX12_greatest_29 {E : aE} {P : Int32 → hI_ → hJ_ → Prop} {I : hI_} {J : hJ_} {v1 : Int32} {v2 : Int32} {v3 : Int32} {v4 : Int32} {v5 : Int32} (k : ((v3 ≤ v5 → P v4 I J) ∧ (¬ (v3 ≤ v5) → HX12_greatest_42 E P v1 v2 v3 v4 v5 (-4 : Int32) (0 : Int32) I J))) : HX12_greatest_29 E P v1 v2 v3 v4 v5 I J := by
  show V E mX12_greatest (kI SH P) 29 [.ref 68, .int v1, .int v2, .int v3, .int v4, .int v5, .retAddr 0, .retAddr 0, .retAddr 0] [] (SH, I, J) (0, 0)
  refine V_iload dX12_greatest_29 rfl ?_
  refine V_iload_n dX12_greatest_31 rfl ?_
  refine V_icmp_ge dX12_greatest_32 (fun c1 => ?_) (fun c1 => ?_)
  · have k := k.1 c1
    refine V_iload dX12_greatest_165 rfl ?_
    exact V_iret dX12_greatest_167 ⟨_, rfl, rfl⟩ rfl rfl ⟨_, _, _, rfl, rfl, k⟩
  · have k := k.2 c1
    refine V_bipush (v := (-4 : Int32)) dX12_greatest_35 rfl ?_
    refine U_istore (L2 := [.ref 68, .int v1, .int v2, .int v3, .int v4, .int v5, .int (-4 : Int32), .retAddr 0, .retAddr 0]) dX12_greatest_37 (by decide) rfl ?_
    refine V_iconst (v := (0 : Int32)) dX12_greatest_39 rfl ?_
    refine U_istore (L2 := [.ref 68, .int v1, .int v2, .int v3, .int v4, .int v5, .int (-4 : Int32), .int (0 : Int32), .retAddr 0]) dX12_greatest_40 (by decide) rfl ?_
    exact k
set_option maxHeartbeats 4000000 in
set_option maxRecDepth 20000 in
theorem wX12_greatest_42 {E : aE} {P : Int32 → hI_ → hJ_ → Prop} {I : hI_} {J : hJ_} {v1 : Int32} {v2 : Int32} {v3 : Int32} {v4 : Int32} {v5 : Int32} {v6 : Int32} {v7 : Int32} (k : ((v2 ≤ v7 → ((v6 = (-4 : Int32) → HX12_greatest_29 E P v1 v2 v3 v4 (v5 + (1 : Int32)) I J) ∧ (¬ (v6 = (-4 : Int32)) → CallI E mX12_pays [.ref 68, .int v1, .int v6] SH I J (fun x3 I4 J5 => (vp_in v6 24) ∧ HX12_greatest_29 E P v1 v2 v3 (v4 + x3) (v5 + (1 : Int32)) (upI I4 86 v6.toNatClampNeg (1 : Int32)) J5)))) ∧ (¬ (v2 ≤ v7) → (vp_in v7 24) ∧ ((¬ (I 86 v7.toNatClampNeg) = (0 : Int32) → HX12_greatest_42 E P v1 v2 v3 v4 v5 v6 (v7 + (1 : Int32)) I J) ∧ ((I 86 v7.toNatClampNeg) = (0 : Int32) → (vp_in v7 24) ∧ (((999 : Int32) < (I 83 v7.toNatClampNeg) → HX12_greatest_42 E P v1 v2 v3 v4 v5 v6 (v7 + (1 : Int32)) I J) ∧ (¬ ((999 : Int32) < (I 83 v7.toNatClampNeg)) → CallI E mX12_pays [.ref 68, .int v1, .int v7] SH I J (fun x11 I12 J13 => ((¬ (¬ (x11 ≤ (0 : Int32))) → HX12_greatest_42 E P v1 v2 v3 v4 v5 v6 (v7 + (1 : Int32)) I12 J13) ∧ ((¬ (x11 ≤ (0 : Int32))) → ((v6 = (-4 : Int32) → HX12_greatest_42 E P v1 v2 v3 v4 v5 v7 (v7 + (1 : Int32)) I12 J13) ∧ (¬ (v6 = (-4 : Int32)) → CallI E mX12_pays [.ref 68, .int v1, .int v7] SH I12 J13 (fun x2018 I2019 J2020 => CallI E mX12_pays [.ref 68, .int v1, .int v6] SH I2019 J2020 (fun x2021 I2022 J2023 => HX12_greatest_42 E P v1 v2 v3 v4 v5 (if x2018 ≤ x2021 then v6 else v7) (v7 + (1 : Int32)) I2022 J2023)))))))))))))) : HX12_greatest_42 E P v1 v2 v3 v4 v5 v6 v7 I J := by
  show V E mX12_greatest (kI SH P) 42 [.ref 68, .int v1, .int v2, .int v3, .int v4, .int v5, .int v6, .int v7, .retAddr 0] [] (SH, I, J) (0, 0)
  refine V_iload dX12_greatest_42 rfl ?_
  refine V_iload_n dX12_greatest_44 rfl ?_
  refine V_icmp_ge dX12_greatest_45 (fun c1 => ?_) (fun c1 => ?_)
  · have k := k.1 c1
    refine V_iload dX12_greatest_132 rfl ?_
    refine V_bipush (v := (-4 : Int32)) dX12_greatest_134 rfl ?_
    refine V_icmp_eq dX12_greatest_136 (fun c2 => ?_) (fun c2 => ?_)
    · have k := k.1 c2
      refine U_iinc (v := v5 + (1 : Int32)) (L2 := [.ref 68, .int v1, .int v2, .int v3, .int v4, .int (v5 + (1 : Int32)), .int v6, .int v7, .retAddr 0]) dX12_greatest_159 (by decide) rfl rfl rfl ?_
      refine V_goto dX12_greatest_162 ?_
      exact V_wk (wk_eq (wk_eq (wk_eq (wk_eq (wk_eq (wk_eq (wk_j (wk_j (wk_j (wk_nil)))))))))) k
    · have k := k.2 c2
      refine V_iload dX12_greatest_139 rfl ?_
      refine V_aload_n dX12_greatest_141 rfl ?_
      refine V_iload_n dX12_greatest_142 rfl ?_
      refine V_iload dX12_greatest_143 rfl ?_
      refine U_callV1 [.int v1, .int v6] dX12_greatest_145 ov_X12_245 s_68 rfl ⟨rfl, rfl, rfl⟩ rfl rfl rfl (CallI_mono k (fun x3 I4 J5 k => ?_))
      refine V_iadd dX12_greatest_148 ?_
      refine U_istore (L2 := [.ref 68, .int v1, .int v2, .int v3, .int (v4 + x3), .int v5, .int v6, .int v7, .retAddr 0]) dX12_greatest_149 (by decide) rfl ?_
      refine V_aload_n dX12_greatest_151 rfl ?_
      refine U_getR dX12_greatest_152 fl_X12_62 s_68 rfl ?_
      refine V_iload dX12_greatest_155 rfl ?_
      refine V_iconst (v := (1 : Int32)) dX12_greatest_157 rfl ?_
      obtain ⟨hb6, k⟩ := k
      refine U_zast dX12_greatest_158 (by decide) s_86 hb6 ?_
      refine U_iinc (v := v5 + (1 : Int32)) (L2 := [.ref 68, .int v1, .int v2, .int v3, .int (v4 + x3), .int (v5 + (1 : Int32)), .int v6, .int v7, .retAddr 0]) dX12_greatest_159 (by decide) rfl rfl rfl ?_
      refine V_goto dX12_greatest_162 ?_
      exact V_wk (wk_eq (wk_eq (wk_eq (wk_eq (wk_eq (wk_eq (wk_j (wk_j (wk_j (wk_nil)))))))))) k
  · have k := k.2 c1
    refine V_aload_n dX12_greatest_48 rfl ?_
    refine U_getR dX12_greatest_49 fl_X12_62 s_68 rfl ?_
    refine V_iload dX12_greatest_52 rfl ?_
    obtain ⟨hb7, k⟩ := k
    refine U_zald dX12_greatest_54 s_86 hb7 ?_
    refine V_if_ne dX12_greatest_55 (fun c8 => ?_) (fun c8 => ?_)
    · have k := k.1 c8
      refine V_iconst (v := (0 : Int32)) dX12_greatest_85 rfl ?_
      refine U_istore (L2 := [.ref 68, .int v1, .int v2, .int v3, .int v4, .int v5, .int v6, .int v7, .int (0 : Int32)]) dX12_greatest_86 (by decide) rfl ?_
      refine V_iload dX12_greatest_88 rfl ?_
      refine V_if_eq dX12_greatest_90 (fun _ => ?_) (fun q => absurd q (by decide))
      refine V_iload dX12_greatest_122 rfl ?_
      refine U_istore (L2 := [.ref 68, .int v1, .int v2, .int v3, .int v4, .int v5, .int v6, .int v7, .int (0 : Int32)]) dX12_greatest_124 (by decide) rfl ?_
      refine U_iinc (v := v7 + (1 : Int32)) (L2 := [.ref 68, .int v1, .int v2, .int v3, .int v4, .int v5, .int v6, .int (v7 + (1 : Int32)), .int (0 : Int32)]) dX12_greatest_126 (by decide) rfl rfl rfl ?_
      refine V_goto dX12_greatest_129 ?_
      exact V_wk (wk_eq (wk_eq (wk_eq (wk_eq (wk_eq (wk_eq (wk_eq (wk_eq (wk_j (wk_nil)))))))))) k
    · have k := k.2 c8
      refine V_aload_n dX12_greatest_58 rfl ?_
      refine U_getR dX12_greatest_59 fl_X12_52 s_68 rfl ?_
      refine V_iload dX12_greatest_62 rfl ?_
      obtain ⟨hb9, k⟩ := k
      refine U_iald dX12_greatest_64 s_83 hb9 ?_
      refine V_sipush (v := (999 : Int32)) dX12_greatest_65 rfl ?_
      refine V_icmp_gt dX12_greatest_68 (fun c10 => ?_) (fun c10 => ?_)
      · have k := k.1 c10
        refine V_iconst (v := (0 : Int32)) dX12_greatest_85 rfl ?_
        refine U_istore (L2 := [.ref 68, .int v1, .int v2, .int v3, .int v4, .int v5, .int v6, .int v7, .int (0 : Int32)]) dX12_greatest_86 (by decide) rfl ?_
        refine V_iload dX12_greatest_88 rfl ?_
        refine V_if_eq dX12_greatest_90 (fun _ => ?_) (fun q => absurd q (by decide))
        refine V_iload dX12_greatest_122 rfl ?_
        refine U_istore (L2 := [.ref 68, .int v1, .int v2, .int v3, .int v4, .int v5, .int v6, .int v7, .int (0 : Int32)]) dX12_greatest_124 (by decide) rfl ?_
        refine U_iinc (v := v7 + (1 : Int32)) (L2 := [.ref 68, .int v1, .int v2, .int v3, .int v4, .int v5, .int v6, .int (v7 + (1 : Int32)), .int (0 : Int32)]) dX12_greatest_126 (by decide) rfl rfl rfl ?_
        refine V_goto dX12_greatest_129 ?_
        exact V_wk (wk_eq (wk_eq (wk_eq (wk_eq (wk_eq (wk_eq (wk_eq (wk_eq (wk_j (wk_nil)))))))))) k
      · have k := k.2 c10
        refine V_aload_n dX12_greatest_71 rfl ?_
        refine V_iload_n dX12_greatest_72 rfl ?_
        refine V_iload dX12_greatest_73 rfl ?_
        refine U_callV1 [.int v1, .int v7] dX12_greatest_75 ov_X12_245 s_68 rfl ⟨rfl, rfl, rfl⟩ rfl rfl rfl (CallI_mono k (fun x11 I12 J13 k => ?_))
        have key14 : ∀ (y2015 : Int32), y2015 = (b2i (¬ (x11 ≤ (0 : Int32)))) → V E mX12_greatest (kI SH P) 86 [.ref 68, .int v1, .int v2, .int v3, .int v4, .int v5, .int v6, .int v7, .retAddr 0] [.int y2015] (SH, I12, J13) (0, 0) := by
          intro y2015 ey2015
          subst ey2015
          refine U_istore (L2 := [.ref 68, .int v1, .int v2, .int v3, .int v4, .int v5, .int v6, .int v7, .int (b2i (¬ (x11 ≤ (0 : Int32))))]) dX12_greatest_86 (by decide) rfl ?_
          refine V_iload dX12_greatest_88 rfl ?_
          refine U_ifb_eq dX12_greatest_90 (fun c2016 => ?_) (fun c2016 => ?_)
          · have k := k.1 c2016
            refine V_iload dX12_greatest_122 rfl ?_
            refine U_istore (L2 := [.ref 68, .int v1, .int v2, .int v3, .int v4, .int v5, .int v6, .int v7, .int (b2i (¬ (x11 ≤ (0 : Int32))))]) dX12_greatest_124 (by decide) rfl ?_
            refine U_iinc (v := v7 + (1 : Int32)) (L2 := [.ref 68, .int v1, .int v2, .int v3, .int v4, .int v5, .int v6, .int (v7 + (1 : Int32)), .int (b2i (¬ (x11 ≤ (0 : Int32))))]) dX12_greatest_126 (by decide) rfl rfl rfl ?_
            refine V_goto dX12_greatest_129 ?_
            exact V_wk (wk_eq (wk_eq (wk_eq (wk_eq (wk_eq (wk_eq (wk_eq (wk_eq (wk_j (wk_nil)))))))))) k
          · have k := k.2 c2016
            refine V_iload dX12_greatest_93 rfl ?_
            refine V_bipush (v := (-4 : Int32)) dX12_greatest_95 rfl ?_
            refine V_icmp_eq dX12_greatest_97 (fun c2017 => ?_) (fun c2017 => ?_)
            · have k := k.1 c2017
              refine V_iload dX12_greatest_117 rfl ?_
              refine V_goto dX12_greatest_119 ?_
              refine U_istore (L2 := [.ref 68, .int v1, .int v2, .int v3, .int v4, .int v5, .int v7, .int v7, .int (b2i (¬ (x11 ≤ (0 : Int32))))]) dX12_greatest_124 (by decide) rfl ?_
              refine U_iinc (v := v7 + (1 : Int32)) (L2 := [.ref 68, .int v1, .int v2, .int v3, .int v4, .int v5, .int v7, .int (v7 + (1 : Int32)), .int (b2i (¬ (x11 ≤ (0 : Int32))))]) dX12_greatest_126 (by decide) rfl rfl rfl ?_
              refine V_goto dX12_greatest_129 ?_
              exact V_wk (wk_eq (wk_eq (wk_eq (wk_eq (wk_eq (wk_eq (wk_eq (wk_eq (wk_j (wk_nil)))))))))) k
            · have k := k.2 c2017
              refine V_aload_n dX12_greatest_100 rfl ?_
              refine V_iload_n dX12_greatest_101 rfl ?_
              refine V_iload dX12_greatest_102 rfl ?_
              refine U_callV1 [.int v1, .int v7] dX12_greatest_104 ov_X12_245 s_68 rfl ⟨rfl, rfl, rfl⟩ rfl rfl rfl (CallI_mono k (fun x2018 I2019 J2020 k => ?_))
              refine V_aload_n dX12_greatest_107 rfl ?_
              refine V_iload_n dX12_greatest_108 rfl ?_
              refine V_iload dX12_greatest_109 rfl ?_
              refine U_callV1 [.int v1, .int v6] dX12_greatest_111 ov_X12_245 s_68 rfl ⟨rfl, rfl, rfl⟩ rfl rfl rfl (CallI_mono k (fun x2021 I2022 J2023 k => ?_))
              have key2024 : ∀ (y4025 : Int32), y4025 = (if x2018 ≤ x2021 then v6 else v7) → V E mX12_greatest (kI SH P) 124 [.ref 68, .int v1, .int v2, .int v3, .int v4, .int v5, .int v6, .int v7, .int (b2i (¬ (x11 ≤ (0 : Int32))))] [.int y4025] (SH, I2022, J2023) (0, 0) := by
                intro y4025 ey4025
                subst ey4025
                refine U_istore (L2 := [.ref 68, .int v1, .int v2, .int v3, .int v4, .int v5, .int (if x2018 ≤ x2021 then v6 else v7), .int v7, .int (b2i (¬ (x11 ≤ (0 : Int32))))]) dX12_greatest_124 (by decide) rfl ?_
                refine U_iinc (v := v7 + (1 : Int32)) (L2 := [.ref 68, .int v1, .int v2, .int v3, .int v4, .int v5, .int (if x2018 ≤ x2021 then v6 else v7), .int (v7 + (1 : Int32)), .int (b2i (¬ (x11 ≤ (0 : Int32))))]) dX12_greatest_126 (by decide) rfl rfl rfl ?_
                refine V_goto dX12_greatest_129 ?_
                exact V_wk (wk_eq (wk_eq (wk_eq (wk_eq (wk_eq (wk_eq (wk_eq (wk_eq (wk_j (wk_nil)))))))))) k
              refine V_icmp_le dX12_greatest_114 (fun c4026 => ?_) (fun c4026 => ?_)
              · refine V_iload dX12_greatest_122 rfl ?_
                exact key2024 _ (by rw [if_pos c4026])
              · refine V_iload dX12_greatest_117 rfl ?_
                refine V_goto dX12_greatest_119 ?_
                exact key2024 _ (by rw [if_neg c4026])
        refine V_if_le dX12_greatest_78 (fun c4027 => ?_) (fun c4027 => ?_)
        · refine V_iconst (v := (0 : Int32)) dX12_greatest_85 rfl ?_
          exact key14 _ ((b2i_0.mpr (fun q => q c4027)).symm)
        · refine V_iconst (v := (1 : Int32)) dX12_greatest_81 rfl ?_
          refine V_goto dX12_greatest_82 ?_
          exact key14 _ ((b2i_1.mpr (c4027)).symm)
theorem SM_86 {I0 I : hI_} {g : Nat → Bool} {i : Nat} {v : Int32} (hs : SM I0 I g) : SM I0 (upI I 86 i v) g := by
  refine ⟨agM_tr hs.1 (agM_up rfl (by omega)), fun d hd => ⟨?_, ?_⟩, fun d hd h => ?_⟩
  · rw [upI_at, if_neg (by omega)]; exact (hs.2.1 d hd).1
  · rw [upI_at, if_neg (by omega)]; exact (hs.2.1 d hd).2
  · rw [upI_at, if_neg (by omega)]; exact hs.2.2 d hd h
theorem grI_loop {E : aE} {P : Int32 → hI_ → hJ_ → Prop} {I0 I : hI_} {J : hJ_} {p d n i : Nat} {s : Int32} {U : Nat → Bool} (h : Rel I0) (hs : SM I0 I (fun _ => true)) (hd : d ≤ nD I0) (h86 : ∀ e, e < d → I 86 e = b2i (U e = true)) (k : HX12_greatest_42 E P (nI p) (nI d) (nI n) s (nI i) (enM (bg (xP I0 p) (fun e => !U e && decide (0 < xP I0 p e)) d)) (nI d) I J) : ∀ (m e : Nat), e + m = d → HX12_greatest_42 E P (nI p) (nI d) (nI n) s (nI i) (enM (bg (xP I0 p) (fun e => !U e && decide (0 < xP I0 p e)) e)) (nI e) I J
  | 0, e, he => by
    have e0 : e = d := by omega
    rw [e0]; exact k
  | m + 1, e, he => by
    have hD := (Rel_D h).2.2
    have hen : e < nD I0 := by omega
    have rc := grI_loop h hs hd h86 k m (e + 1) (by omega)
    have ve : vp_in (nI e) 24 := vp_in_nI (by omega) (by omega)
    have ok := deal_ok h hen
    have xe : (py I0 p e).toInt = xP I0 p e := by unfold xP; rw [if_pos hen]
    rw [bg_s] at rc
    have skip : ¬ (!U e && decide (0 < xP I0 p e)) = true → HX12_greatest_42 E P (nI p) (nI d) (nI n) s (nI i) (enM (bg (xP I0 p) (fun e => !U e && decide (0 < xP I0 p e)) e)) (nI (e + 1)) I J := fun z => by
      rw [if_neg z] at rc; exact rc
    refine wX12_greatest_42 ⟨fun z => absurd z (nI_ge (by omega) (by omega)), fun _ => ⟨ve, ?_⟩⟩
    rw [nI_clamp (by omega), h86 e (by omega), (hs.2.1 e hen).1, nI_1 e]
    refine ⟨fun z => skip (fun y => ?_), fun z => ⟨ve, fun z2 => skip (fun y => ?_), fun z2 => tX12_pays h hs hen ⟨fun z3 => skip (fun y => ?_), fun z3 => ?_⟩⟩⟩
    · rw [Bool.and_eq_true] at y
      have u : U e = false := by
        cases w : U e with
        | false => rfl
        | true => rw [w] at y; cases y.1
      rw [u] at z; exact z rfl
    · rw [Bool.and_eq_true] at y
      have y2 := of_decide_eq_true y.2
      have z2 := (nI_ltJ (a := 999) (by omega) (by omega)).mp z2
      have t0 : tk I0 e = 0 := by
        by_cases w : tk I0 e = 0
        · exact w
        · have := tk_999 h hen w; omega
      rw [← xe, py_0 t0] at y2
      exact absurd y2 (by decide)
    · rw [Bool.and_eq_true] at y
      have y2 := of_decide_eq_true y.2
      refine z3 (fun w => ?_)
      have := Int32.le_iff_toInt_le.mp w
      rw [xe] at this
      have z0 : (0 : Int32).toInt = 0 := rfl
      omega
    · have u : U e = false := by
        cases w : U e with
        | false => rfl
        | true => rw [w] at z; exact absurd z (by decide)
      have y2 : 0 < xP I0 p e := by
        rcases Int.lt_or_le 0 (xP I0 p e) with w | w
        · exact w
        · exact absurd (Int32.le_iff_toInt_le.mpr (by rw [xe]; exact w)) z3
      have okk : (!U e && decide (0 < xP I0 p e)) = true := by rw [u, decide_eq_true y2]; rfl
      rw [if_pos okk] at rc
      cases q : bg (xP I0 p) (fun e => !U e && decide (0 < xP I0 p e)) e with
      | none =>
        rw [q] at rc
        exact ⟨fun _ => rc, fun y => absurd rfl y⟩
      | some b =>
        have hb := ((bg_ok e).2 b q).1
        rw [q] at rc
        unfold bgP at rc
        dsimp only at rc
        have xb : (py I0 p b).toInt = xP I0 p b := by unfold xP; rw [if_pos (by omega)]
        refine ⟨fun y => absurd y (neg4_nI (by omega)), fun _ => tX12_pays h hs hen (tX12_pays h hs (d := b) (by omega) ?_)⟩
        by_cases w : xP I0 p e ≤ xP I0 p b
        · rw [if_pos w] at rc
          rw [if_pos (Int32.le_iff_toInt_le.mpr (by rw [xe, xb]; exact w))]
          exact rc
        · rw [if_neg w] at rc
          rw [if_neg (fun v => w (by rw [← xe, ← xb]; exact Int32.le_iff_toInt_le.mp v))]
          exact rc
def topM (x : Nat → Int) (d i : Nat) (U : Nat → Bool) : Prop := cntB U d ≤ i ∧ ∃ t, 0 ≤ t ∧ (∀ u, u < d → U u = true → t ≤ x u ∧ 0 < x u) ∧ (∀ v, v < d → U v = false → x v ≤ t) ∧ (cntB U d = i ∨ t = 0)
theorem grO_loop {E : aE} {P : Int32 → hI_ → hJ_ → Prop} {I0 : hI_} {J : hJ_} {p d n : Nat} (h : Rel I0) (hd : d ≤ nD I0) (hn : n ≤ 24) (k : ∀ I2, SM I0 I2 (fun _ => true) → P (Int32.ofInt (gG (xP I0 p) d n)) I2 J) : ∀ (m i : Nat) (I : hI_) (U : Nat → Bool), i + m = n → SM I0 I (fun _ => true) → (∀ e, e < d → I 86 e = b2i (U e = true)) → topM (xP I0 p) d i U → HX12_greatest_29 E P (nI p) (nI d) (nI n) (Int32.ofInt (sel (xP I0 p) U d)) (nI i) I J
  | 0, i, I, U, hi, hs, h86, ⟨t1, t, t2, t3, t4, t5⟩ => by
    have e : i = n := by omega
    subst e
    rw [top_eq t2 (fun u hu h1 => (t3 u hu h1).1) t4 t1 t5]
    exact wX12_greatest_29 ⟨fun _ => k I hs, fun z => absurd (nI_le (Nat.le_refl _) (by omega)) z⟩
  | m + 1, i, I, U, hi, hs, h86, ⟨t1, t, t2, t3, t4, t5⟩ => by
    have hD := (Rel_D h).2.2
    refine wX12_greatest_29 ⟨fun z => absurd z (nI_ge (by omega) (by omega)), fun _ => ?_⟩
    refine grI_loop h hs hd h86 ?_ d 0 (by omega)
    obtain ⟨b1, b2⟩ := bg_ok (x := xP I0 p) (ok := fun e => !U e && decide (0 < xP I0 p e)) d
    cases q : bg (xP I0 p) (fun e => !U e && decide (0 < xP I0 p e)) d with
    | none =>
      refine wX12_greatest_42 ⟨fun _ => ⟨fun _ => ?_, fun y => absurd rfl y⟩, fun z => absurd (nI_le (Nat.le_refl _) (by omega)) z⟩
      rw [nI_1 i]
      refine grO_loop h hd hn k m (i + 1) I U (by omega) hs h86 ⟨by omega, 0, Int.le_refl _, fun u hu h1 => ⟨by have := (t3 u hu h1).2; omega, (t3 u hu h1).2⟩, fun v hv h1 => ?_, Or.inr rfl⟩
      have := b1 q v hv
      rw [h1] at this
      have := of_decide_eq_false ((Bool.true_and _).symm.trans this)
      omega
    | some b =>
      obtain ⟨b3, b4, b5⟩ := b2 b q
      rw [Bool.and_eq_true] at b4
      have ub : U b = false := by
        cases w : U b with
        | false => rfl
        | true => rw [w] at b4; cases b4.1
      have xb := of_decide_eq_true b4.2
      have ci : cntB U d = i := by
        rcases t5 with t5 | t5
        · exact t5
        · have := t4 b b3 ub; omega
      have ca := cnt_add ub d b3
      refine wX12_greatest_42 ⟨fun _ => ⟨fun y => absurd y (neg4_nI (by omega)), fun _ => tX12_pays h hs (d := b) (by omega) ⟨vp_in_nI (by omega) (by omega), ?_⟩⟩, fun z => absurd (nI_le (Nat.le_refl _) (by omega)) z⟩
      rw [nI_1 i, xP_py (show b < nD I0 by omega), oI_add, ← sel_add ub d b3, show (enM (some b)).toNatClampNeg = b from nI_clamp (by omega)]
      refine grO_loop h hd hn k m (i + 1) _ (adB U b) (by omega) (SM_86 hs) (fun e he => ?_) ⟨by omega, xP I0 p b, by omega, fun u hu h1 => ?_, fun v hv h1 => ?_, Or.inl (by omega)⟩
      · rw [upI_at]
        by_cases w : e = b
        · rw [if_pos ⟨rfl, w⟩, w, adB_d]; rfl
        · rw [if_neg (fun v => w v.2), adB_o w]; exact h86 e he
      · by_cases w : u = b
        · rw [w]; exact ⟨Int.le_refl _, xb⟩
        · rw [adB_o w] at h1
          have := t3 u hu h1
          have := t4 b b3 ub
          omega
      · have w : v ≠ b := fun y => by rw [y, adB_d] at h1; cases h1
        rw [adB_o w] at h1
        rcases Int.lt_or_le 0 (xP I0 p v) with y | y
        · exact b5 v hv (by rw [h1, decide_eq_true y]; rfl)
        · omega
theorem grC_loop {E : aE} {P : Int32 → hI_ → hJ_ → Prop} {I0 : hI_} {J : hJ_} {p d n : Nat} (h : Rel I0) (hd : d ≤ nD I0) (hn : n ≤ 24) (k : ∀ I2, SM I0 I2 (fun _ => true) → P (Int32.ofInt (gG (xP I0 p) d n)) I2 J) : ∀ (m e : Nat) (I : hI_), e + m = d → SM I0 I (fun _ => true) → (∀ j, j < e → I 86 j = 0) → HX12_greatest_6 E P (nI p) (nI d) (nI n) 0 (nI e) I J
  | 0, e, I, he, hs, q => by
    have e0 : e = d := by omega
    have hD := (Rel_D h).2.2
    refine wX12_greatest_6 ⟨fun _ => ?_, fun z => absurd (nI_le (by omega) (by omega)) z⟩
    have := grO_loop (E := E) h hd hn k n 0 I (fun _ => false) (by omega) hs (fun j hj => q j (by omega)) ⟨by rw [cnt_0]; exact Nat.le_refl _, 98901, by decide, fun u _ w => (by cases w), fun v _ _ => (xP_b h p v).2, Or.inl (cnt_0 d)⟩
    rw [sel_0] at this
    exact this
  | m + 1, e, I, he, hs, q => by
    have hD := (Rel_D h).2.2
    refine wX12_greatest_6 ⟨fun z => absurd z (nI_ge (by omega) (by omega)), fun _ => ⟨vp_in_nI (by omega) (by omega), ?_⟩⟩
    rw [nI_1 e, nI_clamp (by omega)]
    refine grC_loop h hd hn k m (e + 1) _ (by omega) (SM_86 hs) (fun j hj => ?_)
    rw [upI_at]
    by_cases w : j = e
    · rw [if_pos ⟨rfl, w⟩]
    · rw [if_neg (fun v => w v.2)]; exact q j (by omega)
theorem tX12_greatest {E : aE} {P : Int32 → hI_ → hJ_ → Prop} {I0 I : hI_} {J : hJ_} {p d n : Nat} (h : Rel I0) (hs : SM I0 I (fun _ => true)) (hd : d ≤ nD I0) (hn : n ≤ 24) (k : ∀ I2, SM I0 I2 (fun _ => true) → P (Int32.ofInt (gG (xP I0 p) d n)) I2 J) : CallI E mX12_greatest [.ref 68, .int (nI p), .int (nI d), .int (nI n)] SH I J P := wX12_greatest (grC_loop h hd hn k d 0 I (by omega) hs (fun j hj => by omega))
