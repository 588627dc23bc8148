theorem b2i_congr {p q : Prop} [Decidable p] [Decidable q] (h : p ↔ q) : b2i p = b2i q := by
  by_cases hp : p
  · rw [b2i_1.mpr hp, b2i_1.mpr (h.mp hp)]
  · rw [b2i_0.mpr hp, b2i_0.mpr (fun z => hp (h.mpr z))]
theorem tab_out {x : Int32} {lo : Int} {n : Nat} (h : ∀ k ∈ List.range n, ¬ x = Int32.ofInt (lo + (k : Int))) (hlo : -2147483648 ≤ lo ∧ lo + n ≤ 2147483648) : x.toInt < lo ∨ lo + n - 1 < x.toInt := by
  rcases Int.lt_or_le x.toInt lo with h1 | h1
  · exact Or.inl h1
  · rcases Int.lt_or_le (lo + n - 1) x.toInt with h2 | h2
    · exact Or.inr h2
    · exfalso
      refine h (x.toInt - lo).toNat (List.mem_range.mpr (by omega)) ?_
      have e : lo + ((x.toInt - lo).toNat : Int) = x.toInt := by omega
      rw [e, Int32.ofInt_toInt]
theorem i64le {x y : Int32} : x.toInt64 ≤ y.toInt64 ↔ x ≤ y := by
  rw [Int64.le_iff_toInt_le, Int32.le_iff_toInt_le, Int32.toInt_toInt64, Int32.toInt_toInt64]
/-- never is none -/
def orN (m : Int32) : Int32 := if 10000 ≤ m then -4 else m
/-- the number of a way -/
def pr (a b : Int32) : Int32 := if b ≤ a then b * 5 + a else a * 5 + b
set_option maxHeartbeats 4000000 in
set_option maxRecDepth 20000 in
theorem wX11_within {E : aE} {P : Int32 → hI_ → hJ_ → Prop} {I : hI_} {J : hJ_} {a0 : Int32} {a1 : Int32} {a2 : Int32} (k : P (b2i ((¬ (a0 < a1)) ∧ (¬ (a2 < a0)))) I J) : CallI E mX11_within [.int a0, .int a1, .int a2] SH I J P := by
  refine Call_of (L := [.int a0, .int a1, .int a2]) ok_X11_within.1 rfl rfl ?_
  refine V_iload_n dX11_within_0 rfl ?_
  refine V_iload_n dX11_within_1 rfl ?_
  have key1 : ∀ (y2002 : Int32), y2002 = (b2i ((¬ (a0 < a1)) ∧ (¬ (a2 < a0)))) → V E mX11_within (kI SH P) 15 [.int a0, .int a1, .int a2] [.int y2002] (SH, I, J) (0, 0) := by
    intro y2002 ey2002
    subst ey2002
    exact V_iret dX11_within_15 ⟨_, rfl, b2i_nar⟩ rfl rfl ⟨_, _, _, rfl, rfl, k⟩
  refine V_icmp_gt dX11_within_2 (fun c2003 => ?_) (fun c2003 => ?_)
  · refine V_iconst (v := (0 : Int32)) dX11_within_14 rfl ?_
    exact key1 _ ((b2i_0.mpr (fun q => q.1 c2003)).symm)
  · refine V_iload_n dX11_within_5 rfl ?_
    refine V_iload_n dX11_within_6 rfl ?_
    refine V_icmp_gt dX11_within_7 (fun c2004 => ?_) (fun c2004 => ?_)
    · refine V_iconst (v := (0 : Int32)) dX11_within_14 rfl ?_
      exact key1 _ ((b2i_0.mpr (fun q => (fun q => q c2004) q.2)).symm)
    · refine V_iconst (v := (1 : Int32)) dX11_within_10 rfl ?_
      refine V_goto dX11_within_11 ?_
      exact key1 _ ((b2i_1.mpr (⟨c2003, c2004⟩)).symm)
theorem tX11_within {E : aE} {P : Int32 → hI_ → hJ_ → Prop} {I : hI_} {J : hJ_} {v lo hi : Int32} (k : P (b2i (lo ≤ v ∧ v ≤ hi)) I J) : CallI E mX11_within [.int v, .int lo, .int hi] SH I J P := by
  refine wX11_within ?_
  rw [b2i_congr (q := lo ≤ v ∧ v ≤ hi) (by simp only [Int32.not_lt])]
  exact k
set_option maxHeartbeats 4000000 in
set_option maxRecDepth 20000 in
theorem wX11_isMinute {E : aE} {P : Int32 → hI_ → hJ_ → Prop} {I : hI_} {J : hJ_} {a0 : Int32} (k : P (b2i ((0 : Int32) ≤ a0 ∧ a0 ≤ (999 : Int32))) I J) : CallI E mX11_isMinute [.int a0] SH I J P := by
  refine Call_of (L := [.int a0]) ok_X11_isMinute.1 rfl rfl ?_
  refine V_iload_n dX11_isMinute_0 rfl ?_
  refine V_iconst (v := (0 : Int32)) dX11_isMinute_1 rfl ?_
  refine V_sipush (v := (999 : Int32)) dX11_isMinute_2 rfl ?_
  refine U_callS1 [.int a0, .int (0 : Int32), .int (999 : Int32)] dX11_isMinute_5 os_X11_104 ⟨rfl, rfl, rfl⟩ rfl rfl rfl (tX11_within ?_)
  exact V_iret dX11_isMinute_8 ⟨_, rfl, b2i_nar⟩ rfl rfl ⟨_, _, _, rfl, rfl, k⟩
theorem tX11_isMinute {E : aE} {P : Int32 → hI_ → hJ_ → Prop} {I : hI_} {J : hJ_} {v : Int32} (k : P (b2i (0 ≤ v ∧ v ≤ 999)) I J) : CallI E mX11_isMinute [.int v] SH I J P := wX11_isMinute k
set_option maxHeartbeats 4000000 in
set_option maxRecDepth 20000 in
theorem wX11_isAge {E : aE} {P : Int32 → hI_ → hJ_ → Prop} {I : hI_} {J : hJ_} {a0 : Int32} (k : P (b2i ((0 : Int32) ≤ a0 ∧ a0 ≤ (12 : Int32))) I J) : CallI E mX11_isAge [.int a0] SH I J P := by
  refine Call_of (L := [.int a0]) ok_X11_isAge.1 rfl rfl ?_
  refine V_iload_n dX11_isAge_0 rfl ?_
  refine V_iconst (v := (0 : Int32)) dX11_isAge_1 rfl ?_
  refine V_bipush (v := (12 : Int32)) dX11_isAge_2 rfl ?_
  refine U_callS1 [.int a0, .int (0 : Int32), .int (12 : Int32)] dX11_isAge_4 os_X11_104 ⟨rfl, rfl, rfl⟩ rfl rfl rfl (tX11_within ?_)
  exact V_iret dX11_isAge_7 ⟨_, rfl, b2i_nar⟩ rfl rfl ⟨_, _, _, rfl, rfl, k⟩
theorem tX11_isAge {E : aE} {P : Int32 → hI_ → hJ_ → Prop} {I : hI_} {J : hJ_} {v : Int32} (k : P (b2i (0 ≤ v ∧ v ≤ 12)) I J) : CallI E mX11_isAge [.int v] SH I J P := wX11_isAge k
set_option maxHeartbeats 4000000 in
set_option maxRecDepth 20000 in
theorem wX11_isSheet {E : aE} {P : Int32 → hI_ → hJ_ → Prop} {I : hI_} {J : hJ_} {a0 : Int32} (k : P (b2i ((0 : Int32) ≤ a0 ∧ a0 ≤ (3 : Int32))) I J) : CallI E mX11_isSheet [.int a0] SH I J P := by
  refine Call_of (L := [.int a0]) ok_X11_isSheet.1 rfl rfl ?_
  refine V_iload_n dX11_isSheet_0 rfl ?_
  refine V_iconst (v := (0 : Int32)) dX11_isSheet_1 rfl ?_
  refine V_iconst (v := (3 : Int32)) dX11_isSheet_2 rfl ?_
  refine U_callS1 [.int a0, .int (0 : Int32), .int (3 : Int32)] dX11_isSheet_3 os_X11_104 ⟨rfl, rfl, rfl⟩ rfl rfl rfl (tX11_within ?_)
  exact V_iret dX11_isSheet_6 ⟨_, rfl, b2i_nar⟩ rfl rfl ⟨_, _, _, rfl, rfl, k⟩
theorem tX11_isSheet {E : aE} {P : Int32 → hI_ → hJ_ → Prop} {I : hI_} {J : hJ_} {v : Int32} (k : P (b2i (0 ≤ v ∧ v ≤ 3)) I J) : CallI E mX11_isSheet [.int v] SH I J P := wX11_isSheet k
set_option maxHeartbeats 4000000 in
set_option maxRecDepth 20000 in
theorem wX11_isLane {E : aE} {P : Int32 → hI_ → hJ_ → Prop} {I : hI_} {J : hJ_} {a0 : Int32} (k : P (b2i ((0 : Int32) ≤ a0 ∧ a0 ≤ (2 : Int32))) I J) : CallI E mX11_isLane [.int a0] SH I J P := by
  refine Call_of (L := [.int a0]) ok_X11_isLane.1 rfl rfl ?_
  refine V_iload_n dX11_isLane_0 rfl ?_
  refine V_iconst (v := (0 : Int32)) dX11_isLane_1 rfl ?_
  refine V_iconst (v := (2 : Int32)) dX11_isLane_2 rfl ?_
  refine U_callS1 [.int a0, .int (0 : Int32), .int (2 : Int32)] dX11_isLane_3 os_X11_104 ⟨rfl, rfl, rfl⟩ rfl rfl rfl (tX11_within ?_)
  exact V_iret dX11_isLane_6 ⟨_, rfl, b2i_nar⟩ rfl rfl ⟨_, _, _, rfl, rfl, k⟩
theorem tX11_isLane {E : aE} {P : Int32 → hI_ → hJ_ → Prop} {I : hI_} {J : hJ_} {v : Int32} (k : P (b2i (0 ≤ v ∧ v ≤ 2)) I J) : CallI E mX11_isLane [.int v] SH I J P := wX11_isLane k
set_option maxHeartbeats 4000000 in
set_option maxRecDepth 20000 in
theorem wX11_isPlace {E : aE} {P : Int32 → hI_ → hJ_ → Prop} {I : hI_} {J : hJ_} {a0 : Int32} (k : P (b2i ((0 : Int32) ≤ a0 ∧ a0 ≤ ((I 3 6) - (1 : Int32)))) I J) : CallI E mX11_isPlace [.ref 0, .int a0] SH I J P := by
  refine Call_of (L := [.ref 0, .int a0]) ok_X11_isPlace.1 rfl rfl ?_
  refine V_iload_n dX11_isPlace_0 rfl ?_
  refine V_iconst (v := (0 : Int32)) dX11_isPlace_1 rfl ?_
  refine V_aload_n dX11_isPlace_2 rfl ?_
  refine U_getR dX11_isPlace_3 fl_X11_19 s_0 rfl ?_
  refine U_getI dX11_isPlace_6 fl_X11_129 s_3 rfl ?_
  refine V_iconst (v := (1 : Int32)) dX11_isPlace_9 rfl ?_
  refine V_isub dX11_isPlace_10 ?_
  refine U_callS1 [.int a0, .int (0 : Int32), .int ((I 3 6) - (1 : Int32))] dX11_isPlace_11 os_X11_104 ⟨rfl, rfl, rfl⟩ rfl rfl rfl (tX11_within ?_)
  exact V_iret dX11_isPlace_14 ⟨_, rfl, b2i_nar⟩ rfl rfl ⟨_, _, _, rfl, rfl, k⟩
theorem tX11_isPlace {E : aE} {P : Int32 → hI_ → hJ_ → Prop} {I : hI_} {J : hJ_} {v : Int32} (k : P (b2i (0 ≤ v ∧ v ≤ I 3 6 - 1)) I J) : CallI E mX11_isPlace [.ref 0, .int v] SH I J P := wX11_isPlace k
set_option maxHeartbeats 4000000 in
set_option maxRecDepth 20000 in
theorem wX11_isCall {E : aE} {P : Int32 → hI_ → hJ_ → Prop} {I : hI_} {J : hJ_} {a0 : Int32} (k : P (b2i ((0 : Int32) ≤ a0 ∧ a0 ≤ ((I 24 3) - (1 : Int32)))) I J) : CallI E mX11_isCall [.ref 0, .int a0] SH I J P := by
  refine Call_of (L := [.ref 0, .int a0]) ok_X11_isCall.1 rfl rfl ?_
  refine V_iload_n dX11_isCall_0 rfl ?_
  refine V_iconst (v := (0 : Int32)) dX11_isCall_1 rfl ?_
  refine V_aload_n dX11_isCall_2 rfl ?_
  refine U_getR dX11_isCall_3 fl_X11_47 s_0 rfl ?_
  refine U_getR dX11_isCall_6 fl_X11_203 s_21 rfl ?_
  refine U_getI dX11_isCall_9 fl_X11_189 s_24 rfl ?_
  refine V_iconst (v := (1 : Int32)) dX11_isCall_12 rfl ?_
  refine V_isub dX11_isCall_13 ?_
  refine U_callS1 [.int a0, .int (0 : Int32), .int ((I 24 3) - (1 : Int32))] dX11_isCall_14 os_X11_104 ⟨rfl, rfl, rfl⟩ rfl rfl rfl (tX11_within ?_)
  exact V_iret dX11_isCall_17 ⟨_, rfl, b2i_nar⟩ rfl rfl ⟨_, _, _, rfl, rfl, k⟩
theorem tX11_isCall {E : aE} {P : Int32 → hI_ → hJ_ → Prop} {I : hI_} {J : hJ_} {v : Int32} (k : P (b2i (0 ≤ v ∧ v ≤ I 24 3 - 1)) I J) : CallI E mX11_isCall [.ref 0, .int v] SH I J P := wX11_isCall k
set_option maxHeartbeats 4000000 in
set_option maxRecDepth 20000 in
theorem wX11_isDeal {E : aE} {P : Int32 → hI_ → hJ_ → Prop} {I : hI_} {J : hJ_} {a0 : Int32} (k : P (b2i ((0 : Int32) ≤ a0 ∧ a0 ≤ ((I 26 3) - (1 : Int32)))) I J) : CallI E mX11_isDeal [.ref 0, .int a0] SH I J P := by
  refine Call_of (L := [.ref 0, .int a0]) ok_X11_isDeal.1 rfl rfl ?_
  refine V_iload_n dX11_isDeal_0 rfl ?_
  refine V_iconst (v := (0 : Int32)) dX11_isDeal_1 rfl ?_
  refine V_aload_n dX11_isDeal_2 rfl ?_
  refine U_getR dX11_isDeal_3 fl_X11_47 s_0 rfl ?_
  refine U_getR dX11_isDeal_6 fl_X11_228 s_21 rfl ?_
  refine U_getI dX11_isDeal_9 fl_X11_189 s_26 rfl ?_
  refine V_iconst (v := (1 : Int32)) dX11_isDeal_12 rfl ?_
  refine V_isub dX11_isDeal_13 ?_
  refine U_callS1 [.int a0, .int (0 : Int32), .int ((I 26 3) - (1 : Int32))] dX11_isDeal_14 os_X11_104 ⟨rfl, rfl, rfl⟩ rfl rfl rfl (tX11_within ?_)
  exact V_iret dX11_isDeal_17 ⟨_, rfl, b2i_nar⟩ rfl rfl ⟨_, _, _, rfl, rfl, k⟩
theorem tX11_isDeal {E : aE} {P : Int32 → hI_ → hJ_ → Prop} {I : hI_} {J : hJ_} {v : Int32} (k : P (b2i (0 ≤ v ∧ v ≤ I 26 3 - 1)) I J) : CallI E mX11_isDeal [.ref 0, .int v] SH I J P := wX11_isDeal k
set_option maxHeartbeats 4000000 in
set_option maxRecDepth 20000 in
theorem wX11_orNone {E : aE} {P : Int32 → hI_ → hJ_ → Prop} {I : hI_} {J : hJ_} {a0 : Int32} (k : P (if a0 < (10000 : Int32) then a0 else (-4 : Int32)) I J) : CallI E mX11_orNone [.int a0] SH I J P := by
  refine Call_of (L := [.int a0]) ok_X11_orNone.1 rfl rfl ?_
  refine V_iload_n dX11_orNone_0 rfl ?_
  refine V_sipush (v := (10000 : Int32)) dX11_orNone_1 rfl ?_
  have key1 : ∀ (y2002 : Int32), y2002 = (if a0 < (10000 : Int32) then a0 else (-4 : Int32)) → V E mX11_orNone (kI SH P) 13 [.int a0] [.int y2002] (SH, I, J) (0, 0) := by
    intro y2002 ey2002
    subst ey2002
    exact V_iret dX11_orNone_13 ⟨_, rfl, rfl⟩ rfl rfl ⟨_, _, _, rfl, rfl, k⟩
  refine V_icmp_lt dX11_orNone_4 (fun c2003 => ?_) (fun c2003 => ?_)
  · refine V_iload_n dX11_orNone_12 rfl ?_
    exact key1 _ (by rw [if_pos c2003])
  · refine V_bipush (v := (-4 : Int32)) dX11_orNone_7 rfl ?_
    refine V_goto dX11_orNone_9 ?_
    exact key1 _ (by rw [if_neg c2003])
theorem tX11_orNone {E : aE} {P : Int32 → hI_ → hJ_ → Prop} {I : hI_} {J : hJ_} {v : Int32} (k : P (orN v) I J) : CallI E mX11_orNone [.int v] SH I J P := by
  refine wX11_orNone ?_
  unfold orN at k
  by_cases h : v < (10000 : Int32)
  · rw [if_neg (Int32.not_le.mpr h)] at k; rw [if_pos h]; exact k
  · rw [if_pos (Int32.not_lt.mp h)] at k; rw [if_neg h]; exact k
set_option maxHeartbeats 4000000 in
set_option maxRecDepth 20000 in
theorem wX3_pair {E : aE} {P : Int32 → hI_ → hJ_ → Prop} {I : hI_} {J : hJ_} {a0 : Int32} {a1 : Int32} (k : P (if a1 ≤ a0 then ((a1 * (5 : Int32)) + a0) else ((a0 * (5 : Int32)) + a1)) I J) : CallI E mX3_pair [.int a0, .int a1] SH I J P := by
  refine Call_of (L := [.int a0, .int a1]) ok_X3_pair.1 rfl rfl ?_
  refine V_iload_n dX3_pair_0 rfl ?_
  refine V_iload_n dX3_pair_1 rfl ?_
  have key1 : ∀ (y2002 : Int32), y2002 = (if a1 ≤ a0 then ((a1 * (5 : Int32)) + a0) else ((a0 * (5 : Int32)) + a1)) → V E mX3_pair (kI SH P) 18 [.int a0, .int a1] [.int y2002] (SH, I, J) (0, 0) := by
    intro y2002 ey2002
    subst ey2002
    exact V_iret dX3_pair_18 ⟨_, rfl, rfl⟩ rfl rfl ⟨_, _, _, rfl, rfl, k⟩
  refine V_icmp_ge dX3_pair_2 (fun c2003 => ?_) (fun c2003 => ?_)
  · refine V_iload_n dX3_pair_13 rfl ?_
    refine V_iconst (v := (5 : Int32)) dX3_pair_14 rfl ?_
    refine V_imul dX3_pair_15 ?_
    refine V_iload_n dX3_pair_16 rfl ?_
    refine V_iadd dX3_pair_17 ?_
    exact key1 _ (by rw [if_pos c2003])
  · refine V_iload_n dX3_pair_5 rfl ?_
    refine V_iconst (v := (5 : Int32)) dX3_pair_6 rfl ?_
    refine V_imul dX3_pair_7 ?_
    refine V_iload_n dX3_pair_8 rfl ?_
    refine V_iadd dX3_pair_9 ?_
    refine V_goto dX3_pair_10 ?_
    exact key1 _ (by rw [if_neg c2003])
theorem tX3_pair {E : aE} {P : Int32 → hI_ → hJ_ → Prop} {I : hI_} {J : hJ_} {a b : Int32} (k : P (pr a b) I J) : CallI E mX3_pair [.int a, .int b] SH I J P := wX3_pair k
/-- a table of numbers is as it was made -/
def rok (I : hI_) (a : Nat) (w m : Int32) : Prop := I a 1 = w ∧ I a 0 = m ∧ 0 ≤ I a 3 ∧ I a 3 ≤ m
def rat (I : hI_) (a b : Nat) (row col : Int32) : Int32 := if (0 ≤ row ∧ row < I a 3) ∧ (0 ≤ col ∧ col < I a 1) then I b (row * I a 1 + col).toNatClampNeg else 0
def rput (I : hI_) (a b : Nat) (row col v : Int32) : hI_ := if (0 ≤ row ∧ row < I a 3) ∧ (0 ≤ col ∧ col < I a 1) then upI I b (row * I a 1 + col).toNatClampNeg v else I
def rgr (I : hI_) (a : Nat) : Int32 := if I a 0 ≤ I a 3 then -1 else I a 3
def rgrI (I : hI_) (a : Nat) : hI_ := if I a 0 ≤ I a 3 then I else upI I a 3 (I a 3 + 1)
set_option maxHeartbeats 4000000 in
set_option maxRecDepth 20000 in
theorem wX5_at {E : aE} {P : Int32 → hI_ → hJ_ → Prop} {I : hI_} {J : hJ_} {a b n : Nat} {a0 : Int32} {a1 : Int32} (ha : SH[a]? = some (.inr (5, [0, 0, b + 3, 0]))) (hb : SH[b]? = some (.inl (0, n, []))) (k : ((a0 < (0 : Int32) → P (0 : Int32) I J) ∧ (¬ (a0 < (0 : Int32)) → (((I a 3) ≤ a0 → P (0 : Int32) I J) ∧ (¬ ((I a 3) ≤ a0) → ((a1 < (0 : Int32) → P (0 : Int32) I J) ∧ (¬ (a1 < (0 : Int32)) → ((a1 < (I a 1) → (vp_in ((a0 * (I a 1)) + a1) n) ∧ P (I b ((a0 * (I a 1)) + a1).toNatClampNeg) I J) ∧ (¬ (a1 < (I a 1)) → P (0 : Int32) I J))))))))) : CallI E mX5_at [.ref a, .int a0, .int a1] SH I J P := by
  refine Call_of (L := [.ref a, .int a0, .int a1]) ok_X5_at.1 rfl rfl ?_
  refine V_iload_n dX5_at_0 rfl ?_
  refine V_if_lt dX5_at_1 (fun c1 => ?_) (fun c1 => ?_)
  · have k := k.1 c1
    refine V_iconst (v := (0 : Int32)) dX5_at_24 rfl ?_
    exact V_iret dX5_at_25 ⟨_, rfl, rfl⟩ rfl rfl ⟨_, _, _, rfl, rfl, k⟩
  · have k := k.2 c1
    refine V_iload_n dX5_at_4 rfl ?_
    refine V_aload_n dX5_at_5 rfl ?_
    refine U_getI dX5_at_6 fl_X5_26 ha rfl ?_
    refine V_icmp_ge dX5_at_9 (fun c2 => ?_) (fun c2 => ?_)
    · have k := k.1 c2
      refine V_iconst (v := (0 : Int32)) dX5_at_24 rfl ?_
      exact V_iret dX5_at_25 ⟨_, rfl, rfl⟩ rfl rfl ⟨_, _, _, rfl, rfl, k⟩
    · have k := k.2 c2
      refine V_iload_n dX5_at_12 rfl ?_
      refine V_if_lt dX5_at_13 (fun c3 => ?_) (fun c3 => ?_)
      · have k := k.1 c3
        refine V_iconst (v := (0 : Int32)) dX5_at_24 rfl ?_
        exact V_iret dX5_at_25 ⟨_, rfl, rfl⟩ rfl rfl ⟨_, _, _, rfl, rfl, k⟩
      · have k := k.2 c3
        refine V_iload_n dX5_at_16 rfl ?_
        refine V_aload_n dX5_at_17 rfl ?_
        refine U_getI dX5_at_18 fl_X5_19 ha rfl ?_
        refine V_icmp_lt dX5_at_21 (fun c4 => ?_) (fun c4 => ?_)
        · have k := k.1 c4
          refine V_aload_n dX5_at_26 rfl ?_
          refine U_getR dX5_at_27 fl_X5_22 ha rfl ?_
          refine V_iload_n dX5_at_30 rfl ?_
          refine V_aload_n dX5_at_31 rfl ?_
          refine U_getI dX5_at_32 fl_X5_19 ha rfl ?_
          refine V_imul dX5_at_35 ?_
          refine V_iload_n dX5_at_36 rfl ?_
          refine V_iadd dX5_at_37 ?_
          obtain ⟨hb5, k⟩ := k
          refine U_iald dX5_at_38 hb hb5 ?_
          exact V_iret dX5_at_39 ⟨_, rfl, rfl⟩ rfl rfl ⟨_, _, _, rfl, rfl, k⟩
        · have k := k.2 c4
          refine V_iconst (v := (0 : Int32)) dX5_at_24 rfl ?_
          exact V_iret dX5_at_25 ⟨_, rfl, rfl⟩ rfl rfl ⟨_, _, _, rfl, rfl, k⟩
set_option maxHeartbeats 4000000 in
set_option maxRecDepth 20000 in
theorem wX5_put {E : aE} {P : hI_ → hJ_ → Prop} {I : hI_} {J : hJ_} {a b n : Nat} {a0 : Int32} {a1 : Int32} {a2 : Int32} (ha : SH[a]? = some (.inr (5, [0, 0, b + 3, 0]))) (hb : SH[b]? = some (.inl (0, n, []))) (k : ((a0 < (0 : Int32) → P I J) ∧ (¬ (a0 < (0 : Int32)) → (((I a 3) ≤ a0 → P I J) ∧ (¬ ((I a 3) ≤ a0) → ((a1 < (0 : Int32) → P I J) ∧ (¬ (a1 < (0 : Int32)) → (((I a 1) ≤ a1 → P I J) ∧ (¬ ((I a 1) ≤ a1) → (vp_in ((a0 * (I a 1)) + a1) n) ∧ P (upI I b (((a0 * (I a 1)) + a1).toNatClampNeg) a2) J))))))))) : CallV E mX5_put [.ref a, .int a0, .int a1, .int a2] SH I J P := by
  refine Call_of (L := [.ref a, .int a0, .int a1, .int a2]) ok_X5_put.1 rfl rfl ?_
  refine V_iload_n dX5_put_0 rfl ?_
  refine V_if_lt dX5_put_1 (fun c1 => ?_) (fun c1 => ?_)
  · have k := k.1 c1
    exact V_vret dX5_put_38 rfl rfl rfl ⟨_, _, rfl, k⟩
  · have k := k.2 c1
    refine V_iload_n dX5_put_4 rfl ?_
    refine V_aload_n dX5_put_5 rfl ?_
    refine U_getI dX5_put_6 fl_X5_26 ha rfl ?_
    refine V_icmp_ge dX5_put_9 (fun c2 => ?_) (fun c2 => ?_)
    · have k := k.1 c2
      exact V_vret dX5_put_38 rfl rfl rfl ⟨_, _, rfl, k⟩
    · have k := k.2 c2
      refine V_iload_n dX5_put_12 rfl ?_
      refine V_if_lt dX5_put_13 (fun c3 => ?_) (fun c3 => ?_)
      · have k := k.1 c3
        exact V_vret dX5_put_38 rfl rfl rfl ⟨_, _, rfl, k⟩
      · have k := k.2 c3
        refine V_iload_n dX5_put_16 rfl ?_
        refine V_aload_n dX5_put_17 rfl ?_
        refine U_getI dX5_put_18 fl_X5_19 ha rfl ?_
        refine V_icmp_ge dX5_put_21 (fun c4 => ?_) (fun c4 => ?_)
        · have k := k.1 c4
          exact V_vret dX5_put_38 rfl rfl rfl ⟨_, _, rfl, k⟩
        · have k := k.2 c4
          refine V_aload_n dX5_put_24 rfl ?_
          refine U_getR dX5_put_25 fl_X5_22 ha rfl ?_
          refine V_iload_n dX5_put_28 rfl ?_
          refine V_aload_n dX5_put_29 rfl ?_
          refine U_getI dX5_put_30 fl_X5_19 ha rfl ?_
          refine V_imul dX5_put_33 ?_
          refine V_iload_n dX5_put_34 rfl ?_
          refine V_iadd dX5_put_35 ?_
          refine V_iload_n dX5_put_36 rfl ?_
          obtain ⟨hb5, k⟩ := k
          refine U_iast dX5_put_37 hb hb5 ?_
          exact V_vret dX5_put_38 rfl rfl rfl ⟨_, _, rfl, k⟩
set_option maxHeartbeats 4000000 in
set_option maxRecDepth 20000 in
theorem wX5_grow {E : aE} {P : Int32 → hI_ → hJ_ → Prop} {I : hI_} {J : hJ_} {a b n : Nat}  (ha : SH[a]? = some (.inr (5, [0, 0, b + 3, 0]))) (hb : SH[b]? = some (.inl (0, n, []))) (k : (((I a 3) < (I a 0) → P (((upI I a 3 ((I a 3) + (1 : Int32))) a 3) - (1 : Int32)) (upI I a 3 ((I a 3) + (1 : Int32))) J) ∧ (¬ ((I a 3) < (I a 0)) → P (-1 : Int32) I J))) : CallI E mX5_grow [.ref a] SH I J P := by
  refine Call_of (L := [.ref a]) ok_X5_grow.1 rfl rfl ?_
  refine V_aload_n dX5_grow_0 rfl ?_
  refine U_getI dX5_grow_1 fl_X5_26 ha rfl ?_
  refine V_aload_n dX5_grow_4 rfl ?_
  refine U_getI dX5_grow_5 fl_X5_13 ha rfl ?_
  refine V_icmp_lt dX5_grow_8 (fun c1 => ?_) (fun c1 => ?_)
  · have k := k.1 c1
    refine V_aload_n dX5_grow_13 rfl ?_
    refine V_dupR dX5_grow_14 ?_
    refine U_getI dX5_grow_15 fl_X5_26 ha rfl ?_
    refine V_iconst (v := (1 : Int32)) dX5_grow_18 rfl ?_
    refine V_iadd dX5_grow_19 ?_
    refine U_putI dX5_grow_20 fp_X5_26 ha rfl ?_
    refine V_aload_n dX5_grow_23 rfl ?_
    refine U_getI dX5_grow_24 fl_X5_26 ha rfl ?_
    refine V_iconst (v := (1 : Int32)) dX5_grow_27 rfl ?_
    refine V_isub dX5_grow_28 ?_
    exact V_iret dX5_grow_29 ⟨_, rfl, rfl⟩ rfl rfl ⟨_, _, _, rfl, rfl, k⟩
  · have k := k.2 c1
    refine V_iconst (v := (-1 : Int32)) dX5_grow_11 rfl ?_
    exact V_iret dX5_grow_12 ⟨_, rfl, rfl⟩ rfl rfl ⟨_, _, _, rfl, rfl, k⟩
theorem ti_add {x y : Int32} (h1 : -2147483648 ≤ x.toInt + y.toInt) (h2 : x.toInt + y.toInt < 2147483648) : (x + y).toInt = x.toInt + y.toInt := by
  rw [Int32.toInt_add]; exact Int.bmod_eq_of_le (by omega) (by omega)
theorem ti_sub {x y : Int32} (h1 : -2147483648 ≤ x.toInt - y.toInt) (h2 : x.toInt - y.toInt < 2147483648) : (x - y).toInt = x.toInt - y.toInt := by
  rw [Int32.toInt_sub]; exact Int.bmod_eq_of_le (by omega) (by omega)
theorem ti_mul {x y : Int32} (h1 : -2147483648 ≤ x.toInt * y.toInt) (h2 : x.toInt * y.toInt < 2147483648) : (x * y).toInt = x.toInt * y.toInt := by
  rw [Int32.toInt_mul]; exact Int.bmod_eq_of_le (by omega) (by omega)
theorem ti_neg {x : Int32} (h1 : -2147483648 < x.toInt) : (-x).toInt = -x.toInt := by
  have := x.toInt_lt
  have h2 : (-x).toInt = (-x.toInt).bmod (2 ^ 32) := Int32.toInt_neg x
  rw [h2]; exact Int.bmod_eq_of_le (by omega) (by omega)
def wmok (w m : Int32) (n : Nat) : Bool := decide (0 ≤ w.toInt ∧ 0 ≤ m.toInt ∧ m.toInt * w.toInt = n ∧ n < 1000000)
theorem row_in {w m r c : Int32} {n : Nat} (hn : wmok w m n = true) (h1 : 0 ≤ r) (h2 : r < m) (h3 : 0 ≤ c) (h4 : c < w) : (r * w + c).toInt = r.toInt * w.toInt + c.toInt ∧ vp_in (r * w + c) n := by
  obtain ⟨g1, g2, g3, g4⟩ := of_decide_eq_true hn
  have h1 := Int32.le_iff_toInt_le.mp h1
  have h2 := Int32.lt_iff_toInt_lt.mp h2
  have h3 := Int32.le_iff_toInt_le.mp h3
  have h4 := Int32.lt_iff_toInt_lt.mp h4
  have z : (0 : Int32).toInt = 0 := rfl
  rw [z] at h1 h3
  have e1 : r.toInt * w.toInt ≤ (m.toInt - 1) * w.toInt := Int.mul_le_mul_of_nonneg_right (by omega) g1
  have e2 : 0 ≤ r.toInt * w.toInt := Int.mul_nonneg h1 g1
  rw [Int.sub_mul, g3, Int.one_mul] at e1
  have e3 : (r * w).toInt = r.toInt * w.toInt := ti_mul (by omega) (by omega)
  have e4 : (r * w + c).toInt = r.toInt * w.toInt + c.toInt := by rw [ti_add (by omega) (by omega), e3]
  exact ⟨e4, vp_in_iff.mpr (by omega)⟩
theorem tX5_at {E : aE} {P : Int32 → hI_ → hJ_ → Prop} {I : hI_} {J : hJ_} {a b n : Nat} {w m r c : Int32} (ha : SH[a]? = some (.inr (5, [0, 0, b + 3, 0]))) (hb : SH[b]? = some (.inl (0, n, []))) (hn : wmok w m n = true) (hr : rok I a w m) (k : P (rat I a b r c) I J) : CallI E mX5_at [.ref a, .int r, .int c] SH I J P := by
  refine wX5_at ha hb ?_
  obtain ⟨h1, h2, h3, h4⟩ := hr
  unfold rat at k
  refine ⟨fun c1 => ?_, fun c1 => ⟨fun c2 => ?_, fun c2 => ⟨fun c3 => ?_, fun c3 => ⟨fun c4 => ?_, fun c4 => ?_⟩⟩⟩⟩
  · rw [if_neg (fun q => Int32.not_lt.mpr q.1.1 c1)] at k; exact k
  · rw [if_neg (fun q => Int32.not_lt.mpr c2 q.1.2)] at k; exact k
  · rw [if_neg (fun q => Int32.not_lt.mpr q.2.1 c3)] at k; exact k
  · rw [if_pos ⟨⟨Int32.not_lt.mp c1, Int32.not_le.mp c2⟩, Int32.not_lt.mp c3, c4⟩] at k
    refine ⟨?_, k⟩
    rw [h1] at c4 ⊢
    exact (row_in hn (Int32.not_lt.mp c1) (Int32.lt_of_lt_of_le (Int32.not_le.mp c2) h4) (Int32.not_lt.mp c3) c4).2
  · rw [if_neg (fun q => c4 q.2.2)] at k; exact k
theorem tX5_put {E : aE} {P : hI_ → hJ_ → Prop} {I : hI_} {J : hJ_} {a b n : Nat} {w m r c v : Int32} (ha : SH[a]? = some (.inr (5, [0, 0, b + 3, 0]))) (hb : SH[b]? = some (.inl (0, n, []))) (hn : wmok w m n = true) (hr : rok I a w m) (k : P (rput I a b r c v) J) : CallV E mX5_put [.ref a, .int r, .int c, .int v] SH I J P := by
  refine wX5_put ha hb ?_
  obtain ⟨h1, h2, h3, h4⟩ := hr
  unfold rput at k
  refine ⟨fun c1 => ?_, fun c1 => ⟨fun c2 => ?_, fun c2 => ⟨fun c3 => ?_, fun c3 => ⟨fun c4 => ?_, fun c4 => ?_⟩⟩⟩⟩
  · rw [if_neg (fun q => Int32.not_lt.mpr q.1.1 c1)] at k; exact k
  · rw [if_neg (fun q => Int32.not_lt.mpr c2 q.1.2)] at k; exact k
  · rw [if_neg (fun q => Int32.not_lt.mpr q.2.1 c3)] at k; exact k
  · rw [if_neg (fun q => Int32.not_lt.mpr c4 q.2.2)] at k; exact k
  · rw [if_pos ⟨⟨Int32.not_lt.mp c1, Int32.not_le.mp c2⟩, Int32.not_lt.mp c3, Int32.not_le.mp c4⟩] at k
    refine ⟨?_, k⟩
    rw [h1] at c4 ⊢
    exact (row_in hn (Int32.not_lt.mp c1) (Int32.lt_of_lt_of_le (Int32.not_le.mp c2) h4) (Int32.not_lt.mp c3) (Int32.not_le.mp c4)).2
theorem upI_same {I : hI_} {a i : Nat} {v : Int32} : upI I a i v a i = v := by simp [upI, upd]
theorem upI_at {I : hI_} {a i b j : Nat} {v : Int32} : upI I a i v b j = if b = a ∧ j = i then v else I b j := by
  unfold upI upd
  by_cases h1 : b = a
  · subst h1
    by_cases h2 : j = i <;> simp [h2]
  · simp [h1]
theorem tX5_grow {E : aE} {P : Int32 → hI_ → hJ_ → Prop} {I : hI_} {J : hJ_} {a b n : Nat} (ha : SH[a]? = some (.inr (5, [0, 0, b + 3, 0]))) (hb : SH[b]? = some (.inl (0, n, []))) (k : P (rgr I a) (rgrI I a) J) : CallI E mX5_grow [.ref a] SH I J P := by
  refine wX5_grow ha hb ⟨fun c1 => ?_, fun c1 => ?_⟩
  · unfold rgr rgrI at k
    rw [if_neg (Int32.not_le.mpr c1), if_neg (Int32.not_le.mpr c1)] at k
    rw [upI_same, Int32.add_sub_cancel]
    exact k
  · unfold rgr rgrI at k
    rw [if_pos (Int32.not_lt.mp c1), if_pos (Int32.not_lt.mp c1)] at k
    exact k
set_option maxHeartbeats 4000000 in
set_option maxRecDepth 20000 in
theorem wX12_in {E : aE} {P : Int32 → hI_ → hJ_ → Prop} {I : hI_} {J : hJ_} {a0 : Int64} {a1 : Int64} {a2 : Int64} (k : P (b2i ((¬ (a0 < a1)) ∧ (¬ (a2 < a0)))) I J) : CallI E mX12_in [.long a0, .long a1, .long a2] SH I J P := by
  refine Call_of (L := [.long a0, .retAddr 0, .long a1, .retAddr 0, .long a2, .retAddr 0]) ok_X12_in.1 rfl rfl ?_
  refine V_lload_n dX12_in_0 rfl ?_
  refine V_lload_n dX12_in_1 rfl ?_
  have key1 : ∀ (y2002 : Int32), y2002 = (b2i ((¬ (a0 < a1)) ∧ (¬ (a2 < a0)))) → V E mX12_in (kI SH P) 18 [.long a0, .retAddr 0, .long a1, .retAddr 0, .long a2, .retAddr 0] [.int y2002] (SH, I, J) (0, 0) := by
    intro y2002 ey2002
    subst ey2002
    exact V_iret dX12_in_18 ⟨_, rfl, b2i_nar⟩ rfl rfl ⟨_, _, _, rfl, rfl, k⟩
  refine U_lcmp_lt dX12_in_2 dX12_in_3 (fun c2003 => ?_) (fun c2003 => ?_)
  · refine V_iconst (v := (0 : Int32)) dX12_in_17 rfl ?_
    exact key1 _ ((b2i_0.mpr (fun q => q.1 c2003)).symm)
  · refine V_lload_n dX12_in_6 rfl ?_
    refine V_lload dX12_in_7 rfl ?_
    refine U_lcmp_gt dX12_in_9 dX12_in_10 (fun c2004 => ?_) (fun c2004 => ?_)
    · refine V_iconst (v := (0 : Int32)) dX12_in_17 rfl ?_
      exact key1 _ ((b2i_0.mpr (fun q => (fun q => q c2004) q.2)).symm)
    · refine V_iconst (v := (1 : Int32)) dX12_in_13 rfl ?_
      refine V_goto dX12_in_14 ?_
      exact key1 _ ((b2i_1.mpr (⟨c2003, c2004⟩)).symm)
theorem tX12_in {E : aE} {P : Int32 → hI_ → hJ_ → Prop} {I : hI_} {J : hJ_} {v lo hi : Int64} (k : P (b2i (lo ≤ v ∧ v ≤ hi)) I J) : CallI E mX12_in [.long v, .long lo, .long hi] SH I J P := by
  refine wX12_in ?_
  rw [b2i_congr (q := lo ≤ v ∧ v ≤ hi) (by simp only [Int64.not_lt])]
  exact k
theorem tX12_in32 {E : aE} {P : Int32 → hI_ → hJ_ → Prop} {I : hI_} {J : hJ_} {v lo hi : Int32} {v2 lo2 hi2 : Int64} (hv : v.toInt64 = v2) (hl : lo.toInt64 = lo2) (hh : hi.toInt64 = hi2) (k : P (b2i (lo ≤ v ∧ v ≤ hi)) I J) : CallI E mX12_in [.long v2, .long lo2, .long hi2] SH I J P := by
  subst hv; subst hl; subst hh
  refine tX12_in ?_
  rw [b2i_congr (q := lo ≤ v ∧ v ≤ hi) (by simp only [i64le])]
  exact k
