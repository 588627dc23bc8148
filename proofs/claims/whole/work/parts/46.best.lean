/-! the best call of a side -/
def pcN (I : hI_) (c : Nat) : Nat := (cK I c 3).toInt.toNat
theorem pc_ok {I : hI_} (h : Rel I) {c : Nat} (hc : c < nC I) : cK I c 3 = nI (pcN I c) ∧ 1 ≤ pcN I c ∧ pcN I c ≤ 999 := by
  have hb := (cK_bet h hc).2.2.2.1
  refine ⟨ofT (by have := hb.1; omega), ?_, ?_⟩
  · unfold pcN; have := hb.1; omega
  · unfold pcN; have := hb.2; omega
def btB (I : hI_) (s : Int32) (c b : Nat) : Bool := if s = 1 then decide (pcN I c < pcN I b) else decide (pcN I b < pcN I c)
def bsP (I : hI_) (L : Nat → Nat) (s : Int32) (c : Nat) : Option Nat → Option Nat
  | none => if L c = 0 ∨ ¬ cK I c 2 = s then none else some c
  | some b => if L c = 0 ∨ ¬ cK I c 2 = s then some b else if btB I s c b = true then some c else some b
def bsN (I : hI_) (L : Nat → Nat) (s : Int32) : Nat → Option Nat
  | 0 => none
  | c + 1 => bsP I L s c (bsN I L s c)
def enX : Option Nat → Int32
  | none => -1
  | some x => nI x
def enM : Option Nat → Int32
  | none => -4
  | some x => nI x
theorem bsN_lt {I : hI_} {L : Nat → Nat} {s : Int32} : ∀ n x, bsN I L s n = some x → x < n ∧ ¬ L x = 0 ∧ cK I x 2 = s
  | 0, x, h => by cases h
  | n + 1, x, h => by
    have e : bsN I L s (n + 1) = bsP I L s n (bsN I L s n) := rfl
    rw [e] at h
    cases hb : bsN I L s n with
    | none =>
      rw [hb] at h
      have e2 : bsP I L s n none = if L n = 0 ∨ ¬ cK I n 2 = s then none else some n := rfl
      rw [e2] at h
      by_cases z : L n = 0 ∨ ¬ cK I n 2 = s
      · rw [if_pos z] at h; cases h
      · rw [if_neg z] at h
        cases h
        exact ⟨by omega, fun y => z (Or.inl y), Classical.byContradiction (fun y => z (Or.inr y))⟩
    | some b =>
      have ih := bsN_lt n b hb
      rw [hb] at h
      have e2 : bsP I L s n (some b) = if L n = 0 ∨ ¬ cK I n 2 = s then some b else if btB I s n b = true then some n else some b := rfl
      rw [e2] at h
      by_cases z : L n = 0 ∨ ¬ cK I n 2 = s
      · rw [if_pos z] at h; cases h; exact ⟨by omega, ih.2⟩
      · rw [if_neg z] at h
        by_cases z2 : btB I s n b = true
        · rw [if_pos z2] at h; cases h
          exact ⟨by omega, fun y => z (Or.inl y), Classical.byContradiction (fun y => z (Or.inr y))⟩
        · rw [if_neg z2] at h; cases h; exact ⟨by omega, ih.2⟩
theorem sub_le0 {a b : Nat} (ha : a < 1000) (hb : b < 1000) : nI a - nI b ≤ 0 ↔ a ≤ b := by
  have e : (nI a - nI b).toInt = (a : Int) - b := by
    rw [Int32.toInt_sub, nI_toInt (by omega), nI_toInt (by omega)]
    exact Int.bmod_eq_of_le (by omega) (by omega)
  have e0 : (0 : Int32).toInt = 0 := rfl
  rw [Int32.le_iff_toInt_le, e, e0]
  omega
set_option maxHeartbeats 4000000 in
set_option maxRecDepth 20000 in
theorem wX0_margin {E : aE} {P : Int32 → hI_ → hJ_ → Prop} {I : hI_} {J : hJ_} {a0 : Int32} {a1 : Int32} (k : (rok I 24 8 12) ∧ (rok I 24 8 12) ∧ P ((rat I 24 25 a1 (3 : Int32)) - (rat I 24 25 a0 (3 : Int32))) I J) : CallI E mX0_margin [.ref 36, .int a0, .int a1] SH I J P := by
  refine Call_of (L := [.ref 36, .int a0, .int a1]) ok_X0_margin.1 rfl rfl ?_
  refine V_aload_n dX0_margin_0 rfl ?_
  refine U_getR dX0_margin_1 fl_X0_31 s_36 rfl ?_
  refine V_iload_n dX0_margin_4 rfl ?_
  refine V_iconst (v := (3 : Int32)) dX0_margin_5 rfl ?_
  obtain ⟨hp1, k⟩ := k
  refine U_callV1 [.int a1, .int (3 : Int32)] dX0_margin_6 ov_X0_38 s_24 rfl ⟨rfl, rfl, rfl⟩ rfl rfl rfl (tX5_at s_24 s_25 (by decide) hp1 ?_)
  refine V_aload_n dX0_margin_9 rfl ?_
  refine U_getR dX0_margin_10 fl_X0_31 s_36 rfl ?_
  refine V_iload_n dX0_margin_13 rfl ?_
  refine V_iconst (v := (3 : Int32)) dX0_margin_14 rfl ?_
  obtain ⟨hp2, k⟩ := k
  refine U_callV1 [.int a0, .int (3 : Int32)] dX0_margin_15 ov_X0_38 s_24 rfl ⟨rfl, rfl, rfl⟩ rfl rfl rfl (tX5_at s_24 s_25 (by decide) hp2 ?_)
  refine V_isub dX0_margin_18 ?_
  exact V_iret dX0_margin_19 ⟨_, rfl, rfl⟩ rfl rfl ⟨_, _, _, rfl, rfl, k⟩
theorem tX0_margin {E : aE} {P : Int32 → hI_ → hJ_ → Prop} {I : hI_} {J : hJ_} {x y : Nat} (h : Rel I) (hx : x < nC I) (hy : y < nC I) (k : P (nI (pcN I y) - nI (pcN I x)) I J) : CallI E mX0_margin [.ref 36, .int (nI x), .int (nI y)] SH I J P := by
  have hr := (Rel_rows h).2.1
  have ex : rat I 24 25 (nI x) 3 = nI (pcN I x) := (((Rel_call h hx).1 3 (by omega)).1).trans (pc_ok h hx).1
  have ey : rat I 24 25 (nI y) 3 = nI (pcN I y) := (((Rel_call h hy).1 3 (by omega)).1).trans (pc_ok h hy).1
  refine wX0_margin ⟨hr, hr, ?_⟩
  rw [ex, ey]; exact k
def HX0_best_4 (E : aE) (P : Int32 → hI_ → hJ_ → Prop) (v1 : Int32) (v2 : Int32) (v3 : Int32) (I : hI_) (J : hJ_) : Prop := V E mX0_best (kI SH P) 4 [.ref 36, .int v1, .int v2, .int v3, .retAddr 0] [] (SH, I, J) (0, 0)
set_option maxHeartbeats 4000000 in
set_option maxRecDepth 20000 in
theorem wX0_best {E : aE} {P : Int32 → hI_ → hJ_ → Prop} {I : hI_} {J : hJ_} {a0 : Int32} (k : HX0_best_4 E P a0 (-1 : Int32) (0 : Int32) I J) : CallI E mX0_best [.ref 36, .int a0] SH I J P := by
  refine Call_of (L := [.ref 36, .int a0, .retAddr 0, .retAddr 0, .retAddr 0]) ok_X0_best.1 rfl rfl ?_
  refine V_iconst (v := (-1 : Int32)) dX0_best_0 rfl ?_
  refine U_istore_n (L2 := [.ref 36, .int a0, .int (-1 : Int32), .retAddr 0, .retAddr 0]) dX0_best_1 (by decide) rfl ?_
  refine V_iconst (v := (0 : Int32)) dX0_best_2 rfl ?_
  refine U_istore_n (L2 := [.ref 36, .int a0, .int (-1 : Int32), .int (0 : Int32), .retAddr 0]) dX0_best_3 (by decide) rfl ?_
  exact k
set_option maxHeartbeats 4000000 in
set_option maxRecDepth 20000 in
theorem wX0_best_4 {E : aE} {P : Int32 → hI_ → hJ_ → Prop} {I : hI_} {J : hJ_} {v1 : Int32} {v2 : Int32} {v3 : Int32} (k : (((I 24 3) ≤ v3 → P v2 I J) ∧ (¬ ((I 24 3) ≤ v3) → (vp_in v3 12) ∧ (((I 39 v3.toNatClampNeg) = (0 : Int32) → HX0_best_4 E P v1 v2 (v3 + (1 : Int32)) I J) ∧ (¬ ((I 39 v3.toNatClampNeg) = (0 : Int32)) → (rok I 24 8 12) ∧ (((rat I 24 25 v3 (2 : Int32)) = v1 → (((0 : Int32) ≤ v2 → ((¬ v1 = (1 : Int32) → CallI E mX0_margin [.ref 36, .int v2, .int v3] SH I J (fun x8 I9 J10 => HX0_best_4 E P v1 (if x8 ≤ (0 : Int32) then v2 else v3) (v3 + (1 : Int32)) I9 J10)) ∧ (v1 = (1 : Int32) → CallI E mX0_margin [.ref 36, .int v3, .int v2] SH I J (fun x2014 I2015 J2016 => HX0_best_4 E P v1 (if x2014 ≤ (0 : Int32) then v2 else v3) (v3 + (1 : Int32)) I2015 J2016)))) ∧ (¬ ((0 : Int32) ≤ v2) → HX0_best_4 E P v1 v3 (v3 + (1 : Int32)) I J))) ∧ (¬ ((rat I 24 25 v3 (2 : Int32)) = v1) → HX0_best_4 E P v1 v2 (v3 + (1 : Int32)) I J))))))) : HX0_best_4 E P v1 v2 v3 I J := by
  show V E mX0_best (kI SH P) 4 [.ref 36, .int v1, .int v2, .int v3, .retAddr 0] [] (SH, I, J) (0, 0)
  refine V_iload_n dX0_best_4 rfl ?_
  refine V_aload_n dX0_best_5 rfl ?_
  refine U_getR dX0_best_6 fl_X0_31 s_36 rfl ?_
  refine U_getI dX0_best_9 fl_X0_32 s_24 rfl ?_
  refine V_icmp_ge dX0_best_12 (fun c1 => ?_) (fun c1 => ?_)
  · have k := k.1 c1
    refine V_iload_n dX0_best_83 rfl ?_
    exact V_iret dX0_best_84 ⟨_, rfl, rfl⟩ rfl rfl ⟨_, _, _, rfl, rfl, k⟩
  · have k := k.2 c1
    refine V_aload_n dX0_best_15 rfl ?_
    refine U_getR dX0_best_16 fl_X0_18 s_36 rfl ?_
    refine V_iload_n dX0_best_19 rfl ?_
    obtain ⟨hb2, k⟩ := k
    refine U_iald dX0_best_20 s_39 hb2 ?_
    refine V_if_eq dX0_best_21 (fun c3 => ?_) (fun c3 => ?_)
    · have k := k.1 c3
      refine U_iinc (v := v3 + (1 : Int32)) (L2 := [.ref 36, .int v1, .int v2, .int (v3 + (1 : Int32)), .retAddr 0]) dX0_best_77 (by decide) rfl rfl rfl ?_
      refine V_goto dX0_best_80 ?_
      exact k
    · have k := k.2 c3
      refine V_aload_n dX0_best_24 rfl ?_
      refine U_getR dX0_best_25 fl_X0_31 s_36 rfl ?_
      refine V_iload_n dX0_best_28 rfl ?_
      refine V_iconst (v := (2 : Int32)) dX0_best_29 rfl ?_
      obtain ⟨hp4, k⟩ := k
      refine U_callV1 [.int v3, .int (2 : Int32)] dX0_best_30 ov_X0_38 s_24 rfl ⟨rfl, rfl, rfl⟩ rfl rfl rfl (tX5_at s_24 s_25 (by decide) hp4 ?_)
      refine V_iload_n dX0_best_33 rfl ?_
      refine V_icmp_eq dX0_best_34 (fun c5 => ?_) (fun c5 => ?_)
      · have k := k.1 c5
        refine V_iload_n dX0_best_40 rfl ?_
        refine V_if_ge dX0_best_41 (fun c6 => ?_) (fun c6 => ?_)
        · have k := k.1 c6
          refine V_iload_n dX0_best_48 rfl ?_
          refine V_iconst (v := (1 : Int32)) dX0_best_49 rfl ?_
          refine V_icmp_ne dX0_best_50 (fun c7 => ?_) (fun c7 => ?_)
          · have k := k.1 c7
            refine V_aload_n dX0_best_62 rfl ?_
            refine V_iload_n dX0_best_63 rfl ?_
            refine V_iload_n dX0_best_64 rfl ?_
            refine U_callV1 [.int v2, .int v3] dX0_best_65 ov_X0_70 s_36 rfl ⟨rfl, rfl, rfl⟩ rfl rfl rfl (CallI_mono k (fun x8 I9 J10 k => ?_))
            refine U_istore (L2 := [.ref 36, .int v1, .int v2, .int v3, .int x8]) dX0_best_68 (by decide) rfl ?_
            refine V_iload dX0_best_70 rfl ?_
            have key11 : ∀ (y2012 : Int32), y2012 = (if x8 ≤ (0 : Int32) then v2 else v3) → V E mX0_best (kI SH P) 77 [.ref 36, .int v1, .int y2012, .int v3, .int x8] [] (SH, I9, J10) (0, 0) := by
              intro y2012 ey2012
              subst ey2012
              refine U_iinc (v := v3 + (1 : Int32)) (L2 := [.ref 36, .int v1, .int (if x8 ≤ (0 : Int32) then v2 else v3), .int (v3 + (1 : Int32)), .int x8]) dX0_best_77 (by decide) rfl rfl rfl ?_
              refine V_goto dX0_best_80 ?_
              exact V_wk (wk_eq (wk_eq (wk_eq (wk_eq (wk_j (wk_nil)))))) k
            refine V_if_le dX0_best_72 (fun c2013 => ?_) (fun c2013 => ?_)
            · exact key11 _ (by rw [if_pos c2013])
            · refine V_iload_n dX0_best_75 rfl ?_
              refine U_istore_n (L2 := [.ref 36, .int v1, .int v3, .int v3, .int x8]) dX0_best_76 (by decide) rfl ?_
              exact key11 _ (by rw [if_neg c2013])
          · have k := k.2 c7
            refine V_aload_n dX0_best_53 rfl ?_
            refine V_iload_n dX0_best_54 rfl ?_
            refine V_iload_n dX0_best_55 rfl ?_
            refine U_callV1 [.int v3, .int v2] dX0_best_56 ov_X0_70 s_36 rfl ⟨rfl, rfl, rfl⟩ rfl rfl rfl (CallI_mono k (fun x2014 I2015 J2016 k => ?_))
            refine V_goto dX0_best_59 ?_
            refine U_istore (L2 := [.ref 36, .int v1, .int v2, .int v3, .int x2014]) dX0_best_68 (by decide) rfl ?_
            refine V_iload dX0_best_70 rfl ?_
            have key2017 : ∀ (y4018 : Int32), y4018 = (if x2014 ≤ (0 : Int32) then v2 else v3) → V E mX0_best (kI SH P) 77 [.ref 36, .int v1, .int y4018, .int v3, .int x2014] [] (SH, I2015, J2016) (0, 0) := by
              intro y4018 ey4018
              subst ey4018
              refine U_iinc (v := v3 + (1 : Int32)) (L2 := [.ref 36, .int v1, .int (if x2014 ≤ (0 : Int32) then v2 else v3), .int (v3 + (1 : Int32)), .int x2014]) dX0_best_77 (by decide) rfl rfl rfl ?_
              refine V_goto dX0_best_80 ?_
              exact V_wk (wk_eq (wk_eq (wk_eq (wk_eq (wk_j (wk_nil)))))) k
            refine V_if_le dX0_best_72 (fun c4019 => ?_) (fun c4019 => ?_)
            · exact key2017 _ (by rw [if_pos c4019])
            · refine V_iload_n dX0_best_75 rfl ?_
              refine U_istore_n (L2 := [.ref 36, .int v1, .int v3, .int v3, .int x2014]) dX0_best_76 (by decide) rfl ?_
              exact key2017 _ (by rw [if_neg c4019])
        · have k := k.2 c6
          refine V_iconst (v := (1 : Int32)) dX0_best_44 rfl ?_
          refine V_goto dX0_best_45 ?_
          refine U_istore (L2 := [.ref 36, .int v1, .int v2, .int v3, .int (1 : Int32)]) dX0_best_68 (by decide) rfl ?_
          refine V_iload dX0_best_70 rfl ?_
          refine V_if_le dX0_best_72 (fun q => absurd q (by decide)) (fun _ => ?_)
          refine V_iload_n dX0_best_75 rfl ?_
          refine U_istore_n (L2 := [.ref 36, .int v1, .int v3, .int v3, .int (1 : Int32)]) dX0_best_76 (by decide) rfl ?_
          refine U_iinc (v := v3 + (1 : Int32)) (L2 := [.ref 36, .int v1, .int v3, .int (v3 + (1 : Int32)), .int (1 : Int32)]) dX0_best_77 (by decide) rfl rfl rfl ?_
          refine V_goto dX0_best_80 ?_
          exact V_wk (wk_eq (wk_eq (wk_eq (wk_eq (wk_j (wk_nil)))))) k
      · have k := k.2 c5
        refine V_goto dX0_best_37 ?_
        refine U_iinc (v := v3 + (1 : Int32)) (L2 := [.ref 36, .int v1, .int v2, .int (v3 + (1 : Int32)), .retAddr 0]) dX0_best_77 (by decide) rfl rfl rfl ?_
        refine V_goto dX0_best_80 ?_
        exact k
theorem bestX_loop {E : aE} {P : Int32 → hI_ → hJ_ → Prop} {I : hI_} {J : hJ_} {L : Nat → Nat} {s : Int32} (h : Rel I) (hL : ∀ j, j < nC I → I 39 j = nI (L j)) (hL2 : ∀ j, L j ≤ 99) (k : P (enX (bsN I L s (nC I))) I J) : ∀ (m c : Nat), c + m = nC I → HX0_best_4 E P s (enX (bsN I L s c)) (nI c) I J
  | 0, c, hc => by
    have hC := Rel_C h
    have e : c = nC I := by omega
    refine wX0_best_4 ?_
    rw [hC.1, e]
    exact ⟨fun _ => k, fun z => absurd (nI_le (by omega) (by omega)) z⟩
  | m + 1, c, hc => by
    have hC := Rel_C h
    have hr := (Rel_rows h).2.1
    have vc : vp_in (nI c) 12 := vp_in_nI (by omega) (by omega)
    have hLc := hL2 c
    have e2 : rat I 24 25 (nI c) 2 = cK I c 2 := ((Rel_call h (c := c) (by omega)).1 2 (by omega)).1
    have e0 : (nI (L c) = 0) ↔ L c = 0 := nI_eq (b := 0) (by omega) (by omega)
    have nx := bestX_loop (E := E) h hL hL2 k m (c + 1) (by omega)
    have e : bsN I L s (c + 1) = bsP I L s c (bsN I L s c) := rfl
    rw [e] at nx
    refine wX0_best_4 ?_
    rw [hC.1, nI_clamp (by omega), hL c (by omega), e2, nI_1]
    refine ⟨fun z => absurd z (nI_ge (by omega) (by omega)), fun _ => ⟨vc, fun z => ?_, fun z => ⟨hr, fun z2 => ?_, fun z2 => ?_⟩⟩⟩
    · have z' := e0.mp z
      cases hb : bsN I L s c with
      | none => rw [hb] at nx; have e3 : bsP I L s c none = none := if_pos (Or.inl z'); rw [e3] at nx; exact nx
      | some b => rw [hb] at nx; have e3 : bsP I L s c (some b) = some b := if_pos (Or.inl z'); rw [e3] at nx; exact nx
    · have z' : ¬ (L c = 0 ∨ ¬ cK I c 2 = s) := fun y => y.elim (fun q => z (e0.mpr q)) (fun q => q z2)
      cases hb : bsN I L s c with
      | none =>
        rw [hb] at nx
        have e3 : bsP I L s c none = some c := if_neg z'
        rw [e3] at nx
        exact ⟨fun y => absurd y (by decide), fun _ => nx⟩
      | some b =>
        rw [hb] at nx
        have hb2 := (bsN_lt c b hb).1
        have pb := pc_ok h (c := b) (by omega)
        have pc := pc_ok h (c := c) (by omega)
        have e3 : bsP I L s c (some b) = if btB I s c b = true then some c else some b := if_neg z'
        rw [e3] at nx
        refine ⟨fun _ => ⟨fun y => ?_, fun y => ?_⟩, fun y => absurd (nI_pos' (by omega)) y⟩
        · show CallI E mX0_margin [.ref 36, .int (nI b), .int (nI c)] SH I J _
          refine tX0_margin h (by omega) (by omega) ?_
          have eb : btB I s c b = decide (pcN I b < pcN I c) := if_neg y
          rw [eb] at nx
          by_cases q : pcN I b < pcN I c
          · rw [if_pos (decide_eq_true q)] at nx
            rw [if_neg (fun w => by have := (sub_le0 (by omega) (by omega)).mp w; omega)]; exact nx
          · rw [if_neg (fun w => q (of_decide_eq_true w))] at nx
            rw [if_pos ((sub_le0 (by omega) (by omega)).mpr (by omega))]; exact nx
        · show CallI E mX0_margin [.ref 36, .int (nI c), .int (nI b)] SH I J _
          refine tX0_margin h (by omega) (by omega) ?_
          have eb : btB I s c b = decide (pcN I c < pcN I b) := if_pos y
          rw [eb] at nx
          by_cases q : pcN I c < pcN I b
          · rw [if_pos (decide_eq_true q)] at nx
            rw [if_neg (fun w => by have := (sub_le0 (by omega) (by omega)).mp w; omega)]; exact nx
          · rw [if_neg (fun w => q (of_decide_eq_true w))] at nx
            rw [if_pos ((sub_le0 (by omega) (by omega)).mpr (by omega))]; exact nx
    · have z' : L c = 0 ∨ ¬ cK I c 2 = s := Or.inr z2
      cases hb : bsN I L s c with
      | none => rw [hb] at nx; have e3 : bsP I L s c none = none := if_pos z'; rw [e3] at nx; exact nx
      | some b => rw [hb] at nx; have e3 : bsP I L s c (some b) = some b := if_pos z'; rw [e3] at nx; exact nx
theorem tX0_best {E : aE} {P : Int32 → hI_ → hJ_ → Prop} {I : hI_} {J : hJ_} {L : Nat → Nat} {s : Int32} (h : Rel I) (hL : ∀ j, j < nC I → I 39 j = nI (L j)) (hL2 : ∀ j, L j ≤ 99) (k : P (enX (bsN I L s (nC I))) I J) : CallI E mX0_best [.ref 36, .int s] SH I J P := wX0_best (bestX_loop h hL hL2 k (nC I) 0 (by omega))
def HX12_bestOf_5 (E : aE) (P : Int32 → hI_ → hJ_ → Prop) (v1 : Int32) (v2 : Int32) (v3 : Int32) (I : hI_) (J : hJ_) : Prop := V E mX12_bestOf (kI SH P) 5 [.ref 68, .int v1, .int v2, .int v3, .retAddr 0, .retAddr 0] [] (SH, I, J) (0, 0)
set_option maxHeartbeats 4000000 in
set_option maxRecDepth 20000 in
theorem wX12_bestOf {E : aE} {P : Int32 → hI_ → hJ_ → Prop} {I : hI_} {J : hJ_} {a0 : Int32} (k : HX12_bestOf_5 E P a0 (-4 : Int32) (0 : Int32) I J) : CallI E mX12_bestOf [.ref 68, .int a0] SH I J P := by
  refine Call_of (L := [.ref 68, .int a0, .retAddr 0, .retAddr 0, .retAddr 0, .retAddr 0]) ok_X12_bestOf.1 rfl rfl ?_
  refine V_bipush (v := (-4 : Int32)) dX12_bestOf_0 rfl ?_
  refine U_istore_n (L2 := [.ref 68, .int a0, .int (-4 : Int32), .retAddr 0, .retAddr 0, .retAddr 0]) dX12_bestOf_2 (by decide) rfl ?_
  refine V_iconst (v := (0 : Int32)) dX12_bestOf_3 rfl ?_
  refine U_istore_n (L2 := [.ref 68, .int a0, .int (-4 : Int32), .int (0 : Int32), .retAddr 0, .retAddr 0]) dX12_bestOf_4 (by decide) rfl ?_
  exact k
set_option maxHeartbeats 4000000 in
set_option maxRecDepth 20000 in
theorem wX12_bestOf_5 {E : aE} {P : Int32 → hI_ → hJ_ → Prop} {I : hI_} {J : hJ_} {v1 : Int32} {v2 : Int32} {v3 : Int32} (k : (((I 82 281) ≤ v3 → P v2 I J) ∧ (¬ ((I 82 281) ≤ v3) → (vp_in v3 12) ∧ ((¬ ((I 87 v3.toNatClampNeg) ≤ (0 : Int32))) → inC v3 (2 : Int32)) ∧ ((¬ (v2 = (-4 : Int32))) → (¬ v1 = (0 : Int32)) → inC v3 (3 : Int32)) ∧ ((¬ (v2 = (-4 : Int32))) → (¬ v1 = (0 : Int32)) → inC v2 (3 : Int32)) ∧ ((¬ (v2 = (-4 : Int32))) → (v1 = (0 : Int32)) → inC v3 (3 : Int32)) ∧ ((¬ (v2 = (-4 : Int32))) → (v1 = (0 : Int32)) → inC v2 (3 : Int32)) ∧ HX12_bestOf_5 E P v1 (if ¬ ((¬ ((I 87 v3.toNatClampNeg) ≤ (0 : Int32))) ∧ ((its I v3 (2 : Int32)) = v1)) then v2 else (if ¬ ((v2 = (-4 : Int32)) ∨ (((¬ v1 = (0 : Int32)) ∧ (¬ ((its I v2 (3 : Int32)) ≤ (its I v3 (3 : Int32))))) ∨ ((v1 = (0 : Int32)) ∧ (¬ ((its I v3 (3 : Int32)) ≤ (its I v2 (3 : Int32))))))) then v2 else v3)) (v3 + (1 : Int32)) I J))) : HX12_bestOf_5 E P v1 v2 v3 I J := by
  show V E mX12_bestOf (kI SH P) 5 [.ref 68, .int v1, .int v2, .int v3, .retAddr 0, .retAddr 0] [] (SH, I, J) (0, 0)
  refine V_iload_n dX12_bestOf_5 rfl ?_
  refine V_aload_n dX12_bestOf_6 rfl ?_
  refine U_getR dX12_bestOf_7 fl_X12_49 s_68 rfl ?_
  refine V_sipush (v := (281 : Int32)) dX12_bestOf_10 rfl ?_
  refine U_ialdx (x := I 82 281) dX12_bestOf_13 s_82 (by unfold vp_in; decide) rfl ?_
  refine V_icmp_ge dX12_bestOf_14 (fun c1 => ?_) (fun c1 => ?_)
  · have k := k.1 c1
    refine V_iload_n dX12_bestOf_115 rfl ?_
    exact V_iret dX12_bestOf_116 ⟨_, rfl, rfl⟩ rfl rfl ⟨_, _, _, rfl, rfl, k⟩
  · have k := k.2 c1
    refine V_aload_n dX12_bestOf_17 rfl ?_
    refine U_getR dX12_bestOf_18 fl_X12_65 s_68 rfl ?_
    refine V_iload_n dX12_bestOf_21 rfl ?_
    obtain ⟨hb2, k⟩ := k
    refine U_iald dX12_bestOf_22 s_87 hb2 ?_
    obtain ⟨hc2006, k⟩ := k
    have key3 : ∀ (y2005 : Int32), y2005 = (b2i ((¬ ((I 87 v3.toNatClampNeg) ≤ (0 : Int32))) ∧ ((its I v3 (2 : Int32)) = v1))) → V E mX12_bestOf (kI SH P) 41 [.ref 68, .int v1, .int v2, .int v3, .retAddr 0, .retAddr 0] [.int y2005] (SH, I, J) (0, 0) := by
      intro y2005 ey2005
      subst ey2005
      refine U_istore (L2 := [.ref 68, .int v1, .int v2, .int v3, .int (b2i ((¬ ((I 87 v3.toNatClampNeg) ≤ (0 : Int32))) ∧ ((its I v3 (2 : Int32)) = v1))), .retAddr 0]) dX12_bestOf_41 (by decide) rfl ?_
      refine V_iload_n dX12_bestOf_43 rfl ?_
      refine V_bipush (v := (-4 : Int32)) dX12_bestOf_44 rfl ?_
      obtain ⟨hc4013, hc4014, hc4015, hc4016, k⟩ := k
      have key2007 : ∀ (y4012 : Int32), y4012 = (b2i ((v2 = (-4 : Int32)) ∨ (((¬ v1 = (0 : Int32)) ∧ (¬ ((its I v2 (3 : Int32)) ≤ (its I v3 (3 : Int32))))) ∨ ((v1 = (0 : Int32)) ∧ (¬ ((its I v3 (3 : Int32)) ≤ (its I v2 (3 : Int32)))))))) → V E mX12_bestOf (kI SH P) 91 [.ref 68, .int v1, .int v2, .int v3, .int (b2i ((¬ ((I 87 v3.toNatClampNeg) ≤ (0 : Int32))) ∧ ((its I v3 (2 : Int32)) = v1))), .retAddr 0] [.int y4012] (SH, I, J) (0, 0) := by
        intro y4012 ey4012
        subst ey4012
        refine U_istore (L2 := [.ref 68, .int v1, .int v2, .int v3, .int (b2i ((¬ ((I 87 v3.toNatClampNeg) ≤ (0 : Int32))) ∧ ((its I v3 (2 : Int32)) = v1))), .int (b2i ((v2 = (-4 : Int32)) ∨ (((¬ v1 = (0 : Int32)) ∧ (¬ ((its I v2 (3 : Int32)) ≤ (its I v3 (3 : Int32))))) ∨ ((v1 = (0 : Int32)) ∧ (¬ ((its I v3 (3 : Int32)) ≤ (its I v2 (3 : Int32))))))))]) dX12_bestOf_91 (by decide) rfl ?_
        refine V_iload dX12_bestOf_93 rfl ?_
        have key4017 : ∀ (y6018 : Int32), y6018 = (if ¬ ((¬ ((I 87 v3.toNatClampNeg) ≤ (0 : Int32))) ∧ ((its I v3 (2 : Int32)) = v1)) then v2 else (if ¬ ((v2 = (-4 : Int32)) ∨ (((¬ v1 = (0 : Int32)) ∧ (¬ ((its I v2 (3 : Int32)) ≤ (its I v3 (3 : Int32))))) ∨ ((v1 = (0 : Int32)) ∧ (¬ ((its I v3 (3 : Int32)) ≤ (its I v2 (3 : Int32))))))) then v2 else v3)) → V E mX12_bestOf (kI SH P) 108 [.ref 68, .int v1, .int v2, .int v3, .int (b2i ((¬ ((I 87 v3.toNatClampNeg) ≤ (0 : Int32))) ∧ ((its I v3 (2 : Int32)) = v1))), .int (b2i ((v2 = (-4 : Int32)) ∨ (((¬ v1 = (0 : Int32)) ∧ (¬ ((its I v2 (3 : Int32)) ≤ (its I v3 (3 : Int32))))) ∨ ((v1 = (0 : Int32)) ∧ (¬ ((its I v3 (3 : Int32)) ≤ (its I v2 (3 : Int32))))))))] [.int y6018] (SH, I, J) (0, 0) := by
          intro y6018 ey6018
          subst ey6018
          refine U_istore_n (L2 := [.ref 68, .int v1, .int (if ¬ ((¬ ((I 87 v3.toNatClampNeg) ≤ (0 : Int32))) ∧ ((its I v3 (2 : Int32)) = v1)) then v2 else (if ¬ ((v2 = (-4 : Int32)) ∨ (((¬ v1 = (0 : Int32)) ∧ (¬ ((its I v2 (3 : Int32)) ≤ (its I v3 (3 : Int32))))) ∨ ((v1 = (0 : Int32)) ∧ (¬ ((its I v3 (3 : Int32)) ≤ (its I v2 (3 : Int32))))))) then v2 else v3)), .int v3, .int (b2i ((¬ ((I 87 v3.toNatClampNeg) ≤ (0 : Int32))) ∧ ((its I v3 (2 : Int32)) = v1))), .int (b2i ((v2 = (-4 : Int32)) ∨ (((¬ v1 = (0 : Int32)) ∧ (¬ ((its I v2 (3 : Int32)) ≤ (its I v3 (3 : Int32))))) ∨ ((v1 = (0 : Int32)) ∧ (¬ ((its I v3 (3 : Int32)) ≤ (its I v2 (3 : Int32))))))))]) dX12_bestOf_108 (by decide) rfl ?_
          refine U_iinc (v := v3 + (1 : Int32)) (L2 := [.ref 68, .int v1, .int (if ¬ ((¬ ((I 87 v3.toNatClampNeg) ≤ (0 : Int32))) ∧ ((its I v3 (2 : Int32)) = v1)) then v2 else (if ¬ ((v2 = (-4 : Int32)) ∨ (((¬ v1 = (0 : Int32)) ∧ (¬ ((its I v2 (3 : Int32)) ≤ (its I v3 (3 : Int32))))) ∨ ((v1 = (0 : Int32)) ∧ (¬ ((its I v3 (3 : Int32)) ≤ (its I v2 (3 : Int32))))))) then v2 else v3)), .int (v3 + (1 : Int32)), .int (b2i ((¬ ((I 87 v3.toNatClampNeg) ≤ (0 : Int32))) ∧ ((its I v3 (2 : Int32)) = v1))), .int (b2i ((v2 = (-4 : Int32)) ∨ (((¬ v1 = (0 : Int32)) ∧ (¬ ((its I v2 (3 : Int32)) ≤ (its I v3 (3 : Int32))))) ∨ ((v1 = (0 : Int32)) ∧ (¬ ((its I v3 (3 : Int32)) ≤ (its I v2 (3 : Int32))))))))]) dX12_bestOf_109 (by decide) rfl rfl rfl ?_
          refine V_goto dX12_bestOf_112 ?_
          exact V_wk (wk_eq (wk_eq (wk_eq (wk_eq (wk_j (wk_j (wk_nil))))))) k
        refine U_ifb_eq dX12_bestOf_95 (fun c6019 => ?_) (fun c6019 => ?_)
        · refine V_iload_n dX12_bestOf_107 rfl ?_
          exact key4017 _ (by rw [if_pos c6019])
        · refine V_iload dX12_bestOf_98 rfl ?_
          refine U_ifb_eq dX12_bestOf_100 (fun c6020 => ?_) (fun c6020 => ?_)
          · refine V_iload_n dX12_bestOf_107 rfl ?_
            exact key4017 _ (by rw [if_neg (not_not_intro c6019), if_pos c6020])
          · refine V_iload_n dX12_bestOf_103 rfl ?_
            refine V_goto dX12_bestOf_104 ?_
            exact key4017 _ (by rw [if_neg (not_not_intro c6019), if_neg (not_not_intro c6020)])
      refine V_icmp_eq dX12_bestOf_46 (fun c6021 => ?_) (fun c6021 => ?_)
      · refine V_iconst (v := (1 : Int32)) dX12_bestOf_86 rfl ?_
        refine V_goto dX12_bestOf_87 ?_
        exact key2007 _ ((b2i_1.mpr (Or.inl c6021)).symm)
      · refine V_iload_n dX12_bestOf_49 rfl ?_
        refine V_if_ne dX12_bestOf_50 (fun c6022 => ?_) (fun c6022 => ?_)
        · refine V_aload_n dX12_bestOf_71 rfl ?_
          refine V_iload_n dX12_bestOf_72 rfl ?_
          refine V_iconst (v := (3 : Int32)) dX12_bestOf_73 rfl ?_
          have hp4008 := hc4013 c6021 c6022
          refine U_callV1 [.int v3, .int (3 : Int32)] dX12_bestOf_74 ov_X12_202 s_68 rfl ⟨rfl, rfl, rfl⟩ rfl rfl rfl (tX12_its hp4008 ?_)
          refine V_aload_n dX12_bestOf_77 rfl ?_
          refine V_iload_n dX12_bestOf_78 rfl ?_
          refine V_iconst (v := (3 : Int32)) dX12_bestOf_79 rfl ?_
          have hp4009 := hc4014 c6021 c6022
          refine U_callV1 [.int v2, .int (3 : Int32)] dX12_bestOf_80 ov_X12_202 s_68 rfl ⟨rfl, rfl, rfl⟩ rfl rfl rfl (tX12_its hp4009 ?_)
          refine V_icmp_ge dX12_bestOf_83 (fun c6023 => ?_) (fun c6023 => ?_)
          · refine V_iconst (v := (0 : Int32)) dX12_bestOf_90 rfl ?_
            exact key2007 _ ((b2i_0.mpr (fun q => q.elim (fun z => c6021 z) (fun q => q.elim (fun z => (fun q => q c6023) z.2) (fun z => c6022 z.1)))).symm)
          · refine V_iconst (v := (1 : Int32)) dX12_bestOf_86 rfl ?_
            refine V_goto dX12_bestOf_87 ?_
            exact key2007 _ ((b2i_1.mpr (Or.inr (Or.inl ⟨c6022, c6023⟩))).symm)
        · refine V_aload_n dX12_bestOf_53 rfl ?_
          refine V_iload_n dX12_bestOf_54 rfl ?_
          refine V_iconst (v := (3 : Int32)) dX12_bestOf_55 rfl ?_
          have hp4010 := hc4015 c6021 c6022
          refine U_callV1 [.int v3, .int (3 : Int32)] dX12_bestOf_56 ov_X12_202 s_68 rfl ⟨rfl, rfl, rfl⟩ rfl rfl rfl (tX12_its hp4010 ?_)
          refine V_aload_n dX12_bestOf_59 rfl ?_
          refine V_iload_n dX12_bestOf_60 rfl ?_
          refine V_iconst (v := (3 : Int32)) dX12_bestOf_61 rfl ?_
          have hp4011 := hc4016 c6021 c6022
          refine U_callV1 [.int v2, .int (3 : Int32)] dX12_bestOf_62 ov_X12_202 s_68 rfl ⟨rfl, rfl, rfl⟩ rfl rfl rfl (tX12_its hp4011 ?_)
          refine V_icmp_le dX12_bestOf_65 (fun c6024 => ?_) (fun c6024 => ?_)
          · refine V_iconst (v := (0 : Int32)) dX12_bestOf_90 rfl ?_
            exact key2007 _ ((b2i_0.mpr (fun q => q.elim (fun z => c6021 z) (fun q => q.elim (fun z => z.1 c6022) (fun z => (fun q => q c6024) z.2)))).symm)
          · refine V_goto dX12_bestOf_68 ?_
            refine V_iconst (v := (1 : Int32)) dX12_bestOf_86 rfl ?_
            refine V_goto dX12_bestOf_87 ?_
            exact key2007 _ ((b2i_1.mpr (Or.inr (Or.inr ⟨c6022, c6024⟩))).symm)
    refine V_if_le dX12_bestOf_23 (fun c6025 => ?_) (fun c6025 => ?_)
    · refine V_iconst (v := (0 : Int32)) dX12_bestOf_40 rfl ?_
      exact key3 _ ((b2i_0.mpr (fun q => q.1 c6025)).symm)
    · refine V_aload_n dX12_bestOf_26 rfl ?_
      refine V_iload_n dX12_bestOf_27 rfl ?_
      refine V_iconst (v := (2 : Int32)) dX12_bestOf_28 rfl ?_
      have hp2004 := hc2006 c6025
      refine U_callV1 [.int v3, .int (2 : Int32)] dX12_bestOf_29 ov_X12_202 s_68 rfl ⟨rfl, rfl, rfl⟩ rfl rfl rfl (tX12_its hp2004 ?_)
      refine V_iload_n dX12_bestOf_32 rfl ?_
      refine V_icmp_ne dX12_bestOf_33 (fun c6026 => ?_) (fun c6026 => ?_)
      · refine V_iconst (v := (0 : Int32)) dX12_bestOf_40 rfl ?_
        exact key3 _ ((b2i_0.mpr (fun q => (fun q => c6026 q) q.2)).symm)
      · refine V_iconst (v := (1 : Int32)) dX12_bestOf_36 rfl ?_
        refine V_goto dX12_bestOf_37 ?_
        exact key3 _ ((b2i_1.mpr (⟨c6025, c6026⟩)).symm)
theorem bestM_loop {E : aE} {P : Int32 → hI_ → hJ_ → Prop} {I : hI_} {J : hJ_} {L : Nat → Nat} {s : Int32} (h : Rel I) (hs : s = 0 ∨ s = 1) (hL : ∀ j, j < nC I → I 87 j = nI (L j)) (hL2 : ∀ j, L j ≤ 99) (k : P (enM (bsN I L s (nC I))) I J) : ∀ (m c : Nat), c + m = nC I → HX12_bestOf_5 E P s (enM (bsN I L s c)) (nI c) I J
  | 0, c, hc => by
    have hC := Rel_C h
    have e : c = nC I := by omega
    refine wX12_bestOf_5 ?_
    rw [hC.2.1, e]
    exact ⟨fun _ => k, fun z => absurd (nI_le (by omega) (by omega)) z⟩
  | m + 1, c, hc => by
    have hC := Rel_C h
    have vc : vp_in (nI c) 12 := vp_in_nI (by omega) (by omega)
    have hLc := hL2 c
    have i : ∀ j, j < 8 → inC (nI c) (nI j) := fun j hj => inC_nI (by omega) hj
    have e2 : its I (nI c) 2 = cK I c 2 := its_cK (j := 2) (by omega) (by omega)
    have pc := pc_ok h (c := c) (by omega)
    have e3 : its I (nI c) 3 = nI (pcN I c) := (its_cK (j := 3) (by omega) (by omega)).trans pc.1
    have e0 : (nI (L c) ≤ 0) ↔ L c = 0 := by
      constructor
      · intro y
        rcases Nat.eq_zero_or_pos (L c) with q | q
        · exact q
        · exact absurd y (nI_ge (a := 0) q (by omega))
      · intro y; rw [y]; exact Int32.le_refl 0
    have nx := bestM_loop (E := E) h hs hL hL2 k m (c + 1) (by omega)
    have e : bsN I L s (c + 1) = bsP I L s c (bsN I L s c) := rfl
    rw [e] at nx
    have ib : ∀ b, bsN I L s c = some b → inC (enM (bsN I L s c)) 3 := fun b hb => by
      have hb2 := (bsN_lt c b hb).1
      rw [hb]; exact inC_nI (j := 3) (by omega) (by omega)
    have ib2 : ¬ enM (bsN I L s c) = -4 → inC (enM (bsN I L s c)) 3 := fun z => by
      cases hb : bsN I L s c with
      | none => rw [hb] at z; exact absurd rfl z
      | some b => rw [← hb]; exact ib b hb
    refine wX12_bestOf_5 ?_
    rw [hC.2.1, nI_clamp (by omega), hL c (by omega), e2, e3, nI_1]
    refine ⟨fun z => absurd z (nI_ge (by omega) (by omega)), fun _ => ⟨vc, fun _ => i 2 (by omega), fun _ _ => i 3 (by omega), fun z _ => ib2 z, fun _ _ => i 3 (by omega), fun z _ => ib2 z, ?_⟩⟩
    by_cases z' : L c = 0 ∨ ¬ cK I c 2 = s
    · have ng : ¬ ((¬ (nI (L c) ≤ 0)) ∧ (cK I c 2 = s)) := fun y => z'.elim (fun q => y.1 (e0.mpr q)) (fun q => q y.2)
      rw [if_pos ng]
      cases hb : bsN I L s c with
      | none => rw [hb] at nx; have e4 : bsP I L s c none = none := if_pos z'; rw [e4] at nx; exact nx
      | some b => rw [hb] at nx; have e4 : bsP I L s c (some b) = some b := if_pos z'; rw [e4] at nx; exact nx
    · have ng : ¬ ¬ ((¬ (nI (L c) ≤ 0)) ∧ (cK I c 2 = s)) := fun y => y ⟨fun q => z' (Or.inl (e0.mp q)), Classical.byContradiction (fun q => z' (Or.inr q))⟩
      rw [if_neg ng]
      cases hb : bsN I L s c with
      | none =>
        rw [hb] at nx
        have e4 : bsP I L s c none = some c := if_neg z'
        rw [e4] at nx
        rw [if_neg (fun y => y (Or.inl rfl))]; exact nx
      | some b =>
        rw [hb] at nx
        have hb2 := (bsN_lt c b hb).1
        have pb := pc_ok h (c := b) (by omega)
        have e3b : its I (enM (some b)) 3 = nI (pcN I b) := (its_cK (j := 3) (by omega) (by omega)).trans pb.1
        have e4 : bsP I L s c (some b) = if btB I s c b = true then some c else some b := if_neg z'
        rw [e4] at nx
        rw [e3b]
        have n4 : ¬ enM (some b) = -4 := neg4_nI (by omega)
        have lecb : (nI (pcN I b) ≤ nI (pcN I c)) ↔ pcN I b ≤ pcN I c := by
          constructor
          · intro y
            rcases Nat.lt_or_ge (pcN I c) (pcN I b) with q | q
            · exact absurd y (nI_ge q (by omega))
            · exact q
          · intro y; exact nI_le y (by omega)
        have lebc : (nI (pcN I c) ≤ nI (pcN I b)) ↔ pcN I c ≤ pcN I b := by
          constructor
          · intro y
            rcases Nat.lt_or_ge (pcN I b) (pcN I c) with q | q
            · exact absurd y (nI_ge q (by omega))
            · exact q
          · intro y; exact nI_le y (by omega)
        have key : ((enM (some b) = -4) ∨ (((¬ s = 0) ∧ (¬ (nI (pcN I b) ≤ nI (pcN I c)))) ∨ ((s = 0) ∧ (¬ (nI (pcN I c) ≤ nI (pcN I b)))))) ↔ btB I s c b = true := by
          rw [lecb, lebc]
          rcases hs with hs | hs
          · have eb : btB I s c b = decide (pcN I b < pcN I c) := if_neg (by rw [hs]; decide)
            rw [eb, decide_eq_true_eq]
            constructor
            · rintro (y | y | y)
              · exact absurd y n4
              · exact absurd hs y.1
              · omega
            · intro y; exact Or.inr (Or.inr ⟨hs, by omega⟩)
          · have eb : btB I s c b = decide (pcN I c < pcN I b) := if_pos hs
            have s0 : ¬ s = 0 := by rw [hs]; decide
            rw [eb, decide_eq_true_eq]
            constructor
            · rintro (y | y | y)
              · exact absurd y n4
              · omega
              · exact absurd y.1 s0
            · intro y; exact Or.inr (Or.inl ⟨s0, by omega⟩)
        by_cases q : btB I s c b = true
        · rw [if_pos q] at nx
          rw [if_neg (fun y => y (key.mpr q))]; exact nx
        · rw [if_neg q] at nx
          rw [if_pos (fun y => q (key.mp y))]; exact nx
theorem tX12_bestOf {E : aE} {P : Int32 → hI_ → hJ_ → Prop} {I : hI_} {J : hJ_} {L : Nat → Nat} {s : Int32} (h : Rel I) (hs : s = 0 ∨ s = 1) (hL : ∀ j, j < nC I → I 87 j = nI (L j)) (hL2 : ∀ j, L j ≤ 99) (k : P (enM (bsN I L s (nC I))) I J) : CallI E mX12_bestOf [.ref 68, .int s] SH I J P := wX12_bestOf (bestM_loop h hs hL hL2 k (nC I) 0 (by omega))
