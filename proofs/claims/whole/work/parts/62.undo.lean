/-- what is over the most -/
noncomputable def nd (I : hI_) (p : Nat) : Int := sel (xP I p) (fun _ => true) (nD I) - (I 73 7).toInt
theorem xP_X {I I2 : hI_} (h : agX I I2) (p : Nat) : xP I2 p = xP I p := by
  funext d
  unfold xP
  rw [nD_X h, py_X h]
theorem nd_X {I I2 : hI_} (h : agX I I2) (p : Nat) : nd I2 p = nd I p := by unfold nd; rw [xP_X h, nD_X h, h 73 rfl]
theorem most_b {I : hI_} (h : Rel I) : 1 ≤ (I 73 7).toInt ∧ (I 73 7).toInt ≤ 999 := h.2.1.2.2.2.2.2.2.1.2
theorem nd_b {I : hI_} (h : Rel I) (p : Nat) : -2400000 ≤ nd I p ∧ nd I p ≤ 2400000 := by
  have hD := (Rel_D h).2.2
  have := most_b h
  have := sel_b (U := fun _ => true) (xP_b h p) (nD I)
  unfold nd
  omega
theorem cnt_1 : ∀ d, cntB (fun _ => true) d = d
  | 0 => rfl
  | d + 1 => by
    have e : cntB (fun _ => true) (d + 1) = cntB (fun _ => true) d + 1 := rfl
    rw [e, cnt_1 d]
theorem nd_top {I : hI_} (h : Rel I) (p : Nat) : nd I p ≤ gG (xP I p) (nD I) (nD I) := by
  have := gG_sel (x := xP I p) (U := fun _ => true) (nD I) (nD I) (by rw [cnt_1]; exact Nat.le_refl _)
  have := most_b h
  unfold nd
  omega
theorem dbt_999 {I : hI_} (h : Rel I) {p : Nat} : ∀ n, n ≤ nD I → dbt I p 999 n = Int32.ofInt (sel (xP I p) (fun _ => true) n)
  | 0, _ => rfl
  | n + 1, hn => by
    rw [dbt_s, sel_s, if_pos rfl, dbt_999 h n (by omega)]
    by_cases z : 999 < aD I n
    · have t0 : tk I n = 0 := by
        by_cases w : tk I n = 0
        · exact w
        · have := tk_999 h (d := n) (by omega) w; omega
      have x0 : xP I p n = 0 := by
        unfold xP
        rw [if_pos (by omega), py_0 t0]; rfl
      rw [if_pos z, x0, Int.add_zero]
    · rw [if_neg z, xP_py (show n < nD I by omega), oI_add]
def isF (I : hI_) (p F : Nat) : Prop := F ≤ nD I ∧ nd I p ≤ gG (xP I p) (nD I) F ∧ ∀ n, n < F → gG (xP I p) (nD I) n < nd I p
theorem isF_eq {I : hI_} {p F G : Nat} (hF : isF I p F) (hG : isF I p G) : F = G := by
  rcases Nat.lt_trichotomy F G with z | z | z
  · have := hG.2.2 F z
    have := hF.2.1
    omega
  · exact z
  · have := hF.2.2 G z
    have := hG.2.1
    omega
theorem isF_X {I I2 : hI_} (h : agX I I2) {p F : Nat} (hF : isF I p F) : isF I2 p F := by
  unfold isF at hF ⊢
  rw [nd_X h, xP_X h, nD_X h]
  exact hF
def FX (I0 I : hI_) (p : Nat) : Prop := SX I0 I (fun _ => true) ∧ (∀ e, e < nD I0 → I 32 e = Int32.ofInt (xP I0 p e)) ∧ I 29 11 = Int32.ofInt (nd I0 p)
theorem SX_up {I0 I : hI_} {g : Nat → Bool} {a i : Nat} {v : Int32} (ha : scX a = true) (h1 : a ≠ 31) (h2 : a ≠ 33) (h3 : a ≠ 34) (h4 : a ≠ 35) (hs : SX I0 I g) : SX I0 (upI I a i v) g := by
  have e : ∀ b, b ≠ a → upI I a i v b = I b := fun b hb => by funext j; rw [upI_at, if_neg (fun z => hb z.1)]
  refine ⟨agX_tr hs.1 (agX_up ha), ?_, ?_⟩
  · rw [e 33 (fun z => h2 z.symm), e 34 (fun z => h3 z.symm), e 35 (fun z => h4 z.symm)]; exact hs.2.1
  · rw [e 31 (fun z => h1 z.symm)]; exact hs.2.2
def HX7_fewestUndone_2 (E : aE) (P : Int32 → hI_ → hJ_ → Prop) (v1 : Int32) (v2 : Int32) (I : hI_) (J : hJ_) : Prop := V E mX7_fewestUndone (kI SH P) 2 [.ref 29, .int v1, .int v2] [] (SH, I, J) (0, 0)
def HX7_fewestUndone_53 (E : aE) (P : Int32 → hI_ → hJ_ → Prop) (v2 : Int32) (I : hI_) (J : hJ_) : Prop := V E mX7_fewestUndone (kI SH P) 53 [.ref 29, .retAddr 0, .int v2] [] (SH, I, J) (0, 0)
set_option maxHeartbeats 4000000 in
set_option maxRecDepth 20000 in
theorem wX7_fewestUndone {E : aE} {P : Int32 → hI_ → hJ_ → Prop} {I : hI_} {J : hJ_} {a0 : Int32} (k : HX7_fewestUndone_2 E P a0 (0 : Int32) I J) : CallI E mX7_fewestUndone [.ref 29, .int a0] SH I J P := by
  refine Call_of (L := [.ref 29, .int a0, .retAddr 0]) ok_X7_fewestUndone.1 rfl rfl ?_
  refine V_iconst (v := (0 : Int32)) dX7_fewestUndone_0 rfl ?_
  refine U_istore_n (L2 := [.ref 29, .int a0, .int (0 : Int32)]) dX7_fewestUndone_1 (by decide) rfl ?_
  exact k
set_option maxHeartbeats 4000000 in
set_option maxRecDepth 20000 in
theorem wX7_fewestUndone_2 {E : aE} {P : Int32 → hI_ → hJ_ → Prop} {I : hI_} {J : hJ_} {v1 : Int32} {v2 : Int32} (k : (((I 26 3) ≤ v2 → CallI E mX7_debt [.ref 29, .int v1, .int (999 : Int32)] SH I J (fun x2 I3 J4 => HX7_fewestUndone_53 E P (0 : Int32) (upI I3 29 11 (x2 - (I3 3 10))) J4)) ∧ (¬ ((I 26 3) ≤ v2) → CallI E mX7_payment [.ref 29, .int v1, .int v2] SH I J (fun x5 I6 J7 => (vp_in v2 24) ∧ HX7_fewestUndone_2 E P v1 (v2 + (1 : Int32)) (upI I6 32 v2.toNatClampNeg x5) J7)))) : HX7_fewestUndone_2 E P v1 v2 I J := by
  show V E mX7_fewestUndone (kI SH P) 2 [.ref 29, .int v1, .int v2] [] (SH, I, J) (0, 0)
  refine V_iload_n dX7_fewestUndone_2 rfl ?_
  refine V_aload_n dX7_fewestUndone_3 rfl ?_
  refine U_getR dX7_fewestUndone_4 fl_X7_52 s_29 rfl ?_
  refine U_getI dX7_fewestUndone_7 fl_X7_53 s_26 rfl ?_
  refine V_icmp_ge dX7_fewestUndone_10 (fun c1 => ?_) (fun c1 => ?_)
  · have k := k.1 c1
    refine V_aload_n dX7_fewestUndone_31 rfl ?_
    refine V_aload_n dX7_fewestUndone_32 rfl ?_
    refine V_iload_n dX7_fewestUndone_33 rfl ?_
    refine V_sipush (v := (999 : Int32)) dX7_fewestUndone_34 rfl ?_
    refine U_callV1 [.int v1, .int (999 : Int32)] dX7_fewestUndone_37 ov_X7_103 s_29 rfl ⟨rfl, rfl, rfl⟩ rfl rfl rfl (CallI_mono k (fun x2 I3 J4 k => ?_))
    refine V_aload_n dX7_fewestUndone_40 rfl ?_
    refine U_getR dX7_fewestUndone_41 fl_X7_30 s_29 rfl ?_
    refine U_getI dX7_fewestUndone_44 fl_X7_109 s_3 rfl ?_
    refine V_isub dX7_fewestUndone_47 ?_
    refine U_putI dX7_fewestUndone_48 fp_X7_112 s_29 rfl ?_
    refine V_iconst (v := (0 : Int32)) dX7_fewestUndone_51 rfl ?_
    refine U_istore_n (L2 := [.ref 29, .int v1, .int (0 : Int32)]) dX7_fewestUndone_52 (by decide) rfl ?_
    exact V_wk (wk_eq (wk_j (wk_eq (wk_nil)))) k
  · have k := k.2 c1
    refine V_aload_n dX7_fewestUndone_13 rfl ?_
    refine U_getR dX7_fewestUndone_14 fl_X7_18 s_29 rfl ?_
    refine V_iload_n dX7_fewestUndone_17 rfl ?_
    refine V_aload_n dX7_fewestUndone_18 rfl ?_
    refine V_iload_n dX7_fewestUndone_19 rfl ?_
    refine V_iload_n dX7_fewestUndone_20 rfl ?_
    refine U_callV1 [.int v1, .int v2] dX7_fewestUndone_21 ov_X7_97 s_29 rfl ⟨rfl, rfl, rfl⟩ rfl rfl rfl (CallI_mono k (fun x5 I6 J7 k => ?_))
    obtain ⟨hb8, k⟩ := k
    refine U_iast dX7_fewestUndone_24 s_32 hb8 ?_
    refine U_iinc (v := v2 + (1 : Int32)) (L2 := [.ref 29, .int v1, .int (v2 + (1 : Int32))]) dX7_fewestUndone_25 (by decide) rfl rfl rfl ?_
    refine V_goto dX7_fewestUndone_28 ?_
    exact k
set_option maxHeartbeats 4000000 in
set_option maxRecDepth 20000 in
theorem wX7_fewestUndone_53 {E : aE} {P : Int32 → hI_ → hJ_ → Prop} {I : hI_} {J : hJ_} {v2 : Int32} (k : (((I 26 3) ≤ v2 → P (I 26 3) I J) ∧ (¬ ((I 26 3) ≤ v2) → CallI E mX7_sumOfDearest [.ref 29, .int v2, .int (I 26 3)] SH I J (fun x2 I3 J4 => ((x2 < (I3 29 11) → HX7_fewestUndone_53 E P (v2 + (1 : Int32)) I3 J4) ∧ (¬ (x2 < (I3 29 11)) → P v2 I3 J4)))))) : HX7_fewestUndone_53 E P v2 I J := by
  show V E mX7_fewestUndone (kI SH P) 53 [.ref 29, .retAddr 0, .int v2] [] (SH, I, J) (0, 0)
  refine V_iload_n dX7_fewestUndone_53 rfl ?_
  refine V_aload_n dX7_fewestUndone_54 rfl ?_
  refine U_getR dX7_fewestUndone_55 fl_X7_52 s_29 rfl ?_
  refine U_getI dX7_fewestUndone_58 fl_X7_53 s_26 rfl ?_
  refine V_icmp_ge dX7_fewestUndone_61 (fun c1 => ?_) (fun c1 => ?_)
  · have k := k.1 c1
    refine V_aload_n dX7_fewestUndone_91 rfl ?_
    refine U_getR dX7_fewestUndone_92 fl_X7_52 s_29 rfl ?_
    refine U_getI dX7_fewestUndone_95 fl_X7_53 s_26 rfl ?_
    exact V_iret dX7_fewestUndone_98 ⟨_, rfl, rfl⟩ rfl rfl ⟨_, _, _, rfl, rfl, k⟩
  · have k := k.2 c1
    refine V_aload_n dX7_fewestUndone_64 rfl ?_
    refine V_iload_n dX7_fewestUndone_65 rfl ?_
    refine V_aload_n dX7_fewestUndone_66 rfl ?_
    refine U_getR dX7_fewestUndone_67 fl_X7_52 s_29 rfl ?_
    refine U_getI dX7_fewestUndone_70 fl_X7_53 s_26 rfl ?_
    refine U_callV1 [.int v2, .int (I 26 3)] dX7_fewestUndone_73 ov_X7_115 s_29 rfl ⟨rfl, rfl, rfl⟩ rfl rfl rfl (CallI_mono k (fun x2 I3 J4 k => ?_))
    refine V_aload_n dX7_fewestUndone_76 rfl ?_
    refine U_getI dX7_fewestUndone_77 fl_X7_112 s_29 rfl ?_
    refine V_icmp_lt dX7_fewestUndone_80 (fun c5 => ?_) (fun c5 => ?_)
    · have k := k.1 c5
      refine U_iinc (v := v2 + (1 : Int32)) (L2 := [.ref 29, .retAddr 0, .int (v2 + (1 : Int32))]) dX7_fewestUndone_85 (by decide) rfl rfl rfl ?_
      refine V_goto dX7_fewestUndone_88 ?_
      exact k
    · have k := k.2 c5
      refine V_iload_n dX7_fewestUndone_83 rfl ?_
      exact V_iret dX7_fewestUndone_84 ⟨_, rfl, rfl⟩ rfl rfl ⟨_, _, _, rfl, rfl, k⟩
theorem fewX_53 {E : aE} {P : Int32 → hI_ → hJ_ → Prop} {I0 I : hI_} {J : hJ_} {p : Nat} (h : Rel I0) (hf : FX I0 I p) (k : ∀ F, isF I0 p F → P (nI F) I J) : ∀ (m n : Nat), n + m = nD I0 → (∀ j, j < n → gG (xP I0 p) (nD I0) j < nd I0 p) → HX7_fewestUndone_53 E P (nI n) I J
  | 0, n, hn, hj => by
    have hD := Rel_D h
    have e : n = nD I0 := by omega
    refine wX7_fewestUndone_53 ?_
    rw [hf.1.1 26 rfl, hD.1]
    refine ⟨fun _ => k _ ⟨Nat.le_refl _, nd_top h p, by rw [← e]; exact e ▸ hj⟩, fun z => absurd (nI_le (by omega) (by omega)) z⟩
  | m + 1, n, hn, hj => by
    have hD := Rel_D h
    have nb := nd_b h p
    refine wX7_fewestUndone_53 ?_
    rw [hf.1.1 26 rfl, hD.1, nI_1 n]
    refine ⟨fun z => absurd z (nI_ge (by omega) (by omega)), fun _ => ?_⟩
    refine tX7_sumOfDearest hf.2.1 (xP_b h p) hD.2.2 (Nat.le_refl _) (by omega) (fun s hs s1 s2 => ?_)
    rw [hf.2.2]
    have ol := oI_lt (a := s) (b := nd I0 p) (by omega) (by omega)
    refine ⟨fun z => ?_, fun z => k n ⟨by omega, ?_, hj⟩⟩
    · have z := ol.mp z
      refine fewX_53 h hf k m (n + 1) (by omega) (fun j hj2 => ?_)
      by_cases w : j = n
      · rw [w]
        rcases hs with hs | ⟨a1, a2, a3⟩
        · omega
        · have := hj (n - 1) (by omega); omega
      · exact hj j (by omega)
    · have z : ¬ s < nd I0 p := fun y => z (ol.mpr y)
      rcases hs with hs | ⟨a1, a2, a3⟩
      · omega
      · omega
theorem fewX_2 {E : aE} {P : Int32 → hI_ → hJ_ → Prop} {I0 : hI_} {J : hJ_} {p : Nat} (h : Rel I0) (k : ∀ I2 F, FX I0 I2 p → isF I0 p F → P (nI F) I2 J) : ∀ (m n : Nat) (I : hI_), n + m = nD I0 → SX I0 I (fun _ => true) → (∀ e, e < n → I 32 e = Int32.ofInt (xP I0 p e)) → HX7_fewestUndone_2 E P (nI p) (nI n) I J
  | 0, n, I, hn, hs, q => by
    have hD := Rel_D h
    refine wX7_fewestUndone_2 ?_
    rw [hs.1 26 rfl, hD.1]
    refine ⟨fun _ => tX7_debt (t := 999) h hs (by omega) ?_, fun z => absurd (nI_le (by omega) (by omega)) z⟩
    have ev : dbt I0 p 999 (nD I0) - I 3 10 = Int32.ofInt (nd I0 p) := by
      rw [dbt_999 h _ (Nat.le_refl _), hs.1 3 rfl, Rel_most h]
      unfold nd
      rw [← oI_sub, Int32.ofInt_toInt]
    rw [ev]
    have hf : FX I0 (upI I 29 11 (Int32.ofInt (nd I0 p))) p := ⟨SX_up rfl (by omega) (by omega) (by omega) (by omega) hs, fun e he => by rw [upI_at, if_neg (by omega)]; exact q e (by omega), upI_same⟩
    exact fewX_53 h hf (fun F hF => k _ F hf hF) (nD I0) 0 (by omega) (fun j hj => by omega)
  | m + 1, n, I, hn, hs, q => by
    have hD := Rel_D h
    have hnn : n < nD I0 := by omega
    refine wX7_fewestUndone_2 ?_
    rw [hs.1 26 rfl, hD.1, nI_1 n]
    refine ⟨fun z => absurd z (nI_ge (by omega) (by omega)), fun _ => tX7_payment h hs hnn ⟨vp_in_nI (by omega) (by omega), ?_⟩⟩
    rw [nI_clamp (by omega)]
    refine fewX_2 h k m (n + 1) _ (by omega) (SX_up rfl (by omega) (by omega) (by omega) (by omega) hs) (fun e he => ?_)
    rw [upI_at]
    by_cases w : e = n
    · rw [if_pos ⟨rfl, w⟩, w, xP_py hnn]
    · rw [if_neg (fun v => w v.2)]; exact q e (by omega)
/-- the least of the sets -/
def lsU (x : Nat → Int) : Nat → Nat → Int → Int32 → Int32
  | 0, _, _, b => b
  | d + 1, n, l, b => if n = 0 then b else if l ≤ gG x d n then lsU x d n l b else lsU x d (n - 1) (l - x d) (b ||| (1 <<< (nI d &&& 31)))
theorem lsU_s (x : Nat → Int) (d n : Nat) (l : Int) (b : Int32) : lsU x (d + 1) n l b = if n = 0 then b else if l ≤ gG x d n then lsU x d n l b else lsU x d (n - 1) (l - x d) (b ||| (1 <<< (nI d &&& 31))) := rfl
def HX7_leastUndone_21 (E : aE) (P : Int32 → hI_ → hJ_ → Prop) (v2 : Int32) (v3 : Int32) (v4 : Int32) (v5 : Int32) (I : hI_) (J : hJ_) : Prop := V E mX7_leastUndone (kI SH P) 21 [.ref 29, .retAddr 0, .int v2, .int v3, .int v4, .int v5] [] (SH, I, J) (0, 0)
set_option maxHeartbeats 4000000 in
set_option maxRecDepth 20000 in
theorem wX7_leastUndone {E : aE} {P : Int32 → hI_ → hJ_ → Prop} {I : hI_} {J : hJ_} {a0 : Int32} (k : HX7_leastUndone_21 E P (0 : Int32) (I 29 11) a0 ((I 26 3) - (1 : Int32)) I J) : CallI E mX7_leastUndone [.ref 29, .int a0] SH I J P := by
  refine Call_of (L := [.ref 29, .int a0, .retAddr 0, .retAddr 0, .retAddr 0, .retAddr 0]) ok_X7_leastUndone.1 rfl rfl ?_
  refine V_iconst (v := (0 : Int32)) dX7_leastUndone_0 rfl ?_
  refine U_istore_n (L2 := [.ref 29, .int a0, .int (0 : Int32), .retAddr 0, .retAddr 0, .retAddr 0]) dX7_leastUndone_1 (by decide) rfl ?_
  refine V_aload_n dX7_leastUndone_2 rfl ?_
  refine U_getI dX7_leastUndone_3 fl_X7_112 s_29 rfl ?_
  refine U_istore_n (L2 := [.ref 29, .int a0, .int (0 : Int32), .int (I 29 11), .retAddr 0, .retAddr 0]) dX7_leastUndone_6 (by decide) rfl ?_
  refine V_iload_n dX7_leastUndone_7 rfl ?_
  refine U_istore (L2 := [.ref 29, .int a0, .int (0 : Int32), .int (I 29 11), .int a0, .retAddr 0]) dX7_leastUndone_8 (by decide) rfl ?_
  refine V_aload_n dX7_leastUndone_10 rfl ?_
  refine U_getR dX7_leastUndone_11 fl_X7_52 s_29 rfl ?_
  refine U_getI dX7_leastUndone_14 fl_X7_53 s_26 rfl ?_
  refine V_iconst (v := (1 : Int32)) dX7_leastUndone_17 rfl ?_
  refine V_isub dX7_leastUndone_18 ?_
  refine U_istore (L2 := [.ref 29, .int a0, .int (0 : Int32), .int (I 29 11), .int a0, .int ((I 26 3) - (1 : Int32))]) dX7_leastUndone_19 (by decide) rfl ?_
  exact V_wk (wk_eq (wk_j (wk_eq (wk_eq (wk_eq (wk_eq (wk_nil))))))) k
set_option maxHeartbeats 4000000 in
set_option maxRecDepth 20000 in
theorem wX7_leastUndone_21 {E : aE} {P : Int32 → hI_ → hJ_ → Prop} {I : hI_} {J : hJ_} {v2 : Int32} {v3 : Int32} {v4 : Int32} {v5 : Int32} (k : ((v5 < (0 : Int32) → P v2 I J) ∧ (¬ (v5 < (0 : Int32)) → ((v4 ≤ (0 : Int32) → P v2 I J) ∧ (¬ (v4 ≤ (0 : Int32)) → CallI E mX7_sumOfDearest [.ref 29, .int v4, .int v5] SH I J (fun x3 I4 J5 => ((¬ (v3 ≤ x3)) → vp_in v5 24) ∧ HX7_leastUndone_21 E P (if v3 ≤ x3 then v2 else (v2 ||| ((1 : Int32) <<< (v5 &&& 31)))) (if v3 ≤ x3 then v3 else (v3 - (I4 32 v5.toNatClampNeg))) (if v3 ≤ x3 then v4 else (v4 + (-1 : Int32))) (v5 + (-1 : Int32)) I4 J5)))))) : HX7_leastUndone_21 E P v2 v3 v4 v5 I J := by
  show V E mX7_leastUndone (kI SH P) 21 [.ref 29, .retAddr 0, .int v2, .int v3, .int v4, .int v5] [] (SH, I, J) (0, 0)
  refine V_iload dX7_leastUndone_21 rfl ?_
  refine V_if_lt dX7_leastUndone_23 (fun c1 => ?_) (fun c1 => ?_)
  · have k := k.1 c1
    refine V_iload_n dX7_leastUndone_69 rfl ?_
    exact V_iret dX7_leastUndone_70 ⟨_, rfl, rfl⟩ rfl rfl ⟨_, _, _, rfl, rfl, k⟩
  · have k := k.2 c1
    refine V_iload dX7_leastUndone_26 rfl ?_
    refine V_if_le dX7_leastUndone_28 (fun c2 => ?_) (fun c2 => ?_)
    · have k := k.1 c2
      refine V_iload_n dX7_leastUndone_69 rfl ?_
      exact V_iret dX7_leastUndone_70 ⟨_, rfl, rfl⟩ rfl rfl ⟨_, _, _, rfl, rfl, k⟩
    · have k := k.2 c2
      refine V_aload_n dX7_leastUndone_31 rfl ?_
      refine V_iload dX7_leastUndone_32 rfl ?_
      refine V_iload dX7_leastUndone_34 rfl ?_
      refine U_callV1 [.int v4, .int v5] dX7_leastUndone_36 ov_X7_115 s_29 rfl ⟨rfl, rfl, rfl⟩ rfl rfl rfl (CallI_mono k (fun x3 I4 J5 k => ?_))
      refine V_iload_n dX7_leastUndone_39 rfl ?_
      obtain ⟨hc2011, k⟩ := k
      have key6 : ∀ (y2008 : Int32) (y2009 : Int32) (y2010 : Int32), y2008 = (if v3 ≤ x3 then v2 else (v2 ||| ((1 : Int32) <<< (v5 &&& 31)))) → y2009 = (if v3 ≤ x3 then v3 else (v3 - (I4 32 v5.toNatClampNeg))) → y2010 = (if v3 ≤ x3 then v4 else (v4 + (-1 : Int32))) → V E mX7_leastUndone (kI SH P) 63 [.ref 29, .retAddr 0, .int y2008, .int y2009, .int y2010, .int v5] [] (SH, I4, J5) (0, 0) := by
        intro y2008 y2009 y2010 ey2008 ey2009 ey2010
        subst ey2008
        subst ey2009
        subst ey2010
        refine U_iinc (v := v5 + (-1 : Int32)) (L2 := [.ref 29, .retAddr 0, .int (if v3 ≤ x3 then v2 else (v2 ||| ((1 : Int32) <<< (v5 &&& 31)))), .int (if v3 ≤ x3 then v3 else (v3 - (I4 32 v5.toNatClampNeg))), .int (if v3 ≤ x3 then v4 else (v4 + (-1 : Int32))), .int (v5 + (-1 : Int32))]) dX7_leastUndone_63 (by decide) rfl rfl rfl ?_
        refine V_goto dX7_leastUndone_66 ?_
        exact k
      refine V_icmp_ge dX7_leastUndone_40 (fun c2012 => ?_) (fun c2012 => ?_)
      · exact key6 _ _ _ (by rw [if_pos c2012]) (by rw [if_pos c2012]) (by rw [if_pos c2012])
      · refine V_iload_n dX7_leastUndone_43 rfl ?_
        refine V_iconst (v := (1 : Int32)) dX7_leastUndone_44 rfl ?_
        refine V_iload dX7_leastUndone_45 rfl ?_
        refine V_ishl dX7_leastUndone_47 ?_
        refine V_ior dX7_leastUndone_48 ?_
        refine U_istore_n (L2 := [.ref 29, .retAddr 0, .int (v2 ||| ((1 : Int32) <<< (v5 &&& 31))), .int v3, .int v4, .int v5]) dX7_leastUndone_49 (by decide) rfl ?_
        refine V_iload_n dX7_leastUndone_50 rfl ?_
        refine V_aload_n dX7_leastUndone_51 rfl ?_
        refine U_getR dX7_leastUndone_52 fl_X7_18 s_29 rfl ?_
        refine V_iload dX7_leastUndone_55 rfl ?_
        have hb2007 := hc2011 c2012
        refine U_iald dX7_leastUndone_57 s_32 hb2007 ?_
        refine V_isub dX7_leastUndone_58 ?_
        refine U_istore_n (L2 := [.ref 29, .retAddr 0, .int (v2 ||| ((1 : Int32) <<< (v5 &&& 31))), .int (v3 - (I4 32 v5.toNatClampNeg)), .int v4, .int v5]) dX7_leastUndone_59 (by decide) rfl ?_
        refine U_iinc (v := v4 + (-1 : Int32)) (L2 := [.ref 29, .retAddr 0, .int (v2 ||| ((1 : Int32) <<< (v5 &&& 31))), .int (v3 - (I4 32 v5.toNatClampNeg)), .int (v4 + (-1 : Int32)), .int v5]) dX7_leastUndone_60 (by decide) rfl rfl rfl ?_
        exact key6 _ _ _ (by rw [if_neg c2012]) (by rw [if_neg c2012]) (by rw [if_neg c2012])
theorem leastX_loop {E : aE} {P : Int32 → hI_ → hJ_ → Prop} {I0 I : hI_} {J : hJ_} {p : Nat} (h : Rel I0) (hf : FX I0 I p) {r : Int32} (k : P r I J) : ∀ (d n : Nat) (l : Int) (b : Int32), d ≤ nD I0 → n ≤ 24 → (l + 98901 * (d : Int) ≤ 5000000 ∧ -5000000 ≤ l - 98901 * (d : Int)) → l ≤ gG (xP I0 p) d n → (1 ≤ n → gG (xP I0 p) d (n - 1) < l) → lsU (xP I0 p) d n l b = r → HX7_leastUndone_21 E P b (Int32.ofInt l) (nI n) (nI d - 1) I J
  | 0, n, l, b, hd, hn, hl, h1, h2, hr => by
    have e : lsU (xP I0 p) 0 n l b = b := rfl
    rw [e] at hr
    refine wX7_leastUndone_21 ⟨fun _ => by rw [hr]; exact k, fun z => absurd (show nI 0 - 1 < 0 by decide) z⟩
  | d + 1, n, l, b, hd, hn, hl, h1, h2, hr => by
    have hD := Rel_D h
    have em : nI (d + 1) - 1 = nI d := by rw [← nI_1 d]; exact Int32.add_sub_cancel _ _
    have em2 : nI d + (-1) = nI d - 1 := (Int32.sub_eq_add_neg _ _).symm
    have xb := xP_b h p d
    rw [lsU_s] at hr
    rw [em]
    refine wX7_leastUndone_21 ⟨fun z => absurd z (nI_pos (by omega)), fun _ => ⟨fun z => ?_, fun z => ?_⟩⟩
    · have z := (nI_leJ (b := 0) (by omega) (by omega)).mp z
      rw [if_pos (by omega)] at hr
      rw [hr]; exact k
    · have n0 : ¬ n = 0 := fun y => z (by rw [y]; exact Int32.le_refl _)
      rw [if_neg n0] at hr
      refine tX7_sumOfDearest hf.2.1 (xP_b h p) hD.2.2 (d := d) (by omega) hn (fun s hs s1 s2 => ⟨fun _ => vp_in_nI (by omega) (by omega), ?_⟩)
      have ol := oI_le (a := l) (b := s) (by omega) (by omega)
      have gd := gG_d (xP I0 p) d (n - 1)
      have h2 := h2 (by omega)
      have eqv : l ≤ s ↔ l ≤ gG (xP I0 p) d n := by
        rcases hs with hs | ⟨a1, a2, a3⟩
        · rw [hs]
        · constructor <;> intro y <;> omega
      rw [em2, nI_clamp (by omega), hf.2.1 d (by omega)]
      by_cases y : l ≤ gG (xP I0 p) d n
      · rw [if_pos y] at hr
        rw [if_pos (ol.mpr (eqv.mpr y)), if_pos (ol.mpr (eqv.mpr y)), if_pos (ol.mpr (eqv.mpr y))]
        exact leastX_loop h hf k d n l b (by omega) hn (by omega) y (fun _ => by omega) hr
      · rw [if_neg y] at hr
        have yy : ¬ Int32.ofInt l ≤ Int32.ofInt s := fun w => y (eqv.mp (ol.mp w))
        obtain ⟨m, rfl⟩ : ∃ m, n = m + 1 := ⟨n - 1, by omega⟩
        have em3 : nI (m + 1) + (-1) = nI m := by rw [← nI_1 m, ← Int32.sub_eq_add_neg]; exact Int32.add_sub_cancel _ _
        rw [if_neg yy, if_neg yy, if_neg yy, oI_sub, em3]
        rw [Nat.add_sub_cancel] at hr h2 gd
        have gs := gG_s (xP I0 p) d m
        rw [gs] at h1
        refine leastX_loop h hf k d m _ _ (by omega) (by omega) (by omega) (by omega) (fun hm => ?_) hr
        obtain ⟨q, rfl⟩ : ∃ q, m = q + 1 := ⟨m - 1, by omega⟩
        have gs2 := gG_s (xP I0 p) d q
        rw [gs2] at h2
        rw [Nat.add_sub_cancel]
        omega
def HX12_undo_44 (E : aE) (P : Int32 → hI_ → hJ_ → Prop) (v1 : Int32) (v2 : Int32) (v3 : Int32) (v4 : Int32) (I : hI_) (J : hJ_) : Prop := V E mX12_undo (kI SH P) 44 [.ref 68, .int v1, .int v2, .int v3, .int v4, .retAddr 0, .retAddr 0, .retAddr 0] [] (SH, I, J) (0, 0)
def HX12_undo_84 (E : aE) (P : Int32 → hI_ → hJ_ → Prop) (v1 : Int32) (v2 : Int32) (v3 : Int32) (v4 : Int32) (v5 : Int32) (v6 : Int32) (v7 : Int32) (I : hI_) (J : hJ_) : Prop := V E mX12_undo (kI SH P) 84 [.ref 68, .int v1, .int v2, .int v3, .int v4, .int v5, .int v6, .int v7] [] (SH, I, J) (0, 0)
set_option maxHeartbeats 4000000 in
set_option maxRecDepth 20000 in
theorem wX12_undo {E : aE} {P : Int32 → hI_ → hJ_ → Prop} {I : hI_} {J : hJ_} {a0 : Int32} {a1 : Int32} (k : ((¬ (0 ≤ a0 ∧ a0 ≤ I 73 0 - 1) → P (-1 : Int32) I J) ∧ ((0 ≤ a0 ∧ a0 ≤ I 73 0 - 1) → ((((0 : Int32) ≤ a1 ∧ a1 ≤ (1 : Int32)) → CallV E mX12_layStruck [.ref 68] SH I J (fun I4 J5 => CallI E mX12_owed [.ref 68, .int a0, .int (999 : Int32)] SH I4 J5 (fun x6 I7 J8 => HX12_undo_44 E P a0 a1 (x6 - (I7 73 7)) (0 : Int32) I7 J8))) ∧ (¬ (((0 : Int32) ≤ a1 ∧ a1 ≤ (1 : Int32))) → P (-1 : Int32) I J))))) : CallI E mX12_undo [.ref 68, .int a0, .int a1] SH I J P := by
  refine Call_of (L := [.ref 68, .int a0, .int a1, .retAddr 0, .retAddr 0, .retAddr 0, .retAddr 0, .retAddr 0]) ok_X12_undo.1 rfl rfl ?_
  refine V_aload_n dX12_undo_0 rfl ?_
  refine V_iload_n dX12_undo_1 rfl ?_
  refine U_callV1 [.int a0] dX12_undo_2 ov_X12_167 s_68 rfl ⟨rfl, rfl, rfl⟩ rfl rfl rfl (tX12_isPlace ?_)
  refine U_ifb_eq dX12_undo_5 (fun c1 => ?_) (fun c1 => ?_)
  · have k := k.1 c1
    refine V_iconst (v := (-1 : Int32)) dX12_undo_18 rfl ?_
    exact V_iret dX12_undo_19 ⟨_, rfl, rfl⟩ rfl rfl ⟨_, _, _, rfl, rfl, k⟩
  · have k := k.2 c1
    refine V_iload_n dX12_undo_8 rfl ?_
    refine V_i2l dX12_undo_9 ?_
    refine V_lconst (v := (0 : Int64)) dX12_undo_10 rfl ?_
    refine V_lconst (v := (1 : Int64)) dX12_undo_11 rfl ?_
    refine U_callS1 [.long a1.toInt64, .long (0 : Int64), .long (1 : Int64)] dX12_undo_12 os_X12_91 ⟨rfl, rfl, rfl⟩ rfl rfl rfl (tX12_in32 (v := a1) (lo := (0 : Int32)) (hi := (1 : Int32)) rfl (by decide) (by decide) ?_)
    refine U_ifb_ne dX12_undo_15 (fun c2 => ?_) (fun c2 => ?_)
    · have k := k.1 c2
      refine V_aload_n dX12_undo_20 rfl ?_
      refine U_callV0 [] dX12_undo_21 ov_X12_218 s_68 rfl ⟨rfl, rfl, rfl⟩ rfl rfl rfl (CallV_mono k (fun I4 J5 k => ?_))
      refine V_aload_n dX12_undo_24 rfl ?_
      refine V_iload_n dX12_undo_25 rfl ?_
      refine V_sipush (v := (999 : Int32)) dX12_undo_26 rfl ?_
      refine U_callV1 [.int a0, .int (999 : Int32)] dX12_undo_29 ov_X12_248 s_68 rfl ⟨rfl, rfl, rfl⟩ rfl rfl rfl (CallI_mono k (fun x6 I7 J8 k => ?_))
      refine V_aload_n dX12_undo_32 rfl ?_
      refine U_getR dX12_undo_33 fl_X12_22 s_68 rfl ?_
      refine V_bipush (v := (7 : Int32)) dX12_undo_36 rfl ?_
      refine U_ialdx (x := I7 73 7) dX12_undo_38 s_73 (by unfold vp_in; decide) rfl ?_
      refine V_isub dX12_undo_39 ?_
      refine U_istore_n (L2 := [.ref 68, .int a0, .int a1, .int (x6 - (I7 73 7)), .retAddr 0, .retAddr 0, .retAddr 0, .retAddr 0]) dX12_undo_40 (by decide) rfl ?_
      refine V_iconst (v := (0 : Int32)) dX12_undo_41 rfl ?_
      refine U_istore (L2 := [.ref 68, .int a0, .int a1, .int (x6 - (I7 73 7)), .int (0 : Int32), .retAddr 0, .retAddr 0, .retAddr 0]) dX12_undo_42 (by decide) rfl ?_
      exact k
    · have k := k.2 c2
      refine V_iconst (v := (-1 : Int32)) dX12_undo_18 rfl ?_
      exact V_iret dX12_undo_19 ⟨_, rfl, rfl⟩ rfl rfl ⟨_, _, _, rfl, rfl, k⟩
set_option maxHeartbeats 4000000 in
set_option maxRecDepth 20000 in
theorem wX12_undo_44 {E : aE} {P : Int32 → hI_ → hJ_ → Prop} {I : hI_} {J : hJ_} {v1 : Int32} {v2 : Int32} {v3 : Int32} {v4 : Int32} (k : ((v3 ≤ (0 : Int32) → HX12_undo_84 E P v1 v2 v3 v4 (0 : Int32) v4 ((I 82 282) - (1 : Int32)) I J) ∧ (¬ (v3 ≤ (0 : Int32)) → CallI E mX12_greatest [.ref 68, .int v1, .int (I 82 282), .int v4] SH I J (fun x2 I3 J4 => ((v3 ≤ x2 → HX12_undo_84 E P v1 v2 v3 v4 (0 : Int32) v4 ((I3 82 282) - (1 : Int32)) I3 J4) ∧ (¬ (v3 ≤ x2) → HX12_undo_44 E P v1 v2 v3 (v4 + (1 : Int32)) I3 J4)))))) : HX12_undo_44 E P v1 v2 v3 v4 I J := by
  show V E mX12_undo (kI SH P) 44 [.ref 68, .int v1, .int v2, .int v3, .int v4, .retAddr 0, .retAddr 0, .retAddr 0] [] (SH, I, J) (0, 0)
  refine V_iload_n dX12_undo_44 rfl ?_
  refine V_if_le dX12_undo_45 (fun c1 => ?_) (fun c1 => ?_)
  · have k := k.1 c1
    refine V_iconst (v := (0 : Int32)) dX12_undo_69 rfl ?_
    refine U_istore (L2 := [.ref 68, .int v1, .int v2, .int v3, .int v4, .int (0 : Int32), .retAddr 0, .retAddr 0]) dX12_undo_70 (by decide) rfl ?_
    refine V_iload dX12_undo_72 rfl ?_
    refine U_istore (L2 := [.ref 68, .int v1, .int v2, .int v3, .int v4, .int (0 : Int32), .int v4, .retAddr 0]) dX12_undo_74 (by decide) rfl ?_
    refine V_aload_n dX12_undo_76 rfl ?_
    refine U_callV1 [] dX12_undo_77 ov_X12_221 s_68 rfl ⟨rfl, rfl, rfl⟩ rfl rfl rfl (tX12_deals ?_)
    refine V_iconst (v := (1 : Int32)) dX12_undo_80 rfl ?_
    refine V_isub dX12_undo_81 ?_
    refine U_istore (L2 := [.ref 68, .int v1, .int v2, .int v3, .int v4, .int (0 : Int32), .int v4, .int ((I 82 282) - (1 : Int32))]) dX12_undo_82 (by decide) rfl ?_
    exact k
  · have k := k.2 c1
    refine V_aload_n dX12_undo_48 rfl ?_
    refine V_iload_n dX12_undo_49 rfl ?_
    refine V_aload_n dX12_undo_50 rfl ?_
    refine U_callV1 [] dX12_undo_51 ov_X12_221 s_68 rfl ⟨rfl, rfl, rfl⟩ rfl rfl rfl (tX12_deals ?_)
    refine V_iload dX12_undo_54 rfl ?_
    refine U_callV1 [.int v1, .int (I 82 282), .int v4] dX12_undo_56 ov_X12_251 s_68 rfl ⟨rfl, rfl, rfl⟩ rfl rfl rfl (CallI_mono k (fun x2 I3 J4 k => ?_))
    refine V_iload_n dX12_undo_59 rfl ?_
    refine V_icmp_ge dX12_undo_60 (fun c5 => ?_) (fun c5 => ?_)
    · have k := k.1 c5
      refine V_iconst (v := (0 : Int32)) dX12_undo_69 rfl ?_
      refine U_istore (L2 := [.ref 68, .int v1, .int v2, .int v3, .int v4, .int (0 : Int32), .retAddr 0, .retAddr 0]) dX12_undo_70 (by decide) rfl ?_
      refine V_iload dX12_undo_72 rfl ?_
      refine U_istore (L2 := [.ref 68, .int v1, .int v2, .int v3, .int v4, .int (0 : Int32), .int v4, .retAddr 0]) dX12_undo_74 (by decide) rfl ?_
      refine V_aload_n dX12_undo_76 rfl ?_
      refine U_callV1 [] dX12_undo_77 ov_X12_221 s_68 rfl ⟨rfl, rfl, rfl⟩ rfl rfl rfl (tX12_deals ?_)
      refine V_iconst (v := (1 : Int32)) dX12_undo_80 rfl ?_
      refine V_isub dX12_undo_81 ?_
      refine U_istore (L2 := [.ref 68, .int v1, .int v2, .int v3, .int v4, .int (0 : Int32), .int v4, .int ((I3 82 282) - (1 : Int32))]) dX12_undo_82 (by decide) rfl ?_
      exact k
    · have k := k.2 c5
      refine U_iinc (v := v4 + (1 : Int32)) (L2 := [.ref 68, .int v1, .int v2, .int v3, .int (v4 + (1 : Int32)), .retAddr 0, .retAddr 0, .retAddr 0]) dX12_undo_63 (by decide) rfl rfl rfl ?_
      refine V_goto dX12_undo_66 ?_
      exact k
set_option maxHeartbeats 4000000 in
set_option maxRecDepth 20000 in
theorem wX12_undo_84 {E : aE} {P : Int32 → hI_ → hJ_ → Prop} {I : hI_} {J : hJ_} {v1 : Int32} {v2 : Int32} {v3 : Int32} {v4 : Int32} {v5 : Int32} {v6 : Int32} {v7 : Int32} (k : ((v7 < (0 : Int32) → P (if ¬ v2 = (0 : Int32) then v5 else v4) I J) ∧ (¬ (v7 < (0 : Int32)) → ((v6 ≤ (0 : Int32) → P (if ¬ v2 = (0 : Int32) then v5 else v4) I J) ∧ (¬ (v6 ≤ (0 : Int32)) → CallI E mX12_greatest [.ref 68, .int v1, .int v7, .int v6] SH I J (fun x4009 I4010 J4011 => ((v3 ≤ x4009 → HX12_undo_84 E P v1 v2 v3 v4 v5 v6 (v7 + (-1 : Int32)) I4010 J4011) ∧ (¬ (v3 ≤ x4009) → CallI E mX12_pays [.ref 68, .int v1, .int v7] SH I4010 J4011 (fun x4013 I4014 J4015 => HX12_undo_84 E P v1 v2 (v3 - x4013) v4 (v5 ||| ((1 : Int32) <<< (v7 &&& 31))) (v6 + (-1 : Int32)) (v7 + (-1 : Int32)) I4014 J4015))))))))) : HX12_undo_84 E P v1 v2 v3 v4 v5 v6 v7 I J := by
  show V E mX12_undo (kI SH P) 84 [.ref 68, .int v1, .int v2, .int v3, .int v4, .int v5, .int v6, .int v7] [] (SH, I, J) (0, 0)
  refine V_iload dX12_undo_84 rfl ?_
  refine V_if_lt dX12_undo_86 (fun c1 => ?_) (fun c1 => ?_)
  · have k := k.1 c1
    refine V_iload_n dX12_undo_135 rfl ?_
    have key2 : ∀ (y2003 : Int32), y2003 = (if ¬ v2 = (0 : Int32) then v5 else v4) → V E mX12_undo (kI SH P) 146 [.ref 68, .int v1, .int v2, .int v3, .int v4, .int v5, .int v6, .int v7] [.int y2003] (SH, I, J) (0, 0) := by
      intro y2003 ey2003
      subst ey2003
      exact V_iret dX12_undo_146 ⟨_, rfl, rfl⟩ rfl rfl ⟨_, _, _, rfl, rfl, k⟩
    refine V_if_ne dX12_undo_136 (fun c2004 => ?_) (fun c2004 => ?_)
    · refine V_iload dX12_undo_144 rfl ?_
      exact key2 _ (by rw [if_pos c2004])
    · refine V_iload dX12_undo_139 rfl ?_
      refine V_goto dX12_undo_141 ?_
      exact key2 _ (by rw [if_neg (not_not_intro c2004)])
  · have k := k.2 c1
    refine V_iload dX12_undo_89 rfl ?_
    refine V_if_le dX12_undo_91 (fun c2005 => ?_) (fun c2005 => ?_)
    · have k := k.1 c2005
      refine V_iload_n dX12_undo_135 rfl ?_
      have key2006 : ∀ (y4007 : Int32), y4007 = (if ¬ v2 = (0 : Int32) then v5 else v4) → V E mX12_undo (kI SH P) 146 [.ref 68, .int v1, .int v2, .int v3, .int v4, .int v5, .int v6, .int v7] [.int y4007] (SH, I, J) (0, 0) := by
        intro y4007 ey4007
        subst ey4007
        exact V_iret dX12_undo_146 ⟨_, rfl, rfl⟩ rfl rfl ⟨_, _, _, rfl, rfl, k⟩
      refine V_if_ne dX12_undo_136 (fun c4008 => ?_) (fun c4008 => ?_)
      · refine V_iload dX12_undo_144 rfl ?_
        exact key2006 _ (by rw [if_pos c4008])
      · refine V_iload dX12_undo_139 rfl ?_
        refine V_goto dX12_undo_141 ?_
        exact key2006 _ (by rw [if_neg (not_not_intro c4008)])
    · have k := k.2 c2005
      refine V_aload_n dX12_undo_94 rfl ?_
      refine V_iload_n dX12_undo_95 rfl ?_
      refine V_iload dX12_undo_96 rfl ?_
      refine V_iload dX12_undo_98 rfl ?_
      refine U_callV1 [.int v1, .int v7, .int v6] dX12_undo_100 ov_X12_251 s_68 rfl ⟨rfl, rfl, rfl⟩ rfl rfl rfl (CallI_mono k (fun x4009 I4010 J4011 k => ?_))
      refine V_iload_n dX12_undo_103 rfl ?_
      refine V_icmp_ge dX12_undo_104 (fun c4012 => ?_) (fun c4012 => ?_)
      · have k := k.1 c4012
        refine U_iinc (v := v7 + (-1 : Int32)) (L2 := [.ref 68, .int v1, .int v2, .int v3, .int v4, .int v5, .int v6, .int (v7 + (-1 : Int32))]) dX12_undo_129 (by decide) rfl rfl rfl ?_
        refine V_goto dX12_undo_132 ?_
        exact k
      · have k := k.2 c4012
        refine V_iload dX12_undo_107 rfl ?_
        refine V_iconst (v := (1 : Int32)) dX12_undo_109 rfl ?_
        refine V_iload dX12_undo_110 rfl ?_
        refine V_ishl dX12_undo_112 ?_
        refine V_ior dX12_undo_113 ?_
        refine U_istore (L2 := [.ref 68, .int v1, .int v2, .int v3, .int v4, .int (v5 ||| ((1 : Int32) <<< (v7 &&& 31))), .int v6, .int v7]) dX12_undo_114 (by decide) rfl ?_
        refine V_iload_n dX12_undo_116 rfl ?_
        refine V_aload_n dX12_undo_117 rfl ?_
        refine V_iload_n dX12_undo_118 rfl ?_
        refine V_iload dX12_undo_119 rfl ?_
        refine U_callV1 [.int v1, .int v7] dX12_undo_121 ov_X12_245 s_68 rfl ⟨rfl, rfl, rfl⟩ rfl rfl rfl (CallI_mono k (fun x4013 I4014 J4015 k => ?_))
        refine V_isub dX12_undo_124 ?_
        refine U_istore_n (L2 := [.ref 68, .int v1, .int v2, .int (v3 - x4013), .int v4, .int (v5 ||| ((1 : Int32) <<< (v7 &&& 31))), .int v6, .int v7]) dX12_undo_125 (by decide) rfl ?_
        refine U_iinc (v := v6 + (-1 : Int32)) (L2 := [.ref 68, .int v1, .int v2, .int (v3 - x4013), .int v4, .int (v5 ||| ((1 : Int32) <<< (v7 &&& 31))), .int (v6 + (-1 : Int32)), .int v7]) dX12_undo_126 (by decide) rfl rfl rfl ?_
        refine U_iinc (v := v7 + (-1 : Int32)) (L2 := [.ref 68, .int v1, .int v2, .int (v3 - x4013), .int v4, .int (v5 ||| ((1 : Int32) <<< (v7 &&& 31))), .int (v6 + (-1 : Int32)), .int (v7 + (-1 : Int32))]) dX12_undo_129 (by decide) rfl rfl rfl ?_
        refine V_goto dX12_undo_132 ?_
        exact k
theorem leastM_loop {E : aE} {P : Int32 → hI_ → hJ_ → Prop} {I0 : hI_} {J : hJ_} {p F : Nat} {w : Int32} (h : Rel I0) {r : Int32} (k : ∀ I2, SM I0 I2 (fun _ => true) → P (if ¬ w = 0 then r else nI F) I2 J) : ∀ (d n : Nat) (l : Int) (b : Int32) (I : hI_), d ≤ nD I0 → n ≤ 24 → (l + 98901 * (d : Int) ≤ 5000000 ∧ -5000000 ≤ l - 98901 * (d : Int)) → SM I0 I (fun _ => true) → lsU (xP I0 p) d n l b = r → HX12_undo_84 E P (nI p) w (Int32.ofInt l) (nI F) b (nI n) (nI d - 1) I J
  | 0, n, l, b, I, hd, hn, hl, hs, hr => by
    have e : lsU (xP I0 p) 0 n l b = b := rfl
    rw [e] at hr
    refine wX12_undo_84 ⟨fun _ => by rw [hr]; exact k I hs, fun z => absurd (show nI 0 - 1 < 0 by decide) z⟩
  | d + 1, n, l, b, I, hd, hn, hl, hs, hr => by
    have hD := Rel_D h
    have em : nI (d + 1) - 1 = nI d := by rw [← nI_1 d]; exact Int32.add_sub_cancel _ _
    have em2 : nI d + (-1) = nI d - 1 := (Int32.sub_eq_add_neg _ _).symm
    have xb := xP_b h p d
    have gb := gG_b (xP_b h p) d n
    rw [lsU_s] at hr
    rw [em]
    refine wX12_undo_84 ⟨fun z => absurd z (nI_pos (by omega)), fun _ => ⟨fun z => ?_, fun z => ?_⟩⟩
    · have z := (nI_leJ (b := 0) (by omega) (by omega)).mp z
      rw [if_pos (by omega)] at hr
      rw [hr]; exact k I hs
    · have n0 : ¬ n = 0 := fun y => z (by rw [y]; exact Int32.le_refl _)
      rw [if_neg n0] at hr
      refine tX12_greatest h hs (d := d) (by omega) hn (fun I2 hs2 => ?_)
      have ol := oI_le (a := l) (b := gG (xP I0 p) d n) (by omega) (by omega)
      rw [em2]
      refine ⟨fun y => ?_, fun y => ?_⟩
      · rw [if_pos (ol.mp y)] at hr
        exact leastM_loop h k d n l b I2 (by omega) hn (by omega) hs2 hr
      · rw [if_neg (fun v => y (ol.mpr v))] at hr
        obtain ⟨m, rfl⟩ : ∃ m, n = m + 1 := ⟨n - 1, by omega⟩
        have em3 : nI (m + 1) + (-1) = nI m := by rw [← nI_1 m, ← Int32.sub_eq_add_neg]; exact Int32.add_sub_cancel _ _
        refine tX12_pays h hs2 (d := d) (by omega) ?_
        rw [em3, xP_py (show d < nD I0 by omega), oI_sub]
        rw [Nat.add_sub_cancel] at hr
        exact leastM_loop h k d m _ _ I2 (by omega) (by omega) (by omega) hs2 hr
theorem undoM_loop {E : aE} {P : Int32 → hI_ → hJ_ → Prop} {I0 : hI_} {J : hJ_} {p : Nat} {w : Int32} (h : Rel I0) (k : ∀ I2 F, SM I0 I2 (fun _ => true) → isF I0 p F → P (if ¬ w = 0 then lsU (xP I0 p) (nD I0) F (nd I0 p) 0 else nI F) I2 J) : ∀ (m n : Nat) (I : hI_), n + m = nD I0 → SM I0 I (fun _ => true) → (∀ j, j < n → gG (xP I0 p) (nD I0) j < nd I0 p) → HX12_undo_44 E P (nI p) w (Int32.ofInt (nd I0 p)) (nI n) I J := by
  have hD := Rel_D h
  have nb := nd_b h p
  have fin : ∀ (n : Nat) (I : hI_), n ≤ nD I0 → SM I0 I (fun _ => true) → isF I0 p n → HX12_undo_84 E P (nI p) w (Int32.ofInt (nd I0 p)) (nI n) 0 (nI n) ((I 82 282) - 1) I J := fun n I hn hs hF => by
    rw [hs.1.1 82 rfl, hD.2.1]
    exact leastM_loop h (fun I2 h2 => k I2 n h2 hF) (nD I0) n (nd I0 p) 0 I (Nat.le_refl _) (by omega) (by omega) hs rfl
  intro m
  induction m with
  | zero =>
    intro n I hn hs hj
    have hF : isF I0 p n := ⟨by omega, by have := nd_top h p; rw [show n = nD I0 by omega]; exact this, hj⟩
    have gb := gG_b (xP_b h p) (nD I0) n
    refine wX12_undo_44 ⟨fun _ => fin n I (by omega) hs hF, fun _ => ?_⟩
    rw [hs.1.1 82 rfl, hD.2.1]
    refine tX12_greatest h hs (Nat.le_refl _) (by omega) (fun I2 hs2 => ⟨fun _ => fin n I2 (by omega) hs2 hF, fun z => ?_⟩)
    exact absurd ((oI_le (by omega) (by omega)).mpr hF.2.1) z
  | succ m ih =>
    intro n I hn hs hj
    have gb := gG_b (xP_b h p) (nD I0) n
    refine wX12_undo_44 ⟨fun z => fin n I (by omega) hs ⟨by omega, ?_, hj⟩, fun _ => ?_⟩
    · have z := (oI_le (b := 0) (by omega) (by omega)).mp z
      omega
    · rw [hs.1.1 82 rfl, hD.2.1]
      refine tX12_greatest h hs (Nat.le_refl _) (by omega) (fun I2 hs2 => ⟨fun z => fin n I2 (by omega) hs2 ⟨by omega, (oI_le (by omega) (by omega)).mp z, hj⟩, fun z => ?_⟩)
      rw [nI_1 n]
      refine ih (n + 1) I2 (by omega) hs2 (fun j hj2 => ?_)
      by_cases v : j = n
      · rw [v]
        rcases Int.lt_or_le (gG (xP I0 p) (nD I0) n) (nd I0 p) with y | y
        · exact y
        · exact absurd ((oI_le (by omega) (by omega)).mpr y) z
      · exact hj j (by omega)
set_option maxHeartbeats 4000000 in
set_option maxRecDepth 20000 in
theorem wX11_undo {E : aE} {P : Int32 → hI_ → hJ_ → Prop} {I : hI_} {J : hJ_} {a0 : Int32} {a1 : Int32} (k : ((¬ (0 ≤ a0 ∧ a0 ≤ I 3 6 - 1) → P (-1 : Int32) I J) ∧ ((0 ≤ a0 ∧ a0 ≤ I 3 6 - 1) → ((((0 : Int32) ≤ a1 ∧ a1 ≤ (1 : Int32)) → CallV E mX7_settle [.ref 29] SH I J (fun I4 J5 => CallI E mX7_fewestUndone [.ref 29, .int a0] SH I4 J5 (fun x6 I7 J8 => ((¬ a1 = (0 : Int32) → CallI E mX7_leastUndone [.ref 29, .int x6] SH I7 J8 (fun x10 I11 J12 => P x10 I11 J12)) ∧ (a1 = (0 : Int32) → P x6 I7 J8))))) ∧ (¬ (((0 : Int32) ≤ a1 ∧ a1 ≤ (1 : Int32))) → P (-1 : Int32) I J))))) : CallI E mX11_undo [.ref 0, .int a0, .int a1] SH I J P := by
  refine Call_of (L := [.ref 0, .int a0, .int a1, .retAddr 0]) ok_X11_undo.1 rfl rfl ?_
  refine V_aload_n dX11_undo_0 rfl ?_
  refine V_iload_n dX11_undo_1 rfl ?_
  refine U_callV1 [.int a0] dX11_undo_2 ov_X11_148 s_0 rfl ⟨rfl, rfl, rfl⟩ rfl rfl rfl (tX11_isPlace ?_)
  refine U_ifb_eq dX11_undo_5 (fun c1 => ?_) (fun c1 => ?_)
  · have k := k.1 c1
    refine V_iconst (v := (-1 : Int32)) dX11_undo_17 rfl ?_
    exact V_iret dX11_undo_18 ⟨_, rfl, rfl⟩ rfl rfl ⟨_, _, _, rfl, rfl, k⟩
  · have k := k.2 c1
    refine V_iload_n dX11_undo_8 rfl ?_
    refine V_iconst (v := (0 : Int32)) dX11_undo_9 rfl ?_
    refine V_iconst (v := (1 : Int32)) dX11_undo_10 rfl ?_
    refine U_callS1 [.int a1, .int (0 : Int32), .int (1 : Int32)] dX11_undo_11 os_X11_104 ⟨rfl, rfl, rfl⟩ rfl rfl rfl (tX11_within ?_)
    refine U_ifb_ne dX11_undo_14 (fun c2 => ?_) (fun c2 => ?_)
    · have k := k.1 c2
      refine V_aload_n dX11_undo_19 rfl ?_
      refine U_getR dX11_undo_20 fl_X11_60 s_0 rfl ?_
      refine U_callV0 [] dX11_undo_23 ov_X11_215 s_29 rfl ⟨rfl, rfl, rfl⟩ rfl rfl rfl (CallV_mono k (fun I4 J5 k => ?_))
      refine V_aload_n dX11_undo_26 rfl ?_
      refine U_getR dX11_undo_27 fl_X11_60 s_0 rfl ?_
      refine V_iload_n dX11_undo_30 rfl ?_
      refine U_callV1 [.int a0] dX11_undo_31 ov_X11_243 s_29 rfl ⟨rfl, rfl, rfl⟩ rfl rfl rfl (CallI_mono k (fun x6 I7 J8 k => ?_))
      refine U_istore_n (L2 := [.ref 0, .int a0, .int a1, .int x6]) dX11_undo_34 (by decide) rfl ?_
      refine V_iload_n dX11_undo_35 rfl ?_
      refine V_if_ne dX11_undo_36 (fun c9 => ?_) (fun c9 => ?_)
      · have k := k.1 c9
        refine V_aload_n dX11_undo_43 rfl ?_
        refine U_getR dX11_undo_44 fl_X11_60 s_0 rfl ?_
        refine V_iload_n dX11_undo_47 rfl ?_
        refine U_callV1 [.int x6] dX11_undo_48 ov_X11_246 s_29 rfl ⟨rfl, rfl, rfl⟩ rfl rfl rfl (CallI_mono k (fun x10 I11 J12 k => ?_))
        exact V_iret dX11_undo_51 ⟨_, rfl, rfl⟩ rfl rfl ⟨_, _, _, rfl, rfl, k⟩
      · have k := k.2 c9
        refine V_iload_n dX11_undo_39 rfl ?_
        refine V_goto dX11_undo_40 ?_
        exact V_iret dX11_undo_51 ⟨_, rfl, rfl⟩ rfl rfl ⟨_, _, _, rfl, rfl, k⟩
    · have k := k.2 c2
      refine V_iconst (v := (-1 : Int32)) dX11_undo_17 rfl ?_
      exact V_iret dX11_undo_18 ⟨_, rfl, rfl⟩ rfl rfl ⟨_, _, _, rfl, rfl, k⟩
theorem op_undo {E : aE} {I : hI_} {J : hJ_} {P : hI_ → hJ_ → Prop} {a0 a1 : Int32} (h : Rel I) (hP : ∀ I2 J2, Rel I2 → P I2 J2) : Op2 E mX11_undo mX12_undo [.int a0, .int a1] I J P := by
  have hp := Rel_P h
  have hD := Rel_D h
  have e := Rel_pl h
  have kI := hP I J h
  refine wX11_undo ⟨fun c1 => wX12_undo ⟨fun _ => ⟨rfl, kI⟩, fun d => absurd (by rw [e]; exact d) c1⟩, fun c1 => ⟨fun c2 => ?_, fun c2 => wX12_undo ⟨fun _ => ⟨rfl, kI⟩, fun _ => ⟨fun d => absurd d c2, fun _ => ⟨rfl, kI⟩⟩⟩⟩⟩
  rw [e] at c1
  have c1' := c1
  rw [hp.2.1] at c1'
  obtain ⟨x, hx, rfl⟩ := in_lt (by omega) c1'
  have nb := nd_b h x
  have hM : ∀ (I2 : hI_) (F : Nat) (v : Int32), agX I I2 → isF I x F → v = (if ¬ a1 = 0 then lsU (xP I x) (nD I) F (nd I x) 0 else nI F) → CallI E mX12_undo [.ref 68, .int (nI x), .int a1] SH I2 J (fun r2 I3 J3 => v = r2 ∧ P I3 J3) := fun I2 F v hag hF hv => by
    have hR := Rel_agX hag h
    have d1 : 0 ≤ nI x ∧ nI x ≤ I2 73 0 - 1 := by rw [hag 73 rfl]; exact c1
    refine wX12_undo ⟨fun d => absurd d1 d, fun _ => ⟨fun _ => ?_, fun d => absurd c2 d⟩⟩
    refine tX12_layStruck hR (fun I4 hm => tX12_owed (t := 999) hR hm (by omega) ?_)
    have ev : dbt I2 x 999 (nD I2) - I4 73 7 = Int32.ofInt (nd I2 x) := by
      rw [dbt_999 hR _ (Nat.le_refl _), hm.1.1 73 rfl]
      unfold nd
      rw [← oI_sub, Int32.ofInt_toInt]
    rw [ev]
    refine undoM_loop hR (fun I5 F2 h5 hF2 => ⟨?_, hP I5 J (Rel_agM h5.1 hR)⟩) (nD I2) 0 I4 (by omega) hm (fun j hj => by omega)
    rw [hv, isF_eq hF2 (isF_X hag hF), xP_X hag, nD_X hag, nd_X hag]
  refine tX7_settle h (fun I2 hs => wX7_fewestUndone (fewX_2 h (fun I3 F hf hF => ?_) (nD I) 0 I2 (by omega) hs (fun j hj => by omega)))
  refine ⟨fun z => ?_, fun z => hM I3 F _ hf.1.1 hF (by rw [if_neg (fun v => v z)])⟩
  have hF1 := hF.1
  refine wX7_leastUndone ?_
  rw [hf.2.2, hf.1.1 26 rfl, hD.1]
  refine leastX_loop h hf (r := lsU (xP I x) (nD I) F (nd I x) 0) ?_ (nD I) F (nd I x) 0 (Nat.le_refl _) (by omega) (by omega) hF.2.1 (fun hf1 => hF.2.2 _ (by omega)) rfl
  exact hM I3 F _ hf.1.1 hF (by rw [if_pos z])
