/-! what lasts is changed: the ledger -/
theorem RLed_sh {a1 b1 a2 b2 a3 b3 S : Nat → Int32} {off : Nat} {np : Int} {w : Wld} : RLed a1 b1 a2 b2 a3 b3 S off np w ↔ RLed a1 b1 a2 b2 a3 b3 (fun j => S (off + j)) 0 np w := by
  unfold RLed RSteps RCalls RDeals
  simp only [Nat.add_assoc, Nat.zero_add]
theorem Rel_upd {I I2 : hI_} (h : Rel I) (ho : ∀ a, (a < 22 ∨ 27 < a) → a ≠ 82 → scX a = false → I2 a = I a) (h82 : ∀ j, 300 ≤ j → I2 82 j = I 82 j) (hr : rokF (I2 22) 3 24 ∧ rokF (I2 24) 8 12 ∧ rokF (I2 26) 5 24) (hl : RLed (I2 22) (I2 23) (I2 24) (I2 25) (I2 26) (I2 27) (I2 82) 0 (I 73 0).toInt (wI I)) : Rel I2 := by
  have f : ∀ a, (a < 22 ∨ 27 < a) → a ≠ 82 → scX a = false → I2 a = I a := ho
  have ew : wI I2 = wI I := by unfold wI; rw [f 73 (by omega) (by omega) rfl, f 75 (by omega) (by omega) rfl, f 76 (by omega) (by omega) rfl]
  have e3 : (fun j => I2 82 (300 + j)) = (fun j => I 82 (300 + j)) := funext (fun j => h82 _ (by omega))
  have e6 : (fun j => I2 82 (600 + j)) = (fun j => I 82 (600 + j)) := funext (fun j => h82 _ (by omega))
  obtain ⟨r1, r2, r3, -, r5, r6, r7, r8, r9⟩ := h
  refine ⟨?_, ?_, ⟨hr.1, hr.2.1, hr.2.2, ?_⟩, ?_, ?_, ?_, ?_, ?_, ?_⟩
  · rw [f 1 (by omega) (by omega) rfl, f 2 (by omega) (by omega) rfl, f 68 (by omega) (by omega) rfl, f 69 (by omega) (by omega) rfl]; exact r1
  · unfold RPlanI at r2 ⊢
    rw [f 3 (by omega) (by omega) rfl, f 4 (by omega) (by omega) rfl, f 5 (by omega) (by omega) rfl, f 6 (by omega) (by omega) rfl, f 7 (by omega) (by omega) rfl, f 8 (by omega) (by omega) rfl, f 9 (by omega) (by omega) rfl, f 73 (by omega) (by omega) rfl, f 74 (by omega) (by omega) rfl, f 75 (by omega) (by omega) rfl, f 76 (by omega) (by omega) rfl]; exact r2
  · rw [f 47 (by omega) (by omega) rfl, f 49 (by omega) (by omega) rfl, f 51 (by omega) (by omega) rfl, f 54 (by omega) (by omega) rfl, f 56 (by omega) (by omega) rfl, f 58 (by omega) (by omega) rfl]; exact r3.2.2.2
  · unfold RLedI
    rw [ew, f 73 (by omega) (by omega) rfl]; exact hl
  · unfold RImgI RImg at r5 ⊢
    rw [RLed_sh, RLed_sh (off := 600)] at r5 ⊢
    rw [ew, e3, e6, f 46 (by omega) (by omega) rfl, f 47 (by omega) (by omega) rfl, f 48 (by omega) (by omega) rfl, f 49 (by omega) (by omega) rfl, f 50 (by omega) (by omega) rfl, f 51 (by omega) (by omega) rfl, f 52 (by omega) (by omega) rfl, f 53 (by omega) (by omega) rfl, f 54 (by omega) (by omega) rfl, f 55 (by omega) (by omega) rfl, f 56 (by omega) (by omega) rfl, f 57 (by omega) (by omega) rfl, f 58 (by omega) (by omega) rfl, f 59 (by omega) (by omega) rfl, f 90 (by omega) (by omega) rfl, f 73 (by omega) (by omega) rfl]; exact r5
  · unfold RSheetI at r6 ⊢
    rw [f 60 (by omega) (by omega) rfl, f 61 (by omega) (by omega) rfl, f 62 (by omega) (by omega) rfl, f 63 (by omega) (by omega) rfl, f 64 (by omega) (by omega) rfl, f 65 (by omega) (by omega) rfl, f 66 (by omega) (by omega) rfl, f 67 (by omega) (by omega) rfl, f 91 (by omega) (by omega) rfl, f 92 (by omega) (by omega) rfl, f 93 (by omega) (by omega) rfl]; exact r6
  · rw [f 70 (by omega) (by omega) rfl, f 71 (by omega) (by omega) rfl, f 72 (by omega) (by omega) rfl]; exact r7
  · rw [f 0 (by omega) (by omega) rfl, f 68 (by omega) (by omega) rfl]; exact r8
  · rw [f 0 (by omega) (by omega) rfl, f 68 (by omega) (by omega) rfl]; exact r9
/-- steps put behind the others, in the class and in the model -/
def apX (I I2 : hI_) (n k : Nat) (val : Nat → Nat → Int32) : Prop := (∀ a, a ≠ 22 → a ≠ 23 → I2 a = I a) ∧ I2 22 3 = nI (n + k) ∧ (∀ j, j ≠ 3 → I2 22 j = I 22 j) ∧ (∀ i, i < k → ∀ j, j < 3 → I2 23 (3 * (n + i) + j) = val i j) ∧ (∀ j, j < 3 * n → I2 23 j = I 23 j)
def apM (I I2 : hI_) (n k : Nat) (val : Nat → Nat → Int32) : Prop := (∀ a, a ≠ 82 → I2 a = I a) ∧ I2 82 280 = nI (n + k) ∧ (∀ i, i < k → ∀ j, j < 3 → I2 82 (3 * (n + i) + j) = val i j) ∧ (∀ j, j < 3 * n → I2 82 j = I 82 j) ∧ (∀ j, 72 ≤ j → j ≠ 280 → I2 82 j = I 82 j)
def stI (I : hI_) (n : Nat) (p t v : Int32) : hI_ := upI (upI (upI (upI I 22 3 (nI (n + 1))) 23 (3 * n) p) 23 (3 * n + 1) t) 23 (3 * n + 2) v
def smI (I : hI_) (n : Nat) (p t v : Int32) : hI_ := upI (upI (upI (upI I 82 (3 * n) p) 82 (3 * n + 1) t) 82 (3 * n + 2) v) 82 280 (nI (n + 1))
theorem apX_0 {I : hI_} {n : Nat} {val : Nat → Nat → Int32} (h : I 22 3 = nI n) : apX I I n 0 val := ⟨fun _ _ _ => rfl, h, fun _ _ => rfl, fun i hi => by omega, fun _ _ => rfl⟩
theorem apM_0 {I : hI_} {n : Nat} {val : Nat → Nat → Int32} (h : I 82 280 = nI n) : apM I I n 0 val := ⟨fun _ _ => rfl, h, fun i hi => by omega, fun _ _ => rfl, fun _ _ _ => rfl⟩
theorem apX_s {I I2 : hI_} {n k : Nat} {val : Nat → Nat → Int32} (h : apX I I2 n k val) : apX I (stI I2 (n + k) (val k 0) (val k 1) (val k 2)) n (k + 1) val := by
  obtain ⟨h1, h2, h3, h4, h5⟩ := h
  refine ⟨fun a ha hb => ?_, ?_, fun j hj => ?_, fun i hi j hj => ?_, fun j hj => ?_⟩
  · funext j
    simp only [stI, upI_at, ha, hb, false_and, if_false]
    rw [h1 a ha hb]
  · simp [stI, upI_at, Nat.add_assoc]
  · simp only [stI, upI_at, hj]
    simp
    exact h3 j hj
  · by_cases e : i = k
    · subst e
      rcases (show j = 0 ∨ j = 1 ∨ j = 2 by omega) with rfl | rfl | rfl <;> simp [stI, upI_at]
    · simp only [stI, upI_at]
      rw [if_neg (by omega), if_neg (by omega), if_neg (by omega), if_neg (by omega)]
      exact h4 i (by omega) j hj
  · simp only [stI, upI_at]
    rw [if_neg (by omega), if_neg (by omega), if_neg (by omega), if_neg (by omega)]
    exact h5 j hj
theorem apM_s {I I2 : hI_} {n k : Nat} {val : Nat → Nat → Int32} (hk : n + k < 24) (h : apM I I2 n k val) : apM I (smI I2 (n + k) (val k 0) (val k 1) (val k 2)) n (k + 1) val := by
  obtain ⟨h1, h2, h4, h5, h6⟩ := h
  refine ⟨fun a ha => ?_, ?_, fun i hi j hj => ?_, fun j hj => ?_, fun j hj1 hj2 => ?_⟩
  · funext j
    simp only [smI, upI_at, ha, false_and, if_false]
    rw [h1 a ha]
  · simp [smI, upI_at, Nat.add_assoc]
  · by_cases e : i = k
    · subst e
      have : 3 * (n + i) + j ≠ 280 := by omega
      rcases (show j = 0 ∨ j = 1 ∨ j = 2 by omega) with rfl | rfl | rfl
      · simp only [smI, upI_at]
        rw [if_neg (by omega), if_neg (by omega), if_neg (by omega), if_pos (by simp)]
      · simp only [smI, upI_at]
        rw [if_neg (by omega), if_neg (by omega), if_pos (by simp)]
      · simp only [smI, upI_at]
        rw [if_neg (by omega), if_pos (by simp)]
    · simp only [smI, upI_at]
      rw [if_neg (by omega), if_neg (by omega), if_neg (by omega), if_neg (by omega)]
      exact h4 i (by omega) j hj
  · simp only [smI, upI_at]
    rw [if_neg (by omega), if_neg (by omega), if_neg (by omega), if_neg (by omega)]
    exact h5 j hj
  · simp only [smI, upI_at]
    rw [if_neg (by omega), if_neg (by omega), if_neg (by omega), if_neg (by omega)]
    exact h6 j hj1 hj2
theorem Rel_app {I I1 I2 : hI_} {k : Nat} {val : Nat → Nat → Int32} (h : Rel I) (hk : nS I + k ≤ 24) (hx : apX I I1 (nS I) k val) (hm : apM I1 I2 (nS I) k val) (hv : ∀ i, i < k → bet 0 (val i 0) (nP I - 1) ∧ bet 0 (val i 1) 999 ∧ bet 1 (val i 2) 999) : Rel I2 := by
  obtain ⟨x1, x2, x3, x4, x5⟩ := hx
  obtain ⟨m1, m2, m4, m5, m6⟩ := hm
  have hS := Rel_S h
  have hP := Rel_P h
  have e82 : I1 82 = I 82 := x1 82 (by omega) (by omega)
  have s22 : I2 22 = I1 22 := m1 22 (by omega)
  have s23 : I2 23 = I1 23 := m1 23 (by omega)
  have s24 : I2 24 = I 24 := (m1 24 (by omega)).trans (x1 24 (by omega) (by omega))
  have s25 : I2 25 = I 25 := (m1 25 (by omega)).trans (x1 25 (by omega) (by omega))
  have s26 : I2 26 = I 26 := (m1 26 (by omega)).trans (x1 26 (by omega) (by omega))
  have s27 : I2 27 = I 27 := (m1 27 (by omega)).trans (x1 27 (by omega) (by omega))
  have s82 : ∀ j, 72 ≤ j → j ≠ 280 → I2 82 j = I 82 j := fun j q1 q2 => by rw [m6 j q1 q2, e82]
  obtain ⟨l1, l2, l3⟩ := h.2.2.2.1
  obtain ⟨c1, c2⟩ := l2
  obtain ⟨d1, d2⟩ := l3
  have hC := lt_of_rok h.2.2.1.2.1
  have hD := lt_of_rok h.2.2.1.2.2.1
  have z12 : (12 : Int32).toInt = 12 := rfl
  have z24 : (24 : Int32).toInt = 24 := rfl
  refine Rel_upd h (fun a q1 q2 _ => (m1 a q2).trans (x1 a (by omega) (by omega))) (fun j hj => s82 j (by omega) (by omega)) ?_ ?_
  · refine ⟨?_, by rw [s24]; exact h.2.2.1.2.1, by rw [s26]; exact h.2.2.1.2.2.1⟩
    obtain ⟨q1, q2, q3, q4⟩ := h.2.2.1.1
    rw [s22]
    refine ⟨by rw [x3 1 (by omega)]; exact q1, by rw [x3 0 (by omega)]; exact q2, by rw [x2]; exact nI_pos' (by omega), by rw [x2]; exact nI_le (b := 24) (by omega) (by omega)⟩
  · rw [s22, s23, s24, s25, s26, s27]
    refine ⟨⟨?_, fun i hi => ?_⟩, ⟨?_, fun c hc => ?_⟩, ?_, fun d hd => ?_⟩
    · rw [x2]; exact m2.symm
    · rw [x2, nI_toInt (by omega)] at hi
      simp only [Nat.zero_add]
      by_cases e : i < nS I
      · obtain ⟨⟨e0, e1, e2⟩, b0, b1, b2⟩ := l1.2 i (by rw [hS.1, nI_toInt (by omega)]; omega)
        simp only [Nat.zero_add] at e0 e1 e2
        rw [x5 (3 * i) (by omega), x5 (3 * i + 1) (by omega), x5 (3 * i + 2) (by omega), m5 (3 * i) (by omega), m5 (3 * i + 1) (by omega), m5 (3 * i + 2) (by omega), e82]
        exact ⟨⟨e0, e1, e2⟩, b0, b1, b2⟩
      · obtain ⟨j, hj, rfl⟩ : ∃ j, j < k ∧ i = nS I + j := ⟨i - nS I, by omega, by omega⟩
        have v0 := x4 j hj 0 (by omega)
        have v1 := x4 j hj 1 (by omega)
        have v2 := x4 j hj 2 (by omega)
        have w0 := m4 j hj 0 (by omega)
        have w1 := m4 j hj 1 (by omega)
        have w2 := m4 j hj 2 (by omega)
        simp only [Nat.add_zero] at v0 w0
        rw [v0, v1, v2, w0, w1, w2, hP.2.1, nI_toInt (by omega)]
        exact ⟨⟨rfl, rfl, rfl⟩, hv j hj⟩
    · rw [s82 (0 + 281) (by omega) (by omega)]; exact c1
    · obtain ⟨g1, g2, g3⟩ := c2 c hc
      refine ⟨fun j hj => ?_, g2, ?_⟩
      · rw [s82 _ (by omega) (by omega)]; exact g1 j hj
      · rw [s82 _ (by omega) (by omega)]; exact g3
    · rw [s82 (0 + 282) (by omega) (by omega)]; exact d1
    · obtain ⟨g1, g2⟩ := d2 d hd
      refine ⟨fun j hj => ?_, g2⟩
      rw [s82 _ (by omega) (by omega)]; exact g1 j hj
set_option maxHeartbeats 4000000 in
set_option maxRecDepth 20000 in
theorem wX11_step {E : aE} {P : Int32 → hI_ → hJ_ → Prop} {I : hI_} {J : hJ_} {a0 : Int32} {a1 : Int32} {a2 : Int32} (k : ((¬ (0 ≤ a0 ∧ a0 ≤ I 3 6 - 1) → P (-1 : Int32) I J) ∧ ((0 ≤ a0 ∧ a0 ≤ I 3 6 - 1) → ((¬ (0 ≤ a1 ∧ a1 ≤ 999) → P (-1 : Int32) I J) ∧ ((0 ≤ a1 ∧ a1 ≤ 999) → ((((1 : Int32) ≤ a2 ∧ a2 ≤ (999 : Int32)) → (((0 : Int32) ≤ (rgr I 22) → (rok (rgrI I 22) 22 3 24) ∧ (rok (rput (rgrI I 22) 22 23 (rgr I 22) (0 : Int32) a0) 22 3 24) ∧ (rok (rput (rput (rgrI I 22) 22 23 (rgr I 22) (0 : Int32) a0) 22 23 (rgr I 22) (1 : Int32) a1) 22 3 24) ∧ P ((rput (rput (rput (rgrI I 22) 22 23 (rgr I 22) (0 : Int32) a0) 22 23 (rgr I 22) (1 : Int32) a1) 22 23 (rgr I 22) (2 : Int32) a2) 22 3) (rput (rput (rput (rgrI I 22) 22 23 (rgr I 22) (0 : Int32) a0) 22 23 (rgr I 22) (1 : Int32) a1) 22 23 (rgr I 22) (2 : Int32) a2) J) ∧ (¬ ((0 : Int32) ≤ (rgr I 22)) → P (-3 : Int32) (rgrI I 22) J))) ∧ (¬ (((1 : Int32) ≤ a2 ∧ a2 ≤ (999 : Int32))) → P (-1 : Int32) I J))))))) : CallI E mX11_step [.ref 0, .int a0, .int a1, .int a2] SH I J P := by
  refine Call_of (L := [.ref 0, .int a0, .int a1, .int a2, .retAddr 0]) ok_X11_step.1 rfl rfl ?_
  refine V_aload_n dX11_step_0 rfl ?_
  refine V_iload_n dX11_step_1 rfl ?_
  refine U_callV1 [.int a0] dX11_step_2 ov_X11_148 s_0 rfl ⟨rfl, rfl, rfl⟩ rfl rfl rfl (tX11_isPlace ?_)
  refine U_ifb_eq dX11_step_5 (fun c1 => ?_) (fun c1 => ?_)
  · have k := k.1 c1
    refine V_iconst (v := (-1 : Int32)) dX11_step_26 rfl ?_
    exact V_iret dX11_step_27 ⟨_, rfl, rfl⟩ rfl rfl ⟨_, _, _, rfl, rfl, k⟩
  · have k := k.2 c1
    refine V_iload_n dX11_step_8 rfl ?_
    refine U_callS1 [.int a1] dX11_step_9 os_X11_159 ⟨rfl, rfl, rfl⟩ rfl rfl rfl (tX11_isMinute ?_)
    refine U_ifb_eq dX11_step_12 (fun c2 => ?_) (fun c2 => ?_)
    · have k := k.1 c2
      refine V_iconst (v := (-1 : Int32)) dX11_step_26 rfl ?_
      exact V_iret dX11_step_27 ⟨_, rfl, rfl⟩ rfl rfl ⟨_, _, _, rfl, rfl, k⟩
    · have k := k.2 c2
      refine V_iload_n dX11_step_15 rfl ?_
      refine V_iconst (v := (1 : Int32)) dX11_step_16 rfl ?_
      refine V_sipush (v := (999 : Int32)) dX11_step_17 rfl ?_
      refine U_callS1 [.int a2, .int (1 : Int32), .int (999 : Int32)] dX11_step_20 os_X11_104 ⟨rfl, rfl, rfl⟩ rfl rfl rfl (tX11_within ?_)
      refine U_ifb_ne dX11_step_23 (fun c3 => ?_) (fun c3 => ?_)
      · have k := k.1 c3
        refine V_aload_n dX11_step_28 rfl ?_
        refine U_getR dX11_step_29 fl_X11_47 s_0 rfl ?_
        refine U_getR dX11_step_32 fl_X11_176 s_21 rfl ?_
        refine U_callV1 [] dX11_step_35 ov_X11_180 s_22 rfl ⟨rfl, rfl, rfl⟩ rfl rfl rfl (tX5_grow s_22 s_23 ?_)
        refine U_istore (L2 := [.ref 0, .int a0, .int a1, .int a2, .int (rgr I 22)]) dX11_step_38 (by decide) rfl ?_
        refine V_iload dX11_step_40 rfl ?_
        refine V_if_ge dX11_step_42 (fun c4 => ?_) (fun c4 => ?_)
        · have k := k.1 c4
          refine V_aload_n dX11_step_48 rfl ?_
          refine U_getR dX11_step_49 fl_X11_47 s_0 rfl ?_
          refine U_getR dX11_step_52 fl_X11_176 s_21 rfl ?_
          refine V_iload dX11_step_55 rfl ?_
          refine V_iconst (v := (0 : Int32)) dX11_step_57 rfl ?_
          refine V_iload_n dX11_step_58 rfl ?_
          obtain ⟨hp5, k⟩ := k
          refine U_callV0 [.int (rgr I 22), .int (0 : Int32), .int a0] dX11_step_59 ov_X11_185 s_22 rfl ⟨rfl, rfl, rfl⟩ rfl rfl rfl (tX5_put s_22 s_23 (by decide) hp5 ?_)
          refine V_aload_n dX11_step_62 rfl ?_
          refine U_getR dX11_step_63 fl_X11_47 s_0 rfl ?_
          refine U_getR dX11_step_66 fl_X11_176 s_21 rfl ?_
          refine V_iload dX11_step_69 rfl ?_
          refine V_iconst (v := (1 : Int32)) dX11_step_71 rfl ?_
          refine V_iload_n dX11_step_72 rfl ?_
          obtain ⟨hp6, k⟩ := k
          refine U_callV0 [.int (rgr I 22), .int (1 : Int32), .int a1] dX11_step_73 ov_X11_185 s_22 rfl ⟨rfl, rfl, rfl⟩ rfl rfl rfl (tX5_put s_22 s_23 (by decide) hp6 ?_)
          refine V_aload_n dX11_step_76 rfl ?_
          refine U_getR dX11_step_77 fl_X11_47 s_0 rfl ?_
          refine U_getR dX11_step_80 fl_X11_176 s_21 rfl ?_
          refine V_iload dX11_step_83 rfl ?_
          refine V_iconst (v := (2 : Int32)) dX11_step_85 rfl ?_
          refine V_iload_n dX11_step_86 rfl ?_
          obtain ⟨hp7, k⟩ := k
          refine U_callV0 [.int (rgr I 22), .int (2 : Int32), .int a2] dX11_step_87 ov_X11_185 s_22 rfl ⟨rfl, rfl, rfl⟩ rfl rfl rfl (tX5_put s_22 s_23 (by decide) hp7 ?_)
          refine V_aload_n dX11_step_90 rfl ?_
          refine U_getR dX11_step_91 fl_X11_47 s_0 rfl ?_
          refine U_getR dX11_step_94 fl_X11_176 s_21 rfl ?_
          refine U_getI dX11_step_97 fl_X11_189 s_22 rfl ?_
          exact V_iret dX11_step_100 ⟨_, rfl, rfl⟩ rfl rfl ⟨_, _, _, rfl, rfl, k⟩
        · have k := k.2 c4
          refine V_bipush (v := (-3 : Int32)) dX11_step_45 rfl ?_
          exact V_iret dX11_step_47 ⟨_, rfl, rfl⟩ rfl rfl ⟨_, _, _, rfl, rfl, k⟩
      · have k := k.2 c3
        refine V_iconst (v := (-1 : Int32)) dX11_step_26 rfl ?_
        exact V_iret dX11_step_27 ⟨_, rfl, rfl⟩ rfl rfl ⟨_, _, _, rfl, rfl, k⟩
set_option maxHeartbeats 4000000 in
set_option maxRecDepth 20000 in
theorem wX12_addStep {E : aE} {P : hI_ → hJ_ → Prop} {I : hI_} {J : hJ_} {a0 : Int32} {a1 : Int32} {a2 : Int32} (k : (vp_in ((3 : Int32) * (I 82 280)) 900) ∧ (vp_in (((3 : Int32) * (I 82 280)) + (1 : Int32)) 900) ∧ (vp_in (((3 : Int32) * (I 82 280)) + (2 : Int32)) 900) ∧ P (upI (upI (upI (upI I 82 (((3 : Int32) * (I 82 280)).toNatClampNeg) a0) 82 ((((3 : Int32) * (I 82 280)) + (1 : Int32)).toNatClampNeg) a1) 82 ((((3 : Int32) * (I 82 280)) + (2 : Int32)).toNatClampNeg) a2) 82 280 (((upI (upI (upI I 82 (((3 : Int32) * (I 82 280)).toNatClampNeg) a0) 82 ((((3 : Int32) * (I 82 280)) + (1 : Int32)).toNatClampNeg) a1) 82 ((((3 : Int32) * (I 82 280)) + (2 : Int32)).toNatClampNeg) a2) 82 280) + (1 : Int32))) J) : CallV E mX12_addStep [.ref 68, .int a0, .int a1, .int a2] SH I J P := by
  refine Call_of (L := [.ref 68, .int a0, .int a1, .int a2, .retAddr 0]) ok_X12_addStep.1 rfl rfl ?_
  refine V_iconst (v := (3 : Int32)) dX12_addStep_0 rfl ?_
  refine V_aload_n dX12_addStep_1 rfl ?_
  refine U_getR dX12_addStep_2 fl_X12_49 s_68 rfl ?_
  refine V_sipush (v := (280 : Int32)) dX12_addStep_5 rfl ?_
  refine U_ialdx (x := I 82 280) dX12_addStep_8 s_82 (by unfold vp_in; decide) rfl ?_
  refine V_imul dX12_addStep_9 ?_
  refine U_istore (L2 := [.ref 68, .int a0, .int a1, .int a2, .int ((3 : Int32) * (I 82 280))]) dX12_addStep_10 (by decide) rfl ?_
  refine V_aload_n dX12_addStep_12 rfl ?_
  refine U_getR dX12_addStep_13 fl_X12_49 s_68 rfl ?_
  refine V_iload dX12_addStep_16 rfl ?_
  refine V_iload_n dX12_addStep_18 rfl ?_
  obtain ⟨hb1, k⟩ := k
  refine U_iast dX12_addStep_19 s_82 hb1 ?_
  refine V_aload_n dX12_addStep_20 rfl ?_
  refine U_getR dX12_addStep_21 fl_X12_49 s_68 rfl ?_
  refine V_iload dX12_addStep_24 rfl ?_
  refine V_iconst (v := (1 : Int32)) dX12_addStep_26 rfl ?_
  refine V_iadd dX12_addStep_27 ?_
  refine V_iload_n dX12_addStep_28 rfl ?_
  obtain ⟨hb2, k⟩ := k
  refine U_iast dX12_addStep_29 s_82 hb2 ?_
  refine V_aload_n dX12_addStep_30 rfl ?_
  refine U_getR dX12_addStep_31 fl_X12_49 s_68 rfl ?_
  refine V_iload dX12_addStep_34 rfl ?_
  refine V_iconst (v := (2 : Int32)) dX12_addStep_36 rfl ?_
  refine V_iadd dX12_addStep_37 ?_
  refine V_iload_n dX12_addStep_38 rfl ?_
  obtain ⟨hb3, k⟩ := k
  refine U_iast dX12_addStep_39 s_82 hb3 ?_
  refine V_aload_n dX12_addStep_40 rfl ?_
  refine U_getR dX12_addStep_41 fl_X12_49 s_68 rfl ?_
  refine V_sipush (v := (280 : Int32)) dX12_addStep_44 rfl ?_
  refine V_dup2 dX12_addStep_47 ?_
  refine U_ialdx (x := (upI (upI (upI I 82 (((3 : Int32) * (I 82 280)).toNatClampNeg) a0) 82 ((((3 : Int32) * (I 82 280)) + (1 : Int32)).toNatClampNeg) a1) 82 ((((3 : Int32) * (I 82 280)) + (2 : Int32)).toNatClampNeg) a2) 82 280) dX12_addStep_48 s_82 (by unfold vp_in; decide) rfl ?_
  refine V_iconst (v := (1 : Int32)) dX12_addStep_49 rfl ?_
  refine V_iadd dX12_addStep_50 ?_
  refine U_iast dX12_addStep_51 s_82 (by unfold vp_in; decide) ?_
  exact V_vret dX12_addStep_52 rfl rfl rfl ⟨_, _, rfl, k⟩
set_option maxHeartbeats 4000000 in
set_option maxRecDepth 20000 in
theorem wX12_step {E : aE} {P : Int32 → hI_ → hJ_ → Prop} {I : hI_} {J : hJ_} {a0 : Int32} {a1 : Int32} {a2 : Int32} (k : ((¬ (0 ≤ a0 ∧ a0 ≤ I 73 0 - 1) → P (-1 : Int32) I J) ∧ ((0 ≤ a0 ∧ a0 ≤ I 73 0 - 1) → ((¬ (0 ≤ a1 ∧ a1 ≤ 999) → P (-1 : Int32) I J) ∧ ((0 ≤ a1 ∧ a1 ≤ 999) → ((((1 : Int32) ≤ a2 ∧ a2 ≤ (999 : Int32)) → ((¬ (I 82 280) = (24 : Int32) → CallV E mX12_addStep [.ref 68, .int a0, .int a1, .int a2] SH I J (fun I6 J7 => P (I6 82 280) I6 J7)) ∧ ((I 82 280) = (24 : Int32) → P (-3 : Int32) I J))) ∧ (¬ (((1 : Int32) ≤ a2 ∧ a2 ≤ (999 : Int32))) → P (-1 : Int32) I J))))))) : CallI E mX12_step [.ref 68, .int a0, .int a1, .int a2] SH I J P := by
  refine Call_of (L := [.ref 68, .int a0, .int a1, .int a2]) ok_X12_step.1 rfl rfl ?_
  refine V_aload_n dX12_step_0 rfl ?_
  refine V_iload_n dX12_step_1 rfl ?_
  refine U_callV1 [.int a0] dX12_step_2 ov_X12_167 s_68 rfl ⟨rfl, rfl, rfl⟩ rfl rfl rfl (tX12_isPlace ?_)
  refine U_ifb_eq dX12_step_5 (fun c1 => ?_) (fun c1 => ?_)
  · have k := k.1 c1
    refine V_iconst (v := (-1 : Int32)) dX12_step_27 rfl ?_
    exact V_iret dX12_step_28 ⟨_, rfl, rfl⟩ rfl rfl ⟨_, _, _, rfl, rfl, k⟩
  · have k := k.2 c1
    refine V_iload_n dX12_step_8 rfl ?_
    refine U_callS1 [.int a1] dX12_step_9 os_X12_179 ⟨rfl, rfl, rfl⟩ rfl rfl rfl (tX12_isMinute ?_)
    refine U_ifb_eq dX12_step_12 (fun c2 => ?_) (fun c2 => ?_)
    · have k := k.1 c2
      refine V_iconst (v := (-1 : Int32)) dX12_step_27 rfl ?_
      exact V_iret dX12_step_28 ⟨_, rfl, rfl⟩ rfl rfl ⟨_, _, _, rfl, rfl, k⟩
    · have k := k.2 c2
      refine V_iload_n dX12_step_15 rfl ?_
      refine V_i2l dX12_step_16 ?_
      refine V_lconst (v := (1 : Int64)) dX12_step_17 rfl ?_
      refine V_ldc2_w (v := (999 : Int64)) dX12_step_18 (gt_6 19 rfl rfl) ?_
      refine U_callS1 [.long a2.toInt64, .long (1 : Int64), .long (999 : Int64)] dX12_step_21 os_X12_91 ⟨rfl, rfl, rfl⟩ rfl rfl rfl (tX12_in32 (v := a2) (lo := (1 : Int32)) (hi := (999 : Int32)) rfl (by decide) (by decide) ?_)
      refine U_ifb_ne dX12_step_24 (fun c3 => ?_) (fun c3 => ?_)
      · have k := k.1 c3
        refine V_aload_n dX12_step_29 rfl ?_
        refine U_getR dX12_step_30 fl_X12_49 s_68 rfl ?_
        refine V_sipush (v := (280 : Int32)) dX12_step_33 rfl ?_
        refine U_ialdx (x := I 82 280) dX12_step_36 s_82 (by unfold vp_in; decide) rfl ?_
        refine V_bipush (v := (24 : Int32)) dX12_step_37 rfl ?_
        refine V_icmp_ne dX12_step_39 (fun c4 => ?_) (fun c4 => ?_)
        · have k := k.1 c4
          refine V_aload_n dX12_step_45 rfl ?_
          refine V_iload_n dX12_step_46 rfl ?_
          refine V_iload_n dX12_step_47 rfl ?_
          refine V_iload_n dX12_step_48 rfl ?_
          refine U_callV0 [.int a0, .int a1, .int a2] dX12_step_49 ov_X12_196 s_68 rfl ⟨rfl, rfl, rfl⟩ rfl rfl rfl (CallV_mono k (fun I6 J7 k => ?_))
          refine V_aload_n dX12_step_52 rfl ?_
          refine U_getR dX12_step_53 fl_X12_49 s_68 rfl ?_
          refine V_sipush (v := (280 : Int32)) dX12_step_56 rfl ?_
          refine U_ialdx (x := I6 82 280) dX12_step_59 s_82 (by unfold vp_in; decide) rfl ?_
          exact V_iret dX12_step_60 ⟨_, rfl, rfl⟩ rfl rfl ⟨_, _, _, rfl, rfl, k⟩
        · have k := k.2 c4
          refine V_bipush (v := (-3 : Int32)) dX12_step_42 rfl ?_
          exact V_iret dX12_step_44 ⟨_, rfl, rfl⟩ rfl rfl ⟨_, _, _, rfl, rfl, k⟩
      · have k := k.2 c3
        refine V_iconst (v := (-1 : Int32)) dX12_step_27 rfl ?_
        exact V_iret dX12_step_28 ⟨_, rfl, rfl⟩ rfl rfl ⟨_, _, _, rfl, rfl, k⟩
theorem tX11_step {E : aE} {P : Int32 → hI_ → hJ_ → Prop} {I : hI_} {J : hJ_} {p t v : Int32} {n : Nat} (hr : rok I 22 3 24) (hn : I 22 3 = nI n) (hn2 : n ≤ 24) (k1 : ¬ ((0 ≤ p ∧ p ≤ I 3 6 - 1) ∧ (0 ≤ t ∧ t ≤ 999) ∧ (1 ≤ v ∧ v ≤ 999)) → P (-1) I J) (k2 : ((0 ≤ p ∧ p ≤ I 3 6 - 1) ∧ (0 ≤ t ∧ t ≤ 999) ∧ (1 ≤ v ∧ v ≤ 999)) → n = 24 → P (-3) I J) (k3 : ((0 ≤ p ∧ p ≤ I 3 6 - 1) ∧ (0 ≤ t ∧ t ≤ 999) ∧ (1 ≤ v ∧ v ≤ 999)) → n < 24 → P (nI (n + 1)) (stI I n p t v) J) : CallI E mX11_step [.ref 0, .int p, .int t, .int v] SH I J P := by
  refine wX11_step ⟨fun c1 => k1 (fun z => c1 z.1), fun c1 => ⟨fun c2 => k1 (fun z => c2 z.2.1), fun c2 => ⟨fun c3 => ?_, fun c3 => k1 (fun z => c3 z.2.2)⟩⟩⟩
  obtain ⟨r1, r2, r3, r4⟩ := id hr
  have er : rgr I 22 = if n < 24 then nI n else -1 := by
    unfold rgr
    rw [r2, hn]
    by_cases q : n < 24
    · rw [if_neg (show ¬ (24 : Int32) ≤ nI n from nI_ge (b := 24) q (by omega)), if_pos q]
    · rw [if_pos (show (24 : Int32) ≤ nI n from nI_le (a := 24) (by omega) (by omega)), if_neg q]
  have ei : rgrI I 22 = if n < 24 then upI I 22 3 (nI (n + 1)) else I := by
    unfold rgrI
    rw [r2, hn, nI_1]
    by_cases q : n < 24
    · rw [if_neg (show ¬ (24 : Int32) ≤ nI n from nI_ge (b := 24) q (by omega)), if_pos q]
    · rw [if_pos (show (24 : Int32) ≤ nI n from nI_le (a := 24) (by omega) (by omega)), if_neg q]
  rw [er, ei]
  by_cases q : n < 24
  · rw [if_pos q, if_pos q]
    have ok : ∀ I2 : hI_, I2 22 = (upI I 22 3 (nI (n + 1))) 22 → rok I2 22 3 24 ∧ (n : Int) < (I2 22 3).toInt := fun I2 h2 => by
      have e3 : I2 22 3 = nI (n + 1) := by rw [h2]; exact upI_same
      have e1 : I2 22 1 = I 22 1 := by rw [h2]; rfl
      have e0 : I2 22 0 = I 22 0 := by rw [h2]; rfl
      refine ⟨⟨e1.trans r1, e0.trans r2, by rw [e3]; exact nI_pos' (by omega), by rw [e3]; exact nI_le (b := 24) (by omega) (by omega)⟩, by rw [e3, nI_toInt (by omega)]; omega⟩
    have o0 := ok (upI I 22 3 (nI (n + 1))) rfl
    have p0 : rput (upI I 22 3 (nI (n + 1))) 22 23 (nI n) 0 p = upI (upI I 22 3 (nI (n + 1))) 23 (3 * n) p := by
      have := rput_nI (I := upI I 22 3 (nI (n + 1))) (a := 22) (b := 23) (k := n) (j := 0) (w := 3) (m := 24) (v := p) o0.1 o0.2 (by omega) (by omega) (by omega) (by omega)
      rw [Nat.mul_comm n 3] at this
      exact this
    have o1 := ok (upI (upI I 22 3 (nI (n + 1))) 23 (3 * n) p) rfl
    have p1 : rput (upI (upI I 22 3 (nI (n + 1))) 23 (3 * n) p) 22 23 (nI n) 1 t = upI (upI (upI I 22 3 (nI (n + 1))) 23 (3 * n) p) 23 (3 * n + 1) t := by
      have := rput_nI (I := upI (upI I 22 3 (nI (n + 1))) 23 (3 * n) p) (a := 22) (b := 23) (k := n) (j := 1) (w := 3) (m := 24) (v := t) o1.1 o1.2 (by omega) (by omega) (by omega) (by omega)
      rw [Nat.mul_comm n 3] at this
      exact this
    have o2 := ok (upI (upI (upI I 22 3 (nI (n + 1))) 23 (3 * n) p) 23 (3 * n + 1) t) rfl
    have p2 : rput (upI (upI (upI I 22 3 (nI (n + 1))) 23 (3 * n) p) 23 (3 * n + 1) t) 22 23 (nI n) 2 v = stI I n p t v := by
      have := rput_nI (I := upI (upI (upI I 22 3 (nI (n + 1))) 23 (3 * n) p) 23 (3 * n + 1) t) (a := 22) (b := 23) (k := n) (j := 2) (w := 3) (m := 24) (v := v) o2.1 o2.2 (by omega) (by omega) (by omega) (by omega)
      rw [Nat.mul_comm n 3] at this
      exact this
    refine ⟨fun _ => ?_, fun z => absurd (nI_pos' (by omega)) z⟩
    rw [p0, p1, p2]
    refine ⟨o0.1, o1.1, o2.1, ?_⟩
    have e3 : stI I n p t v 22 3 = nI (n + 1) := by simp [stI, upI_at]
    rw [e3]
    exact k3 ⟨c1, c2, c3⟩ q
  · rw [if_neg q, if_neg q]
    exact ⟨fun z => absurd z (by decide), fun _ => k2 ⟨c1, c2, c3⟩ (by omega)⟩
theorem tX12_addStep {E : aE} {P : hI_ → hJ_ → Prop} {I : hI_} {J : hJ_} {p t v : Int32} {n : Nat} (hn : I 82 280 = nI n) (hn2 : n < 24) (k : P (smI I n p t v) J) : CallV E mX12_addStep [.ref 68, .int p, .int t, .int v] SH I J P := by
  refine wX12_addStep ?_
  have a1 : nI (3 * n) + 1 = nI (3 * n + 1) := nI_1 _
  have a2 : nI (3 * n) + 2 = nI (3 * n + 2) := nI_add _ 2
  rw [hn, m3_nI, a1, a2, nI_clamp (by omega), nI_clamp (by omega), nI_clamp (by omega)]
  refine ⟨vp_in_nI (by omega) (by omega), vp_in_nI (by omega) (by omega), vp_in_nI (by omega) (by omega), ?_⟩
  have e : (upI (upI (upI I 82 (3 * n) p) 82 (3 * n + 1) t) 82 (3 * n + 2) v) 82 280 = nI n := by
    simp only [upI_at]
    rw [if_neg (by omega), if_neg (by omega), if_neg (by omega)]
    exact hn
  rw [e, nI_1]
  exact k
theorem bet_of {x lo hi : Int32} {a b : Int} (h : lo ≤ x ∧ x ≤ hi) (ha : lo.toInt = a) (hb : hi.toInt = b) : bet a x b := ⟨by rw [← ha]; exact Int32.le_iff_toInt_le.mp h.1, by rw [← hb]; exact Int32.le_iff_toInt_le.mp h.2⟩
theorem op_step {E : aE} {I : hI_} {J : hJ_} {P : hI_ → hJ_ → Prop} {p t v : Int32} (h : Rel I) (hP : ∀ I2 J2, Rel I2 → P I2 J2) : Op2 E mX11_step mX12_step [.int p, .int t, .int v] I J P := by
  have hS := Rel_S h
  have hp := Rel_P h
  have e := Rel_pl h
  refine tX11_step (n := nS I) (Rel_rows h).1 hS.1 hS.2.2 (fun hb => ?_) (fun hg hn => ?_) (fun hg hn => ?_)
  · rw [e] at hb
    exact wX12_step ⟨fun _ => ⟨rfl, hP I J h⟩, fun d1 => ⟨fun _ => ⟨rfl, hP I J h⟩, fun d2 => ⟨fun d3 => absurd ⟨d1, d2, d3⟩ hb, fun _ => ⟨rfl, hP I J h⟩⟩⟩⟩
  · rw [e] at hg
    exact wX12_step ⟨fun d => absurd hg.1 d, fun _ => ⟨fun d => absurd hg.2.1 d, fun _ => ⟨fun _ => ⟨fun d => absurd (by rw [hS.2.1, hn]; rfl) d, fun _ => ⟨rfl, hP I J h⟩⟩, fun d => absurd hg.2.2 d⟩⟩⟩
  · rw [e] at hg
    have hx : apX I (stI I (nS I) p t v) (nS I) 1 (fun _ j => if j = 0 then p else if j = 1 then t else v) := apX_s (val := fun _ j => if j = 0 then p else if j = 1 then t else v) (apX_0 hS.1)
    have e82 : (stI I (nS I) p t v) 82 = I 82 := hx.1 82 (by omega) (by omega)
    have e73 : (stI I (nS I) p t v) 73 = I 73 := hx.1 73 (by omega) (by omega)
    refine wX12_step ⟨fun d => absurd (by rw [e73]; exact hg.1) d, fun _ => ⟨fun d => absurd hg.2.1 d, fun _ => ⟨fun _ => ⟨fun _ => ?_, fun d => ?_⟩, fun d => absurd hg.2.2 d⟩⟩⟩
    · have hn' : (stI I (nS I) p t v) 82 280 = nI (nS I) := by rw [e82]; exact hS.2.1
      refine tX12_addStep hn' hn ⟨by simp [smI, upI_at], hP _ _ ?_⟩
      refine Rel_app (k := 1) (val := fun _ j => if j = 0 then p else if j = 1 then t else v) h (by omega) hx (apM_s (val := fun _ j => if j = 0 then p else if j = 1 then t else v) hn (apM_0 hn')) (fun i _ => ⟨?_, ?_, ?_⟩)
      · have := hg.1
        rw [hp.2.1] at this
        obtain ⟨x, hx, rfl⟩ := in_lt (by omega) this
        show bet 0 (nI x) _
        exact ⟨by rw [nI_toInt (by omega)]; omega, by rw [nI_toInt (by omega)]; omega⟩
      · exact bet_of hg.2.1 rfl rfl
      · exact bet_of hg.2.2 rfl rfl
    · rw [e82, hS.2.1] at d
      have := (nI_eq (b := 24) (by omega) (by omega)).mp d
      omega
