/-- the greatest wait of minutes -/
noncomputable def mxW (w : Wld) (p n A : Nat) : Nat → Nat
  | 0 => 0
  | m + 1 => max (mxW w p n A m) (wt w (A + m) p n)
theorem mxW_ge {w : Wld} {p n A : Nat} : ∀ m t, A ≤ t → t < A + m → wt w t p n ≤ mxW w p n A m
  | 0, t, h1, h2 => by omega
  | m + 1, t, h1, h2 => by
    unfold mxW
    by_cases e : t = A + m
    · rw [e]; exact Nat.le_max_right _ _
    · exact Nat.le_trans (mxW_ge m t h1 (by omega)) (Nat.le_max_left _ _)
theorem mxW_le {w : Wld} {p n A D : Nat} : ∀ m, (∀ t, A ≤ t → t < A + m → wt w t p n ≤ D) → mxW w p n A m ≤ D
  | 0, _ => Nat.zero_le _
  | m + 1, h => Nat.max_le.mpr ⟨mxW_le m (fun t h1 h2 => h t h1 (by omega)), h _ (by omega) (by omega)⟩
theorem mxW_10 {w : Wld} {p n A : Nat} (m : Nat) : mxW w p n A m ≤ 10000 := mxW_le m (fun _ _ _ => wt_le n)
theorem wt_ge {w : Wld} {t p : Nat} : ∀ n a, a < n → wv w a t p ≤ wt w t p n
  | 0, a, h => by omega
  | n + 1, a, h => by
    unfold wt
    by_cases e : a = n
    · rw [e]; exact Nat.le_max_right _ _
    · exact Nat.le_trans (wt_ge n a (by omega)) (Nat.le_max_left _ _)
theorem wt_D {w : Wld} {t p D : Nat} : ∀ n, (∀ a, a < n → wv w a t p ≤ D) → wt w t p n ≤ D
  | 0, _ => Nat.zero_le _
  | n + 1, h => Nat.max_le.mpr ⟨wt_D n (fun a ha => h a (by omega)), h n (by omega)⟩
/-- what is looked at is enough: a wait grows from one minute to the next only behind a shut that was just met -/
theorem en_cov {I : hI_} (h : Rel I) {p A B M : Nat} (hB : B ≤ 999) (h0 : wt (wI I) A p (nP I) ≤ M) (h1 : M < 10000) (hc : ∀ s, s < nsh I → ∀ e, (I 76 (4 * s) = nI e ∨ I 76 (4 * s + 1) = nI e) → e < nP I → ∀ a, a < nP I → A < lt1 (wI I) a e (shF I s) → lt1 (wI I) a e (shF I s) ≤ B → arr (wI I) a (lt1 (wI I) a e (shF I s)) p - lt1 (wI I) a e (shF I s) ≤ M) {a : Nat} (ha : a < nP I) : ∀ m, A + m ≤ B → wv (wI I) a (A + m) p ≤ M
  | 0, hm => Nat.le_trans (wt_ge _ a ha) h0
  | m + 1, hm => by
    have hw := Rel_wok h
    have ih := en_cov h hB h0 h1 hc ha m (by omega)
    have c0 : arr (wI I) a (A + m) p < 10000 := by
      rcases Nat.lt_or_ge (arr (wI I) a (A + m) p) 10000 with z | z
      · exact z
      · unfold wv at ih; rw [if_pos z] at ih; omega
    have c1 : arr (wI I) a (A + (m + 1)) p < 10000 := arr_conn2 hw (t := A + m) (by omega) (by omega) c0
    have l0 := @arr_late (wI I) a (A + m) p (by omega)
    have l1 := @arr_late (wI I) a (A + (m + 1)) p (by omega)
    unfold wv at ih ⊢
    rw [if_neg (by omega)] at ih ⊢
    by_cases g : arr (wI I) a (A + (m + 1)) p ≤ arr (wI I) a (A + m) p + 1
    · omega
    · refine Classical.byContradiction (fun bad => g ?_)
      refine arr_next hw (t := A + m) (by omega) (fun u v q1 q2 q3 => ?_) p
      refine Classical.byContradiction (fun nb => bad ?_)
      rw [show A + m + 1 = A + (m + 1) by omega] at q2 q3 nb
      obtain ⟨s, hs, hh⟩ := (cl_iff h).mp q2
      have hh1 := hh
      unfold hitB at hh1
      simp only [Bool.and_eq_true, decide_eq_true_eq] at hh1
      obtain ⟨hm1, hF, hT⟩ := hh1
      have hT1 := @arr_late (wI I) a (A + (m + 1)) u (by omega)
      have eF : shF I s = arr (wI I) a (A + (m + 1)) u := by
        refine Classical.byContradiction (fun z => ?_)
        have : (wI I).2 u v (arr (wI I) a (A + (m + 1)) u - 1) = true := (cl_iff h).mpr ⟨s, hs, by
          unfold hitB
          simp only [Bool.and_eq_true, decide_eq_true_eq]
          exact ⟨hm1, by omega, by omega⟩⟩
        rw [q3] at this
        cases this
      have hu := Rel_way0 h q1
      have hS := (Rel_shut h).2.2.2 s hs
      have hF9 : shF I s ≤ 999 := by have := hS.2.2.2.2.1; have := hS.2.2.2.2.2.1; omega
      have eL : lt1 (wI I) a u (shF I s) = A + (m + 1) := by
        unfold lt1
        rw [if_neg (by omega)]
        have y1 := lat_iff hw (a := a) (b := u) (T := shF I s - 1) (m := A + m) (by omega)
        have y2 := lat_iff hw (a := a) (b := u) (T := shF I s - 1) (m := A + (m + 1)) (by omega)
        have y3 := y1.mpr (by omega)
        have y4 : ¬ A + (m + 1) < lat (wI I) a u (shF I s - 1) := fun z => by have := y2.mp z; omega
        omega
      have mt := of_decide_eq_true hm1
      have key := hc s hs u (by rcases mt with mt | mt; exact Or.inl mt.1; exact Or.inr mt.2) hu.1 a ha
      rw [eL] at key
      exact key (by omega) hm
def HX9_longestBehind_25 (E : aE) (P : Int32 → hI_ → hJ_ → Prop) (v3 : Int32) (v4 : Int32) (v5 : Int32) (v6 : Int32) (v7 : Int32) (I : hI_) (J : hJ_) : Prop := V E mX9_longestBehind (kI SH P) 25 [.ref 40, .retAddr 0, .retAddr 0, .int v3, .int v4, .int v5, .int v6, .int v7, .retAddr 0] [] (SH, I, J) (0, 0)
set_option maxHeartbeats 4000000 in
set_option maxRecDepth 20000 in
theorem wX9_longestBehind {E : aE} {P : Int32 → hI_ → hJ_ → Prop} {I : hI_} {J : hJ_} {a0 : Int32} {a1 : Int32} {a2 : Int32} {a3 : Int32} {a4 : Int32} (k : (vp_in a1 12) ∧ CallV E mX2_gather [.ref 18, .int a0, .int ((I 7 a1.toNatClampNeg) - (1 : Int32))] SH I J (fun I3 J4 => HX9_longestBehind_25 E P a2 a3 a4 (0 : Int32) (0 : Int32) I3 J4)) : CallI E mX9_longestBehind [.ref 40, .int a0, .int a1, .int a2, .int a3, .int a4] SH I J P := by
  refine Call_of (L := [.ref 40, .int a0, .int a1, .int a2, .int a3, .int a4, .retAddr 0, .retAddr 0, .retAddr 0]) ok_X9_longestBehind.1 rfl rfl ?_
  refine V_iconst (v := (0 : Int32)) dX9_longestBehind_0 rfl ?_
  refine U_istore (L2 := [.ref 40, .int a0, .int a1, .int a2, .int a3, .int a4, .int (0 : Int32), .retAddr 0, .retAddr 0]) dX9_longestBehind_1 (by decide) rfl ?_
  refine V_aload_n dX9_longestBehind_3 rfl ?_
  refine U_getR dX9_longestBehind_4 fl_X9_19 s_40 rfl ?_
  refine V_iload_n dX9_longestBehind_7 rfl ?_
  refine V_aload_n dX9_longestBehind_8 rfl ?_
  refine U_getR dX9_longestBehind_9 fl_X9_15 s_40 rfl ?_
  refine U_getR dX9_longestBehind_12 fl_X9_64 s_3 rfl ?_
  refine V_iload_n dX9_longestBehind_15 rfl ?_
  obtain ⟨hb1, k⟩ := k
  refine U_iald dX9_longestBehind_16 s_7 hb1 ?_
  refine V_iconst (v := (1 : Int32)) dX9_longestBehind_17 rfl ?_
  refine V_isub dX9_longestBehind_18 ?_
  refine U_callV0 [.int a0, .int ((I 7 a1.toNatClampNeg) - (1 : Int32))] dX9_longestBehind_19 ov_X9_67 s_18 rfl ⟨rfl, rfl, rfl⟩ rfl rfl rfl (CallV_mono k (fun I3 J4 k => ?_))
  refine V_iconst (v := (0 : Int32)) dX9_longestBehind_22 rfl ?_
  refine U_istore (L2 := [.ref 40, .int a0, .int a1, .int a2, .int a3, .int a4, .int (0 : Int32), .int (0 : Int32), .retAddr 0]) dX9_longestBehind_23 (by decide) rfl ?_
  exact V_wk (wk_eq (wk_j (wk_j (wk_eq (wk_eq (wk_eq (wk_eq (wk_eq (wk_j (wk_nil)))))))))) k
set_option maxHeartbeats 4000000 in
set_option maxRecDepth 20000 in
theorem wX9_longestBehind_25 {E : aE} {P : Int32 → hI_ → hJ_ → Prop} {I : hI_} {J : hJ_} {v3 : Int32} {v4 : Int32} {v5 : Int32} {v6 : Int32} {v7 : Int32} (k : (((I 3 6) ≤ v7 → P v6 I J) ∧ (¬ ((I 3 6) ≤ v7) → (vp_in v7 5) ∧ ((((I 20 v7.toNatClampNeg) + (1 : Int32)) ≤ v4 → HX9_longestBehind_25 E P v3 v4 v5 v6 (v7 + (1 : Int32)) I J) ∧ (¬ (((I 20 v7.toNatClampNeg) + (1 : Int32)) ≤ v4) → ((v5 < ((I 20 v7.toNatClampNeg) + (1 : Int32)) → HX9_longestBehind_25 E P v3 v4 v5 v6 (v7 + (1 : Int32)) I J) ∧ (¬ (v5 < ((I 20 v7.toNatClampNeg) + (1 : Int32))) → CallI E mX2_arrival [.ref 18, .int v7, .int v3, .int ((I 20 v7.toNatClampNeg) + (1 : Int32))] SH I J (fun x5 I6 J7 => HX9_longestBehind_25 E P v3 v4 v5 (jmax v6 (x5 - ((I 20 v7.toNatClampNeg) + (1 : Int32)))) (v7 + (1 : Int32)) I6 J7)))))))) : HX9_longestBehind_25 E P v3 v4 v5 v6 v7 I J := by
  show V E mX9_longestBehind (kI SH P) 25 [.ref 40, .retAddr 0, .retAddr 0, .int v3, .int v4, .int v5, .int v6, .int v7, .retAddr 0] [] (SH, I, J) (0, 0)
  refine V_iload dX9_longestBehind_25 rfl ?_
  refine V_aload_n dX9_longestBehind_27 rfl ?_
  refine U_getR dX9_longestBehind_28 fl_X9_15 s_40 rfl ?_
  refine U_getI dX9_longestBehind_31 fl_X9_29 s_3 rfl ?_
  refine V_icmp_ge dX9_longestBehind_34 (fun c1 => ?_) (fun c1 => ?_)
  · have k := k.1 c1
    refine V_iload dX9_longestBehind_93 rfl ?_
    exact V_iret dX9_longestBehind_95 ⟨_, rfl, rfl⟩ rfl rfl ⟨_, _, _, rfl, rfl, k⟩
  · have k := k.2 c1
    refine V_aload_n dX9_longestBehind_37 rfl ?_
    refine U_getR dX9_longestBehind_38 fl_X9_19 s_40 rfl ?_
    refine U_getR dX9_longestBehind_41 fl_X9_70 s_18 rfl ?_
    refine V_iload dX9_longestBehind_44 rfl ?_
    obtain ⟨hb2, k⟩ := k
    refine U_iald dX9_longestBehind_46 s_20 hb2 ?_
    refine V_iconst (v := (1 : Int32)) dX9_longestBehind_47 rfl ?_
    refine V_iadd dX9_longestBehind_48 ?_
    refine U_istore (L2 := [.ref 40, .retAddr 0, .retAddr 0, .int v3, .int v4, .int v5, .int v6, .int v7, .int ((I 20 v7.toNatClampNeg) + (1 : Int32))]) dX9_longestBehind_49 (by decide) rfl ?_
    refine V_iload dX9_longestBehind_51 rfl ?_
    refine V_iload dX9_longestBehind_53 rfl ?_
    refine V_icmp_ge dX9_longestBehind_55 (fun c3 => ?_) (fun c3 => ?_)
    · have k := k.1 c3
      refine U_iinc (v := v7 + (1 : Int32)) (L2 := [.ref 40, .retAddr 0, .retAddr 0, .int v3, .int v4, .int v5, .int v6, .int (v7 + (1 : Int32)), .int ((I 20 v7.toNatClampNeg) + (1 : Int32))]) dX9_longestBehind_87 (by decide) rfl rfl rfl ?_
      refine V_goto dX9_longestBehind_90 ?_
      exact V_wk (wk_eq (wk_j (wk_j (wk_eq (wk_eq (wk_eq (wk_eq (wk_eq (wk_j (wk_nil)))))))))) k
    · have k := k.2 c3
      refine V_iload dX9_longestBehind_58 rfl ?_
      refine V_iload dX9_longestBehind_60 rfl ?_
      refine V_icmp_gt dX9_longestBehind_62 (fun c4 => ?_) (fun c4 => ?_)
      · have k := k.1 c4
        refine U_iinc (v := v7 + (1 : Int32)) (L2 := [.ref 40, .retAddr 0, .retAddr 0, .int v3, .int v4, .int v5, .int v6, .int (v7 + (1 : Int32)), .int ((I 20 v7.toNatClampNeg) + (1 : Int32))]) dX9_longestBehind_87 (by decide) rfl rfl rfl ?_
        refine V_goto dX9_longestBehind_90 ?_
        exact V_wk (wk_eq (wk_j (wk_j (wk_eq (wk_eq (wk_eq (wk_eq (wk_eq (wk_j (wk_nil)))))))))) k
      · have k := k.2 c4
        refine V_iload dX9_longestBehind_65 rfl ?_
        refine V_aload_n dX9_longestBehind_67 rfl ?_
        refine U_getR dX9_longestBehind_68 fl_X9_19 s_40 rfl ?_
        refine V_iload dX9_longestBehind_71 rfl ?_
        refine V_iload_n dX9_longestBehind_73 rfl ?_
        refine V_iload dX9_longestBehind_74 rfl ?_
        refine U_callV1 [.int v7, .int v3, .int ((I 20 v7.toNatClampNeg) + (1 : Int32))] dX9_longestBehind_76 ov_X9_73 s_18 rfl ⟨rfl, rfl, rfl⟩ rfl rfl rfl (CallI_mono k (fun x5 I6 J7 k => ?_))
        refine V_iload dX9_longestBehind_79 rfl ?_
        refine V_isub dX9_longestBehind_81 ?_
        refine V_mmax dX9_longestBehind_82 om_X9_44 rfl ?_
        refine U_istore (L2 := [.ref 40, .retAddr 0, .retAddr 0, .int v3, .int v4, .int v5, .int (jmax v6 (x5 - ((I 20 v7.toNatClampNeg) + (1 : Int32)))), .int v7, .int ((I 20 v7.toNatClampNeg) + (1 : Int32))]) dX9_longestBehind_85 (by decide) rfl ?_
        refine U_iinc (v := v7 + (1 : Int32)) (L2 := [.ref 40, .retAddr 0, .retAddr 0, .int v3, .int v4, .int v5, .int (jmax v6 (x5 - ((I 20 v7.toNatClampNeg) + (1 : Int32)))), .int (v7 + (1 : Int32)), .int ((I 20 v7.toNatClampNeg) + (1 : Int32))]) dX9_longestBehind_87 (by decide) rfl rfl rfl ?_
        refine V_goto dX9_longestBehind_90 ?_
        exact V_wk (wk_eq (wk_j (wk_j (wk_eq (wk_eq (wk_eq (wk_eq (wk_eq (wk_j (wk_nil)))))))))) k
theorem gather_out {E : aE} {P : hI_ → hJ_ → Prop} {I : hI_} {J : hJ_} {b T1 : Nat} (h : Rel I) (hb : nP I ≤ b) (hb5 : b < 5) (hT : T1 ≤ 10000) (k : ∀ I2, ag1 20 I I2 → (∀ j, j < nP I → I2 20 j = nI 0 - 1) → P I2 J) : CallV E mX2_gather [.ref 18, .int (nI b), .int (nI T1 - 1)] SH I J P := by
  have hP := Rel_P h
  have hfl : ag1 20 I (flI I 20 5 (-1)) := fun q hq => by simp [flI, hq]
  have hf5 : ∀ j, j < 5 → flI I 20 5 (-1) 20 j = nI 0 - 1 := fun j hj => by simp [flI, hj]; rfl
  refine wX2_gather ⟨fun q => absurd q (nI_pos (by omega)), fun _ => ⟨fun _ => ⟨vp_in_nI (by omega) (by omega), ?_⟩, fun q => absurd (nI_lt (b := 5) (by omega) (by omega)) q⟩⟩
  rw [nI_clamp (by omega)]
  generalize hG : upI (flI I 20 5 (-1)) 20 b (nI T1 - 1) = G
  have ag : ag1 20 I G := by rw [← hG]; exact ag1_tr hfl ag1_up
  have hX := ag1_X rfl ag
  have hR := Rel_agX hX h
  have hD : ∀ j, j < 5 → G 20 j = nI (if j = b then T1 else 0) - 1 := fun j hj => by
    rw [← hG, upI_at]
    by_cases e : j = b
    · rw [if_pos ⟨rfl, e⟩, if_pos e]
    · rw [if_neg (fun q => e q.2), if_neg e]; exact hf5 j hj
  have fin : P G J := k G ag (fun j hj => by rw [hD j (by omega), if_neg (by omega)])
  refine wX2_gather_30 ⟨fun _ => fin, fun _ => ?_⟩
  refine wX2_lastLeft (lastL_loop (g := 0) (D := fun j => if j = b then T1 else 0) hR (by omega) hD (fun j => ?_) (fun _ => ⟨fun z => absurd z (by decide), fun _ => fin⟩) (fun x hx _ h0 _ => ?_) (nP G) 0 (-1) (by omega) (Or.inl ⟨rfl, fun a ha => by omega⟩))
  · split <;> omega
  · rw [nP_X hX] at hx
    rw [if_neg (by omega)] at h0
    omega
theorem beh_loop {E : aE} {P : Int32 → hI_ → hJ_ → Prop} {I0 : hI_} {J : hJ_} {p A B mx : Nat} {G : Nat → Nat} (h : Rel I0) (hp : p < nP I0) (hA : A ≤ 999) (hB : B ≤ 999) (hmx : mx ≤ 10000) (hG : ∀ j, j < nP I0 → I0 20 j = nI (G j) - 1) (hG2 : ∀ j, G j ≤ 10000) (hm : ∀ a, a < nP I0 → ∀ t, A < t → t ≤ B → arr (wI I0) a t p - t ≤ mx) (k : ∀ I2 M, ag1 19 I0 I2 → M ≤ mx → (∀ a, a < nP I0 → A < G a → G a ≤ B → arr (wI I0) a (G a) p - G a ≤ M) → P (nI M) I2 J) : ∀ (m a : Nat) (M : Nat) (I : hI_), a + m = nP I0 → ag1 19 I0 I → M ≤ mx → (∀ u, u < a → A < G u → G u ≤ B → arr (wI I0) u (G u) p - G u ≤ M) → HX9_longestBehind_25 E P (nI p) (nI A) (nI B) (nI M) (nI a) I J
  | 0, a, M, I, ha, hag, hM, hc => by
    have hP := Rel_P h
    have e : a = nP I0 := by omega
    refine wX9_longestBehind_25 ?_
    rw [hag 3 (by omega), hP.1]
    exact ⟨fun _ => k I M hag hM (fun u hu => hc u (by omega)), fun z => absurd (nI_le (by omega) (by omega)) z⟩
  | m + 1, a, M, I, ha, hag, hM, hc => by
    have hP := Rel_P h
    have hX := ag1_X rfl hag
    have hR := Rel_agX hX h
    have hGa := hG2 a
    have eG : I 20 (nI a).toNatClampNeg + 1 = nI (G a) := by rw [nI_clamp (by omega), hag 20 (by omega), hG a (by omega), Int32.sub_add_cancel]
    refine wX9_longestBehind_25 ?_
    rw [hag 3 (by omega), hP.1, eG, nI_1]
    refine ⟨fun z => absurd z (nI_ge (by omega) (by omega)), fun _ => ⟨vp_in_nI (by omega) (by omega), fun z => ?_, fun z => ⟨fun z2 => ?_, fun z2 => ?_⟩⟩⟩
    · have z' : G a ≤ A := by
        rcases Nat.lt_or_ge A (G a) with y | y
        · exact absurd z (nI_ge y (by omega))
        · exact y
      exact beh_loop h hp hA hB hmx hG hG2 hm k m (a + 1) M I (by omega) hag hM (fun u hu q1 q2 => by
        by_cases e : u = a
        · rw [e] at q1; omega
        · exact hc u (by omega) q1 q2)
    · have z' : B < G a := by
        rcases Nat.lt_or_ge B (G a) with y | y
        · exact y
        · exact absurd z2 (nI_nlt y (by omega))
      exact beh_loop h hp hA hB hmx hG hG2 hm k m (a + 1) M I (by omega) hag hM (fun u hu q1 q2 => by
        by_cases e : u = a
        · rw [e] at q2; omega
        · exact hc u (by omega) q1 q2)
    · have z1' : A < G a := by
        rcases Nat.lt_or_ge A (G a) with y | y
        · exact y
        · exact absurd (nI_le y (by omega)) z
      have z2' : G a ≤ B := by
        rcases Nat.lt_or_ge B (G a) with y | y
        · exact absurd (nI_lt y (by omega)) z2
        · exact y
      refine tX2_arrival hR (by rw [nP_X hX]; omega) (by rw [nP_X hX]; omega) (by omega) (fun I2 hag2 => ?_)
      have l1 := @arr_late (wI I0) a (G a) p (by omega)
      have l2 := @arr_le (wI I0) a (G a) p
      rw [wI_X hX, nI_sub l1, jmax_nI (by omega) (by omega)]
      refine beh_loop h hp hA hB hmx hG hG2 hm k m (a + 1) _ I2 (by omega) (ag1_tr hag hag2) (Nat.max_le.mpr ⟨hM, hm a (by omega) _ z1' z2'⟩) (fun u hu q1 q2 => ?_)
      by_cases e : u = a
      · rw [e]; exact Nat.le_max_right _ _
      · exact Nat.le_trans (hc u (by omega) q1 q2) (Nat.le_max_left _ _)
theorem tX9_behind {E : aE} {P : Int32 → hI_ → hJ_ → Prop} {I : hI_} {J : hJ_} {e s p A B mx : Nat} (h : Rel I) (hs : s < nsh I) (he : e < 5) (hp : p < nP I) (hA : A ≤ 999) (hB : B ≤ 999) (hmx : mx ≤ 10000) (hm : ∀ a, a < nP I → ∀ t, A < t → t ≤ B → arr (wI I) a t p - t ≤ mx) (k : ∀ I2 M, ag2 19 20 I I2 → M ≤ mx → (e < nP I → ∀ a, a < nP I → A < lt1 (wI I) a e (shF I s) → lt1 (wI I) a e (shF I s) ≤ B → arr (wI I) a (lt1 (wI I) a e (shF I s)) p - lt1 (wI I) a e (shF I s) ≤ M) → P (nI M) I2 J) : CallI E mX9_longestBehind [.ref 40, .int (nI e), .int (nI s), .int (nI p), .int (nI A), .int (nI B)] SH I J P := by
  have hP := Rel_P h
  obtain ⟨-, -, n12, hS⟩ := Rel_shut h
  obtain ⟨e7, -, -, -, hFT, hT9, -⟩ := hS s hs
  refine wX9_longestBehind ⟨vp_in_nI (by omega) (by omega), ?_⟩
  rw [nI_clamp (by omega), e7]
  have l1b : ∀ j, lt1 (wI I) j e (shF I s) ≤ 10000 := fun j => by
    unfold lt1
    split
    · omega
    · have := @lat_le (wI I) j e (shF I s - 1); omega
  by_cases c : e < nP I
  · refine tX2_gather h c (by omega) (fun I2 hag hI2 => ?_)
    have hX := ag1_X rfl hag
    have hR := Rel_agX hX h
    refine beh_loop (I0 := I2) (mx := mx) (G := fun j => lt1 (wI I) j e (shF I s)) hR (by rw [nP_X hX]; exact hp) hA hB hmx (fun j hj => hI2 j (by rw [nP_X hX] at hj; omega)) l1b (by rw [nP_X hX, wI_X hX]; exact hm) (fun I3 M hag3 hM hc => k I3 M (fun q q1 q2 => by rw [hag3 q q1, hag q q2]) hM (fun _ => by rw [nP_X hX, wI_X hX] at hc; exact hc)) (nP I2) 0 0 I2 (by omega) ag1_rf (by omega) (fun u hu => by omega)
  · refine gather_out h (by omega) he (by omega) (fun I2 hag hI2 => ?_)
    have hX := ag1_X rfl hag
    have hR := Rel_agX hX h
    refine beh_loop (I0 := I2) (mx := mx) (G := fun _ => 0) hR (by rw [nP_X hX]; exact hp) hA hB hmx (fun j hj => hI2 j (by rw [nP_X hX] at hj; exact hj)) (fun _ => by omega) (by rw [nP_X hX, wI_X hX]; exact hm) (fun I3 M hag3 hM hc => k I3 M (fun q q1 q2 => by rw [hag3 q q1, hag q q2]) hM (fun z => absurd z c)) (nP I2) 0 0 I2 (by omega) ag1_rf (by omega) (fun u hu => by omega)
def HX9_longestIn_31 (E : aE) (P : Int32 → hI_ → hJ_ → Prop) (v1 : Int32) (v2 : Int32) (v3 : Int32) (v4 : Int32) (v5 : Int32) (I : hI_) (J : hJ_) : Prop := V E mX9_longestIn (kI SH P) 31 [.ref 40, .int v1, .int v2, .int v3, .int v4, .int v5, .retAddr 0, .retAddr 0] [] (SH, I, J) (0, 0)
set_option maxHeartbeats 4000000 in
set_option maxRecDepth 20000 in
theorem wX9_longestIn {E : aE} {P : Int32 → hI_ → hJ_ → Prop} {I : hI_} {J : hJ_} {a0 : Int32} {a1 : Int32} {a2 : Int32} (k : CallV E mX9_look [.ref 40, .int a1] SH I J (fun I2 J3 => ((¬ (a0 < (0 : Int32))) → (¬ ((5 : Int32) ≤ a0)) → vp_in a0 5) ∧ HX9_longestIn_31 E P a0 a1 a2 (if a0 < (0 : Int32) then (10000 : Int32) else (if (5 : Int32) ≤ a0 then (10000 : Int32) else (I2 41 a0.toNatClampNeg))) (0 : Int32) I2 J3)) : CallI E mX9_longestIn [.ref 40, .int a0, .int a1, .int a2] SH I J P := by
  refine Call_of (L := [.ref 40, .int a0, .int a1, .int a2, .retAddr 0, .retAddr 0, .retAddr 0, .retAddr 0]) ok_X9_longestIn.1 rfl rfl ?_
  refine V_aload_n dX9_longestIn_0 rfl ?_
  refine V_iload_n dX9_longestIn_1 rfl ?_
  refine U_callV0 [.int a1] dX9_longestIn_2 ov_X9_50 s_40 rfl ⟨rfl, rfl, rfl⟩ rfl rfl rfl (CallV_mono k (fun I2 J3 k => ?_))
  refine V_iload_n dX9_longestIn_5 rfl ?_
  obtain ⟨hc2007, k⟩ := k
  have key4 : ∀ (y2006 : Int32), y2006 = (if a0 < (0 : Int32) then (10000 : Int32) else (if (5 : Int32) ≤ a0 then (10000 : Int32) else (I2 41 a0.toNatClampNeg))) → V E mX9_longestIn (kI SH P) 26 [.ref 40, .int a0, .int a1, .int a2, .retAddr 0, .retAddr 0, .retAddr 0, .retAddr 0] [.int y2006] (SH, I2, J3) (0, 0) := by
    intro y2006 ey2006
    subst ey2006
    refine U_istore (L2 := [.ref 40, .int a0, .int a1, .int a2, .int (if a0 < (0 : Int32) then (10000 : Int32) else (if (5 : Int32) ≤ a0 then (10000 : Int32) else (I2 41 a0.toNatClampNeg))), .retAddr 0, .retAddr 0, .retAddr 0]) dX9_longestIn_26 (by decide) rfl ?_
    refine V_iconst (v := (0 : Int32)) dX9_longestIn_28 rfl ?_
    refine U_istore (L2 := [.ref 40, .int a0, .int a1, .int a2, .int (if a0 < (0 : Int32) then (10000 : Int32) else (if (5 : Int32) ≤ a0 then (10000 : Int32) else (I2 41 a0.toNatClampNeg))), .int (0 : Int32), .retAddr 0, .retAddr 0]) dX9_longestIn_29 (by decide) rfl ?_
    exact k
  refine V_if_lt dX9_longestIn_6 (fun c2008 => ?_) (fun c2008 => ?_)
  · refine V_sipush (v := (10000 : Int32)) dX9_longestIn_23 rfl ?_
    exact key4 _ (by rw [if_pos c2008])
  · refine V_iload_n dX9_longestIn_9 rfl ?_
    refine V_iconst (v := (5 : Int32)) dX9_longestIn_10 rfl ?_
    refine V_icmp_ge dX9_longestIn_11 (fun c2009 => ?_) (fun c2009 => ?_)
    · refine V_sipush (v := (10000 : Int32)) dX9_longestIn_23 rfl ?_
      exact key4 _ (by rw [if_neg c2008, if_pos c2009])
    · refine V_aload_n dX9_longestIn_14 rfl ?_
      refine U_getR dX9_longestIn_15 fl_X9_9 s_40 rfl ?_
      refine V_iload_n dX9_longestIn_18 rfl ?_
      have hb2005 := hc2007 c2008 c2009
      refine U_iald dX9_longestIn_19 s_41 hb2005 ?_
      refine V_goto dX9_longestIn_20 ?_
      exact key4 _ (by rw [if_neg c2008, if_neg c2009])
set_option maxHeartbeats 4000000 in
set_option maxRecDepth 20000 in
theorem wX9_longestIn_31 {E : aE} {P : Int32 → hI_ → hJ_ → Prop} {I : hI_} {J : hJ_} {v1 : Int32} {v2 : Int32} {v3 : Int32} {v4 : Int32} {v5 : Int32} (k : (((I 3 8) ≤ v5 → P v4 I J) ∧ (¬ ((I 3 8) ≤ v5) → (vp_in v5 12) ∧ (vp_in v5 12) ∧ CallI E mX9_longestBehind [.ref 40, .int ((I 6 v5.toNatClampNeg) / (5 : Int32)), .int v5, .int v1, .int v2, .int v3] SH I J (fun x4 I5 J6 => CallI E mX9_longestBehind [.ref 40, .int ((I 6 v5.toNatClampNeg) - (I 6 v5.toNatClampNeg) / (5 : Int32) * (5 : Int32)), .int v5, .int v1, .int v2, .int v3] SH I5 J6 (fun x7 I8 J9 => HX9_longestIn_31 E P v1 v2 v3 (jmax (jmax v4 x4) x7) (v5 + (1 : Int32)) I8 J9))))) : HX9_longestIn_31 E P v1 v2 v3 v4 v5 I J := by
  show V E mX9_longestIn (kI SH P) 31 [.ref 40, .int v1, .int v2, .int v3, .int v4, .int v5, .retAddr 0, .retAddr 0] [] (SH, I, J) (0, 0)
  refine V_iload dX9_longestIn_31 rfl ?_
  refine V_aload_n dX9_longestIn_33 rfl ?_
  refine U_getR dX9_longestIn_34 fl_X9_15 s_40 rfl ?_
  refine U_getI dX9_longestIn_37 fl_X9_54 s_3 rfl ?_
  refine V_icmp_ge dX9_longestIn_40 (fun c1 => ?_) (fun c1 => ?_)
  · have k := k.1 c1
    refine V_iload dX9_longestIn_113 rfl ?_
    exact V_iret dX9_longestIn_115 ⟨_, rfl, rfl⟩ rfl rfl ⟨_, _, _, rfl, rfl, k⟩
  · have k := k.2 c1
    refine V_aload_n dX9_longestIn_43 rfl ?_
    refine U_getR dX9_longestIn_44 fl_X9_15 s_40 rfl ?_
    refine U_getR dX9_longestIn_47 fl_X9_57 s_3 rfl ?_
    refine V_iload dX9_longestIn_50 rfl ?_
    obtain ⟨hb2, k⟩ := k
    refine U_iald dX9_longestIn_52 s_6 hb2 ?_
    refine V_iconst (v := (5 : Int32)) dX9_longestIn_53 rfl ?_
    refine V_idiv dX9_longestIn_54 (by decide) ?_
    refine U_istore (L2 := [.ref 40, .int v1, .int v2, .int v3, .int v4, .int v5, .int ((I 6 v5.toNatClampNeg) / (5 : Int32)), .retAddr 0]) dX9_longestIn_55 (by decide) rfl ?_
    refine V_aload_n dX9_longestIn_57 rfl ?_
    refine U_getR dX9_longestIn_58 fl_X9_15 s_40 rfl ?_
    refine U_getR dX9_longestIn_61 fl_X9_57 s_3 rfl ?_
    refine V_iload dX9_longestIn_64 rfl ?_
    obtain ⟨hb3, k⟩ := k
    refine U_iald dX9_longestIn_66 s_6 hb3 ?_
    refine V_iconst (v := (5 : Int32)) dX9_longestIn_67 rfl ?_
    refine V_irem dX9_longestIn_68 (by decide) ?_
    refine U_istore (L2 := [.ref 40, .int v1, .int v2, .int v3, .int v4, .int v5, .int ((I 6 v5.toNatClampNeg) / (5 : Int32)), .int ((I 6 v5.toNatClampNeg) - (I 6 v5.toNatClampNeg) / (5 : Int32) * (5 : Int32))]) dX9_longestIn_69 (by decide) rfl ?_
    refine V_iload dX9_longestIn_71 rfl ?_
    refine V_aload_n dX9_longestIn_73 rfl ?_
    refine V_iload dX9_longestIn_74 rfl ?_
    refine V_iload dX9_longestIn_76 rfl ?_
    refine V_iload_n dX9_longestIn_78 rfl ?_
    refine V_iload_n dX9_longestIn_79 rfl ?_
    refine V_iload_n dX9_longestIn_80 rfl ?_
    refine U_callV1 [.int ((I 6 v5.toNatClampNeg) / (5 : Int32)), .int v5, .int v1, .int v2, .int v3] dX9_longestIn_81 ov_X9_60 s_40 rfl ⟨rfl, rfl, rfl⟩ rfl rfl rfl (CallI_mono k (fun x4 I5 J6 k => ?_))
    refine V_mmax dX9_longestIn_84 om_X9_44 rfl ?_
    refine U_istore (L2 := [.ref 40, .int v1, .int v2, .int v3, .int (jmax v4 x4), .int v5, .int ((I 6 v5.toNatClampNeg) / (5 : Int32)), .int ((I 6 v5.toNatClampNeg) - (I 6 v5.toNatClampNeg) / (5 : Int32) * (5 : Int32))]) dX9_longestIn_87 (by decide) rfl ?_
    refine V_iload dX9_longestIn_89 rfl ?_
    refine V_aload_n dX9_longestIn_91 rfl ?_
    refine V_iload dX9_longestIn_92 rfl ?_
    refine V_iload dX9_longestIn_94 rfl ?_
    refine V_iload_n dX9_longestIn_96 rfl ?_
    refine V_iload_n dX9_longestIn_97 rfl ?_
    refine V_iload_n dX9_longestIn_98 rfl ?_
    refine U_callV1 [.int ((I 6 v5.toNatClampNeg) - (I 6 v5.toNatClampNeg) / (5 : Int32) * (5 : Int32)), .int v5, .int v1, .int v2, .int v3] dX9_longestIn_99 ov_X9_60 s_40 rfl ⟨rfl, rfl, rfl⟩ rfl rfl rfl (CallI_mono k (fun x7 I8 J9 k => ?_))
    refine V_mmax dX9_longestIn_102 om_X9_44 rfl ?_
    refine U_istore (L2 := [.ref 40, .int v1, .int v2, .int v3, .int (jmax (jmax v4 x4) x7), .int v5, .int ((I 6 v5.toNatClampNeg) / (5 : Int32)), .int ((I 6 v5.toNatClampNeg) - (I 6 v5.toNatClampNeg) / (5 : Int32) * (5 : Int32))]) dX9_longestIn_105 (by decide) rfl ?_
    refine U_iinc (v := v5 + (1 : Int32)) (L2 := [.ref 40, .int v1, .int v2, .int v3, .int (jmax (jmax v4 x4) x7), .int (v5 + (1 : Int32)), .int ((I 6 v5.toNatClampNeg) / (5 : Int32)), .int ((I 6 v5.toNatClampNeg) - (I 6 v5.toNatClampNeg) / (5 : Int32) * (5 : Int32))]) dX9_longestIn_107 (by decide) rfl rfl rfl ?_
    refine V_goto dX9_longestIn_110 ?_
    exact V_wk (wk_eq (wk_eq (wk_eq (wk_eq (wk_eq (wk_eq (wk_j (wk_j (wk_nil))))))))) k
def ag3 (c d e : Nat) (I I2 : hI_) : Prop := ∀ a, a ≠ c → a ≠ d → a ≠ e → I2 a = I a
theorem ag3_X {c d e : Nat} {I I2 : hI_} (h1 : scX c = true) (h2 : scX d = true) (h3 : scX e = true) (h : ag3 c d e I I2) : agX I I2 := fun a ha => h a (fun z => by rw [z, h1] at ha; cases ha) (fun z => by rw [z, h2] at ha; cases ha) (fun z => by rw [z, h3] at ha; cases ha)
theorem prN_ends {c d : Nat} (hc : c < 5) (hd : d < 5) : prN c d / 5 < 5 ∧ prN c d % 5 < 5 ∧ (c = prN c d / 5 ∨ c = prN c d % 5) ∧ (d = prN c d / 5 ∨ d = prN c d % 5) ∧ prN c d < 25 := by
  unfold prN
  split <;> omega
def enI (I : hI_) (p A B s M : Nat) : Prop := ∀ s', s' < s → ∀ e, (I 76 (4 * s') = nI e ∨ I 76 (4 * s' + 1) = nI e) → e < nP I → ∀ a, a < nP I → A < lt1 (wI I) a e (shF I s') → lt1 (wI I) a e (shF I s') ≤ B → arr (wI I) a (lt1 (wI I) a e (shF I s')) p - lt1 (wI I) a e (shF I s') ≤ M
theorem enI_up {I : hI_} {p A B s M M' : Nat} (h : enI I p A B s M) (hm : M ≤ M') : enI I p A B s M' := fun s' h1 e h2 h3 a h4 h5 h6 => Nat.le_trans (h s' h1 e h2 h3 a h4 h5 h6) hm
theorem long_loop {E : aE} {P : Int32 → hI_ → hJ_ → Prop} {I0 : hI_} {J : hJ_} {p A B mx : Nat} (h : Rel I0) (hp : p < nP I0) (hA : A ≤ 999) (hB : B ≤ 999) (hmx : mx ≤ 10000) (hm : ∀ a, a < nP I0 → ∀ t, A < t → t ≤ B → arr (wI I0) a t p - t ≤ mx) (k : ∀ I2 M, agX I0 I2 → M ≤ mx → wt (wI I0) A p (nP I0) ≤ M → enI I0 p A B (nsh I0) M → P (nI M) I2 J) : ∀ (m s : Nat) (M : Nat) (I : hI_), s + m = nsh I0 → agX I0 I → M ≤ mx → wt (wI I0) A p (nP I0) ≤ M → enI I0 p A B s M → HX9_longestIn_31 E P (nI p) (nI A) (nI B) (nI M) (nI s) I J
  | 0, s, M, I, hs, hag, hM, hw, hc => by
    have hS := Rel_shut h
    have e : s = nsh I0 := by omega
    rw [e] at hc
    refine wX9_longestIn_31 ?_
    rw [hag 3 rfl, hS.1]
    exact ⟨fun _ => k I M hag hM hw hc, fun z => absurd (nI_le (by omega) (by omega)) z⟩
  | m + 1, s, M, I, hs, hag, hM, hw, hc => by
    have hS := Rel_shut h
    have n12 := hS.2.2.1
    have hSs := hS.2.2.2
    obtain ⟨-, -, -, -, -, -, c, d, hc5, hd5, hcd, e1, e2, e6⟩ := hSs s (by omega)
    obtain ⟨p1, p2, p3, p4, p5⟩ := prN_ends hc5 hd5
    have v12 : vp_in (nI s) 12 := vp_in_nI (by omega) (by omega)
    have hR := Rel_agX hag h
    have eP := nP_X hag
    have eW := wI_X hag
    have es : nsh I = nsh I0 := by unfold nsh; rw [hag 73 rfl]
    have eF : ∀ s, shF I s = shF I0 s := fun s => by unfold shF; rw [hag 76 rfl]
    have d5 : nI (prN c d) / 5 = nI (prN c d / 5) := pk_div (a := prN c d) (d := 5) (by omega) (by omega) (by omega)
    have r5 : nI (prN c d) - nI (prN c d / 5) * 5 = nI (prN c d % 5) := by
      rw [show (5 : Int32) = nI 5 from rfl, pk_mul, nI_sub (by omega), show prN c d - prN c d / 5 * 5 = prN c d % 5 by omega]
    refine wX9_longestIn_31 ?_
    rw [hag 3 rfl, hS.1, nI_clamp (by omega), hag 6 rfl, e6, d5, r5]
    refine ⟨fun z => absurd z (nI_ge (by omega) (by omega)), fun _ => ⟨v12, v12, ?_⟩⟩
    refine tX9_behind (mx := mx) hR (by omega) p1 (by omega) hA hB hmx (by rw [eP, eW]; exact hm) (fun I2 M1 hag2 hM1 hc1 => ?_)
    have hX2 := agX_tr hag (ag2_X rfl rfl hag2)
    have hR2 := Rel_agX hX2 h
    have es2 : nsh I2 = nsh I0 := by unfold nsh; rw [hX2 73 rfl]
    have eF2 : shF I2 s = shF I0 s := by unfold shF; rw [hX2 76 rfl]
    refine tX9_behind (mx := mx) hR2 (by omega) p2 (by rw [nP_X hX2]; omega) hA hB hmx (by rw [nP_X hX2, wI_X hX2]; exact hm) (fun I3 M2 hag3 hM2 hc2 => ?_)
    rw [eP, eW, eF] at hc1
    rw [nP_X hX2, wI_X hX2, eF2] at hc2
    rw [jmax_nI (by omega) (by omega), jmax_nI (by omega) (by omega), nI_1]
    refine long_loop h hp hA hB hmx hm k m (s + 1) _ I3 (by omega) (agX_tr hX2 (ag2_X rfl rfl hag3)) (by omega) (by omega) (fun s' q1 e q2 q3 a q4 q5 q6 => ?_)
    by_cases z : s' = s
    · subst z
      have : e = prN c d / 5 ∨ e = prN c d % 5 := by
        rcases q2 with q2 | q2
        · rw [e1] at q2
          have : c = e := nI_inj5 (by omega) (by have := (Rel_P h).2.2; omega) q2
          omega
        · rw [e2] at q2
          have : d = e := nI_inj5 (by omega) (by have := (Rel_P h).2.2; omega) q2
          omega
      rcases this with rfl | rfl
      · have := hc1 q3 a q4 q5 q6; omega
      · have := hc2 q3 a q4 q5 q6; omega
    · have := hc s' (by omega) e q2 q3 a q4 q5 q6; omega
set_option maxHeartbeats 4000000 in
set_option maxRecDepth 20000 in
theorem wX11_enough {E : aE} {P : Int32 → hI_ → hJ_ → Prop} {I : hI_} {J : hJ_} {a0 : Int32} {a1 : Int32} {a2 : Int32} (k : ((¬ (0 ≤ a0 ∧ a0 ≤ I 3 6 - 1) → P (-1 : Int32) I J) ∧ ((0 ≤ a0 ∧ a0 ≤ I 3 6 - 1) → ((¬ (0 ≤ a1 ∧ a1 ≤ 999) → P (-1 : Int32) I J) ∧ ((0 ≤ a1 ∧ a1 ≤ 999) → (((a1 ≤ a2 ∧ a2 ≤ (999 : Int32)) → CallI E mX9_longestIn [.ref 40, .int a0, .int a1, .int a2] SH I J (fun x4 I5 J6 => P (orN x4) I5 J6)) ∧ (¬ ((a1 ≤ a2 ∧ a2 ≤ (999 : Int32))) → P (-1 : Int32) I J))))))) : CallI E mX11_enough [.ref 0, .int a0, .int a1, .int a2] SH I J P := by
  refine Call_of (L := [.ref 0, .int a0, .int a1, .int a2]) ok_X11_enough.1 rfl rfl ?_
  refine V_aload_n dX11_enough_0 rfl ?_
  refine V_iload_n dX11_enough_1 rfl ?_
  refine U_callV1 [.int a0] dX11_enough_2 ov_X11_148 s_0 rfl ⟨rfl, rfl, rfl⟩ rfl rfl rfl (tX11_isPlace ?_)
  refine U_ifb_eq dX11_enough_5 (fun c1 => ?_) (fun c1 => ?_)
  · have k := k.1 c1
    refine V_iconst (v := (-1 : Int32)) dX11_enough_26 rfl ?_
    exact V_iret dX11_enough_27 ⟨_, rfl, rfl⟩ rfl rfl ⟨_, _, _, rfl, rfl, k⟩
  · have k := k.2 c1
    refine V_iload_n dX11_enough_8 rfl ?_
    refine U_callS1 [.int a1] dX11_enough_9 os_X11_159 ⟨rfl, rfl, rfl⟩ rfl rfl rfl (tX11_isMinute ?_)
    refine U_ifb_eq dX11_enough_12 (fun c2 => ?_) (fun c2 => ?_)
    · have k := k.1 c2
      refine V_iconst (v := (-1 : Int32)) dX11_enough_26 rfl ?_
      exact V_iret dX11_enough_27 ⟨_, rfl, rfl⟩ rfl rfl ⟨_, _, _, rfl, rfl, k⟩
    · have k := k.2 c2
      refine V_iload_n dX11_enough_15 rfl ?_
      refine V_iload_n dX11_enough_16 rfl ?_
      refine V_sipush (v := (999 : Int32)) dX11_enough_17 rfl ?_
      refine U_callS1 [.int a2, .int a1, .int (999 : Int32)] dX11_enough_20 os_X11_104 ⟨rfl, rfl, rfl⟩ rfl rfl rfl (tX11_within ?_)
      refine U_ifb_ne dX11_enough_23 (fun c3 => ?_) (fun c3 => ?_)
      · have k := k.1 c3
        refine V_aload_n dX11_enough_28 rfl ?_
        refine U_getR dX11_enough_29 fl_X11_78 s_0 rfl ?_
        refine V_iload_n dX11_enough_32 rfl ?_
        refine V_iload_n dX11_enough_33 rfl ?_
        refine V_iload_n dX11_enough_34 rfl ?_
        refine U_callV1 [.int a0, .int a1, .int a2] dX11_enough_35 ov_X11_284 s_40 rfl ⟨rfl, rfl, rfl⟩ rfl rfl rfl (CallI_mono k (fun x4 I5 J6 k => ?_))
        refine U_callS1 [.int x4] dX11_enough_38 os_X11_166 ⟨rfl, rfl, rfl⟩ rfl rfl rfl (tX11_orNone ?_)
        exact V_iret dX11_enough_41 ⟨_, rfl, rfl⟩ rfl rfl ⟨_, _, _, rfl, rfl, k⟩
      · have k := k.2 c3
        refine V_iconst (v := (-1 : Int32)) dX11_enough_26 rfl ?_
        exact V_iret dX11_enough_27 ⟨_, rfl, rfl⟩ rfl rfl ⟨_, _, _, rfl, rfl, k⟩
def HX12_enough_36 (E : aE) (P : Int32 → hI_ → hJ_ → Prop) (v1 : Int32) (v3 : Int32) (v4 : Int32) (v5 : Int32) (I : hI_) (J : hJ_) : Prop := V E mX12_enough (kI SH P) 36 [.ref 68, .int v1, .retAddr 0, .int v3, .int v4, .int v5, .retAddr 0] [] (SH, I, J) (0, 0)
set_option maxHeartbeats 4000000 in
set_option maxRecDepth 20000 in
theorem wX12_enough {E : aE} {P : Int32 → hI_ → hJ_ → Prop} {I : hI_} {J : hJ_} {a0 : Int32} {a1 : Int32} {a2 : Int32} (k : ((¬ (0 ≤ a0 ∧ a0 ≤ I 73 0 - 1) → P (-1 : Int32) I J) ∧ ((0 ≤ a0 ∧ a0 ≤ I 73 0 - 1) → ((¬ (0 ≤ a1 ∧ a1 ≤ 999) → P (-1 : Int32) I J) ∧ ((0 ≤ a1 ∧ a1 ≤ 999) → (((a1 ≤ a2 ∧ a2 ≤ (999 : Int32)) → HX12_enough_36 E P a0 a2 (0 : Int32) a1 I J) ∧ (¬ ((a1 ≤ a2 ∧ a2 ≤ (999 : Int32))) → P (-1 : Int32) I J))))))) : CallI E mX12_enough [.ref 68, .int a0, .int a1, .int a2] SH I J P := by
  refine Call_of (L := [.ref 68, .int a0, .int a1, .int a2, .retAddr 0, .retAddr 0, .retAddr 0]) ok_X12_enough.1 rfl rfl ?_
  refine V_aload_n dX12_enough_0 rfl ?_
  refine V_iload_n dX12_enough_1 rfl ?_
  refine U_callV1 [.int a0] dX12_enough_2 ov_X12_167 s_68 rfl ⟨rfl, rfl, rfl⟩ rfl rfl rfl (tX12_isPlace ?_)
  refine U_ifb_eq dX12_enough_5 (fun c1 => ?_) (fun c1 => ?_)
  · have k := k.1 c1
    refine V_iconst (v := (-1 : Int32)) dX12_enough_28 rfl ?_
    exact V_iret dX12_enough_29 ⟨_, rfl, rfl⟩ rfl rfl ⟨_, _, _, rfl, rfl, k⟩
  · have k := k.2 c1
    refine V_iload_n dX12_enough_8 rfl ?_
    refine U_callS1 [.int a1] dX12_enough_9 os_X12_179 ⟨rfl, rfl, rfl⟩ rfl rfl rfl (tX12_isMinute ?_)
    refine U_ifb_eq dX12_enough_12 (fun c2 => ?_) (fun c2 => ?_)
    · have k := k.1 c2
      refine V_iconst (v := (-1 : Int32)) dX12_enough_28 rfl ?_
      exact V_iret dX12_enough_29 ⟨_, rfl, rfl⟩ rfl rfl ⟨_, _, _, rfl, rfl, k⟩
    · have k := k.2 c2
      refine V_iload_n dX12_enough_15 rfl ?_
      refine V_i2l dX12_enough_16 ?_
      refine V_iload_n dX12_enough_17 rfl ?_
      refine V_i2l dX12_enough_18 ?_
      refine V_ldc2_w (v := (999 : Int64)) dX12_enough_19 (gt_6 19 rfl rfl) ?_
      refine U_callS1 [.long a2.toInt64, .long a1.toInt64, .long (999 : Int64)] dX12_enough_22 os_X12_91 ⟨rfl, rfl, rfl⟩ rfl rfl rfl (tX12_in32 (v := a2) (lo := a1) (hi := (999 : Int32)) rfl rfl (by decide) ?_)
      refine U_ifb_ne dX12_enough_25 (fun c3 => ?_) (fun c3 => ?_)
      · have k := k.1 c3
        refine V_iconst (v := (0 : Int32)) dX12_enough_30 rfl ?_
        refine U_istore (L2 := [.ref 68, .int a0, .int a1, .int a2, .int (0 : Int32), .retAddr 0, .retAddr 0]) dX12_enough_31 (by decide) rfl ?_
        refine V_iload_n dX12_enough_33 rfl ?_
        refine U_istore (L2 := [.ref 68, .int a0, .int a1, .int a2, .int (0 : Int32), .int a1, .retAddr 0]) dX12_enough_34 (by decide) rfl ?_
        exact V_wk (wk_eq (wk_eq (wk_j (wk_eq (wk_eq (wk_eq (wk_j (wk_nil)))))))) k
      · have k := k.2 c3
        refine V_iconst (v := (-1 : Int32)) dX12_enough_28 rfl ?_
        exact V_iret dX12_enough_29 ⟨_, rfl, rfl⟩ rfl rfl ⟨_, _, _, rfl, rfl, k⟩
set_option maxHeartbeats 4000000 in
set_option maxRecDepth 20000 in
theorem wX12_enough_36 {E : aE} {P : Int32 → hI_ → hJ_ → Prop} {I : hI_} {J : hJ_} {v1 : Int32} {v3 : Int32} {v4 : Int32} {v5 : Int32} (k : ((v3 < v5 → P (orN v4) I J) ∧ (¬ (v3 < v5) → CallI E mX12_waitOf [.ref 68, .int v1, .int v5] SH I J (fun x2 I3 J4 => HX12_enough_36 E P v1 v3 (if x2 ≤ v4 then v4 else x2) (v5 + (1 : Int32)) I3 J4)))) : HX12_enough_36 E P v1 v3 v4 v5 I J := by
  show V E mX12_enough (kI SH P) 36 [.ref 68, .int v1, .retAddr 0, .int v3, .int v4, .int v5, .retAddr 0] [] (SH, I, J) (0, 0)
  refine V_iload dX12_enough_36 rfl ?_
  refine V_iload_n dX12_enough_38 rfl ?_
  refine V_icmp_gt dX12_enough_39 (fun c1 => ?_) (fun c1 => ?_)
  · have k := k.1 c1
    refine V_iload dX12_enough_73 rfl ?_
    refine U_callS1 [.int v4] dX12_enough_75 os_X12_185 ⟨rfl, rfl, rfl⟩ rfl rfl rfl (tX12_orNone ?_)
    exact V_iret dX12_enough_78 ⟨_, rfl, rfl⟩ rfl rfl ⟨_, _, _, rfl, rfl, k⟩
  · have k := k.2 c1
    refine V_aload_n dX12_enough_42 rfl ?_
    refine V_iload_n dX12_enough_43 rfl ?_
    refine V_iload dX12_enough_44 rfl ?_
    refine U_callV1 [.int v1, .int v5] dX12_enough_46 ov_X12_275 s_68 rfl ⟨rfl, rfl, rfl⟩ rfl rfl rfl (CallI_mono k (fun x2 I3 J4 k => ?_))
    refine U_istore (L2 := [.ref 68, .int v1, .retAddr 0, .int v3, .int v4, .int v5, .int x2]) dX12_enough_49 (by decide) rfl ?_
    refine V_iload dX12_enough_51 rfl ?_
    refine V_iload dX12_enough_53 rfl ?_
    have key5 : ∀ (y2006 : Int32), y2006 = (if x2 ≤ v4 then v4 else x2) → V E mX12_enough (kI SH P) 65 [.ref 68, .int v1, .retAddr 0, .int v3, .int v4, .int v5, .int x2] [.int y2006] (SH, I3, J4) (0, 0) := by
      intro y2006 ey2006
      subst ey2006
      refine U_istore (L2 := [.ref 68, .int v1, .retAddr 0, .int v3, .int (if x2 ≤ v4 then v4 else x2), .int v5, .int x2]) dX12_enough_65 (by decide) rfl ?_
      refine U_iinc (v := v5 + (1 : Int32)) (L2 := [.ref 68, .int v1, .retAddr 0, .int v3, .int (if x2 ≤ v4 then v4 else x2), .int (v5 + (1 : Int32)), .int x2]) dX12_enough_67 (by decide) rfl rfl rfl ?_
      refine V_goto dX12_enough_70 ?_
      exact V_wk (wk_eq (wk_eq (wk_j (wk_eq (wk_eq (wk_eq (wk_j (wk_nil)))))))) k
    refine V_icmp_le dX12_enough_55 (fun c2007 => ?_) (fun c2007 => ?_)
    · refine V_iload dX12_enough_63 rfl ?_
      exact key5 _ (by rw [if_pos c2007])
    · refine V_iload dX12_enough_58 rfl ?_
      refine V_goto dX12_enough_60 ?_
      exact key5 _ (by rw [if_neg c2007])
theorem enM_loop {E : aE} {P : Int32 → hI_ → hJ_ → Prop} {I0 : hI_} {J : hJ_} {p A B : Nat} (h : Rel I0) (hp : p < 5) (hAB : A ≤ B) (hB : B ≤ 999) (k : ∀ I2, ag1 81 I0 I2 → P (orN (nI (mxW (wI I0) p (nP I0) A (B + 1 - A)))) I2 J) : ∀ (m i : Nat) (I : hI_), i + m = B + 1 - A → ag1 81 I0 I → HX12_enough_36 E P (nI p) (nI B) (nI (mxW (wI I0) p (nP I0) A i)) (nI (A + i)) I J
  | 0, i, I, hi, hag => by
    have e : i = B + 1 - A := by omega
    rw [e]
    exact wX12_enough_36 ⟨fun _ => k I hag, fun z => absurd (nI_lt (by omega) (by omega)) z⟩
  | m + 1, i, I, hi, hag => by
    have hM := ag1_M rfl (by omega) hag
    have hR := Rel_agM hM h
    refine wX12_enough_36 ⟨fun z => absurd z (nI_nlt (by omega) (by omega)), fun _ => ?_⟩
    refine tX12_waitOf hR (by omega) hp (fun I2 hag2 => ?_)
    rw [wI_M hM, nP_M hM, nI_1, Nat.add_assoc]
    have := enM_loop (E := E) h hp hAB hB k m (i + 1) I2 (by omega) (ag1_tr hag hag2)
    have e1 : mxW (wI I0) p (nP I0) A (i + 1) = max (mxW (wI I0) p (nP I0) A i) (wt (wI I0) (A + i) p (nP I0)) := rfl
    rw [e1] at this
    have b1 := @mxW_10 (wI I0) p (nP I0) A i
    have b2 := @wt_le (wI I0) (A + i) p (nP I0)
    have ev : (if nI (wt (wI I0) (A + i) p (nP I0)) ≤ nI (mxW (wI I0) p (nP I0) A i) then nI (mxW (wI I0) p (nP I0) A i) else nI (wt (wI I0) (A + i) p (nP I0))) = nI (max (mxW (wI I0) p (nP I0) A i) (wt (wI I0) (A + i) p (nP I0))) := by
      by_cases z : wt (wI I0) (A + i) p (nP I0) ≤ mxW (wI I0) p (nP I0) A i
      · rw [if_pos (nI_le z (by omega)), Nat.max_eq_left z]
      · rw [if_neg (nI_ge (by omega) (by omega)), Nat.max_eq_right (by omega)]
    rw [ev]
    exact this
theorem op_enough {E : aE} {I : hI_} {J : hJ_} {P : hI_ → hJ_ → Prop} {a0 a1 a2 : Int32} (h : Rel I) (hP : ∀ I2 J2, Rel I2 → P I2 J2) : Op2 E mX11_enough mX12_enough [.int a0, .int a1, .int a2] I J P := by
  have hp := Rel_P h
  have e := Rel_pl h
  have kI := hP I J h
  refine wX11_enough ⟨fun c1 => wX12_enough ⟨fun _ => ⟨rfl, kI⟩, fun d => absurd (by rw [e]; exact d) c1⟩, fun c1 => ⟨fun c2 => wX12_enough ⟨fun _ => ⟨rfl, kI⟩, fun _ => ⟨fun _ => ⟨rfl, kI⟩, fun d => absurd d c2⟩⟩, fun c2 => ⟨fun c3 => ?_, fun c3 => wX12_enough ⟨fun _ => ⟨rfl, kI⟩, fun _ => ⟨fun _ => ⟨rfl, kI⟩, fun _ => ⟨fun d => absurd d c3, fun _ => ⟨rfl, kI⟩⟩⟩⟩⟩⟩⟩
  rw [e] at c1
  have c1' := c1
  rw [hp.2.1] at c1'
  obtain ⟨x, hx, rfl⟩ := in_lt (by omega) c1'
  obtain ⟨A, hA, rfl⟩ := in999 c2
  have c3' : 0 ≤ a2 ∧ a2 ≤ 999 := ⟨Int32.le_trans c2.1 c3.1, c3.2⟩
  obtain ⟨B, hB, rfl⟩ := in999 c3'
  have hAB : A ≤ B := by
    rcases Nat.lt_or_ge B A with z | z
    · exact absurd c3.1 (nI_ge z (by omega))
    · exact z
  refine wX9_longestIn ?_
  refine tX9_look h hA (fun I2 hag hI2 => ⟨fun _ _ => vp_in_nI (by omega) (by omega), ?_⟩)
  have hX := ag2_X rfl rfl hag
  have hR := Rel_agX hX h
  have eP := nP_X hX
  have eW := wI_X hX
  rw [if_neg (nI_pos (by omega)), if_neg (show ¬ (5 : Int32) ≤ nI x from nI_ge (b := 5) (by omega) (by omega)), nI_clamp (by omega), hI2 x hx]
  have hm : ∀ a, a < nP I → ∀ t, A < t → t ≤ B → arr (wI I) a t x - t ≤ mxW (wI I) x (nP I) A (B + 1 - A) := fun a ha t q1 q2 => by
    refine Nat.le_trans ?_ (Nat.le_trans (wt_ge (w := wI I) (t := t) (p := x) (nP I) a ha) (mxW_ge (B + 1 - A) t (by omega) (by omega)))
    unfold wv
    have := @arr_le (wI I) a t x
    split <;> omega
  have m10 := @mxW_10 (wI I) x (nP I) A (B + 1 - A)
  refine long_loop (I0 := I2) (mx := mxW (wI I) x (nP I) A (B + 1 - A)) hR (by omega) hA hB m10 (by rw [eP, eW]; exact hm) (fun I3 M hag3 hM hw hc => ?_) (nsh I2) 0 _ I2 (by omega) agX_rf (mxW_ge _ _ (by omega) (by omega)) (by rw [eP, eW]; exact Nat.le_refl _) (fun s' hs' => by omega)
  have hR3 := Rel_agX hag3 hR
  have hX3 := agX_tr hX hag3
  have eM : M = mxW (wI I) x (nP I) A (B + 1 - A) := by
    refine Nat.le_antisymm hM ?_
    rw [eP, eW] at hw
    rcases Nat.lt_or_ge M 10000 with z | z
    · refine mxW_le _ (fun t q1 q2 => wt_D _ (fun a ha => ?_))
      have := en_cov hR (A := A) (B := B) (p := x) (M := M) hB (by rw [eP, eW]; exact hw) z (fun s hs => hc s hs) (a := a) (by omega) (t - A) (by omega)
      rw [eW, show A + (t - A) = t by omega] at this
      exact this
    · omega
  rw [eM]
  refine wX12_enough ⟨fun d => absurd (by rw [hX3 73 rfl]; exact c1) d, fun _ => ⟨fun d => absurd c2 d, fun _ => ⟨fun _ => ?_, fun d => absurd c3 d⟩⟩⟩
  have fin := enM_loop (E := E) (J := J) (I0 := I3) (P := fun r2 I4 J4 => orN (nI (mxW (wI I) x (nP I) A (B + 1 - A))) = r2 ∧ P I4 J4) (p := x) (A := A) (B := B) hR3 (by omega) hAB hB (fun I4 hag4 => ⟨by rw [nP_X hX3, wI_X hX3], hP I4 J (Rel_ag81 hag4 hR3)⟩) (B + 1 - A) 0 I3 (by omega) ag1_rf
  exact fin
