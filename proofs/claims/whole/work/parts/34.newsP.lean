theorem Rel_PP {I : hI_} (h : RPlanI I) : I 3 6 = nI (nP I) ∧ I 73 0 = nI (nP I) ∧ nP I ≤ 5 := by
  obtain ⟨⟨h1, h2, h3⟩, -⟩ := h
  have e := ofT h2
  exact ⟨h1.trans e, e, by unfold nP; omega⟩
theorem Rel_wokP {I : hI_} (h : RPlanI I) : wok (wI I) := plan_wok h
theorem Rel_agXP {I I2 : hI_} (h : agX I I2) (hr : RPlanI I) : RPlanI I2 := by
  unfold RPlanI at hr ⊢
  rw [h 3 rfl, h 4 rfl, h 5 rfl, h 6 rfl, h 7 rfl, h 8 rfl, h 9 rfl, h 73 rfl, h 74 rfl, h 75 rfl, h 76 rfl]
  exact hr
theorem Rel_agMP {I I2 : hI_} (h : agM I I2) (hr : RPlanI I) : RPlanI I2 := by
  unfold RPlanI at hr ⊢
  rw [h.1 3 rfl, h.1 4 rfl, h.1 5 rfl, h.1 6 rfl, h.1 7 rfl, h.1 8 rfl, h.1 9 rfl, h.1 73 rfl, h.1 74 rfl, h.1 75 rfl, h.1 76 rfl]
  exact hr
theorem Rel_shutP {I : hI_} (h : RPlanI I) : I 3 8 = nI (nsh I) ∧ I 73 2 = nI (nsh I) ∧ nsh I ≤ 12 ∧ ∀ s, s < nsh I → I 7 s = nI (shF I s) ∧ I 8 s = nI (shT I s) ∧ I 76 (4 * s + 2) = nI (shF I s) ∧ I 76 (4 * s + 3) = nI (shT I s) ∧ shF I s ≤ shT I s ∧ shT I s ≤ 999 ∧ (∃ c d, c < 5 ∧ d < 5 ∧ c ≠ d ∧ I 76 (4 * s) = nI c ∧ I 76 (4 * s + 1) = nI d ∧ I 6 s = nI (prN c d)) := by
  obtain ⟨h1, h2⟩ := h.2.2.1
  have hs := h.2.2.2.2.2.2.2.2.2
  have e : I 73 2 = nI (nsh I) := ofT h2.1
  refine ⟨h1.trans e, e, by unfold nsh; have := h2.2; omega, fun s hs2 => ?_⟩
  obtain ⟨c, d, g1, g2, g3, g4, g5, g6, g7, g8, g9, g10, g11⟩ := hs s (by rw [e, nI_toInt (by have := h2.2; unfold nsh; omega)]; omega)
  have e2 : I 76 (4 * s + 2) = nI (shF I s) := ofT g9
  have e3 : I 76 (4 * s + 3) = nI (shT I s) := ofT (by omega)
  exact ⟨g7.trans e2, g8.trans e3, e2, e3, by unfold shF shT; omega, by unfold shT; omega, c, d, g1, g2, g3, g4, g5, g6⟩
theorem cl_iffP {I : hI_} (h : RPlanI I) {a b t : Nat} : (wI I).2 a b t = true ↔ ∃ s, s < nsh I ∧ hitB I a b s t = true := by
  show shutB (I 73) (I 76) a b t = true ↔ _
  rw [shutB_iff]
  constructor
  · rintro ⟨s, h1, h2, h3, h4⟩
    refine ⟨s, h1, ?_⟩
    unfold hitB mtB
    simp only [Bool.and_eq_true, decide_eq_true_eq]
    exact ⟨h2, by unfold shF; omega, by unfold shT; omega⟩
  · rintro ⟨s, h1, h2⟩
    obtain ⟨-, -, e2, e3, -⟩ := (Rel_shutP h).2.2.2 s h1
    have hT := ((Rel_shutP h).2.2.2 s h1).2.2.2.2.2.1
    unfold hitB mtB at h2
    simp only [Bool.and_eq_true, decide_eq_true_eq] at h2
    have h5 := ((Rel_shutP h).2.2.2 s h1).2.2.2.2.1
    refine ⟨s, h1, h2.1, ?_, ?_⟩
    · rw [((Rel_shutP h).2.2.2 s h1).2.2.1, nI_toInt (by omega)]; omega
    · rw [((Rel_shutP h).2.2.2 s h1).2.2.2.1, nI_toInt (by omega)]; omega
theorem cl_noP {I : hI_} (h : RPlanI I) {a b t : Nat} (hn : ∀ s, s < nsh I → hitB I a b s t = false) : (wI I).2 a b t = false := by
  cases hc : (wI I).2 a b t with
  | false => rfl
  | true =>
    obtain ⟨s, h1, h2⟩ := (cl_iffP h).mp hc
    rw [hn s h1] at h2; cases h2
theorem cntS_0P {I : hI_} (h : RPlanI I) {a b t : Nat} (h0 : cntS I a b t = 0) : (wI I).2 a b t = false := by
  apply cl_noP h
  intro s hs
  cases hh : hitB I a b s t with
  | false => rfl
  | true =>
    have := cntS_hit (Rel_shutP h).2.2.1 hs hh
    omega
theorem op_hitP {I : hI_} (h : RPlanI I) {a b s t : Nat} (hs : s < nsh I) (hh : hitB I a b s t = true) : op ((wI I).2 a b) (shT I s + 1) = op ((wI I).2 a b) t := by
  have hf := (Rel_wokP h).1 a b
  have hh2 := hh
  unfold hitB at hh2
  simp only [Bool.and_eq_true, decide_eq_true_eq] at hh2
  symm
  refine op_eq hf (Nat.le_trans (by omega) (op_ge _ _)) (op_open hf _) (fun v h1 h2 => ?_)
  rcases Nat.lt_or_ge (shT I s) v with q | q
  · exact op_shut (by omega) h2
  · refine (cl_iffP h).mpr ⟨s, hs, ?_⟩
    unfold hitB
    simp only [Bool.and_eq_true, decide_eq_true_eq]
    exact ⟨hh2.1, by omega, q⟩
theorem mt_clsP {I : hI_} (h : RPlanI I) {a b s : Nat} (ha : a < 5) (hb : b < 5) (hs : s < nsh I) : I 6 s = nI (prN a b) ↔ mtB I a b s = true := by
  obtain ⟨-, -, -, -, -, -, c, d, hc, hd, hcd, e1, e2, e3⟩ := (Rel_shutP h).2.2.2 s hs
  unfold mtB
  rw [e1, e2, e3, decide_eq_true_eq, nI_eq (by have := prN_lt hc hd; omega) (by have := prN_lt ha hb; omega), nI_eq (by omega) (by omega), nI_eq (by omega) (by omega), nI_eq (by omega) (by omega), nI_eq (by omega) (by omega)]
  constructor
  · intro q
    exact prN_inj a ha b hb c hc d hd q.symm
  · rintro (⟨rfl, rfl⟩ | ⟨rfl, rfl⟩)
    · rfl
    · exact prN_sym _ _
theorem openF_inP {E : aE} {P : Int32 → hI_ → hJ_ → Prop} {I : hI_} {J : hJ_} {a b i : Nat} (h : RPlanI I) (ha : a < 5) (hb : b < 5) (hi : i < 12) {O : Nat} (k : ∀ t o, t ≤ 10000 → op ((wI I).2 a b) t = O → ((o = 1 ∧ (wI I).2 a b t = false) ∨ (o = 0 ∧ cntS I a b t + (i + 1) ≤ 12)) → HX3_openFrom_8 E P (nI (prN a b)) (nI t) o (nI (i + 1)) I J) : ∀ (m s t : Nat) (o : Int32), s + m = nsh I → t ≤ 10000 → op ((wI I).2 a b) t = O → ((o = 1 ∧ cntS I a b t + i ≤ 12 ∧ ∀ q, q < s → hitB I a b q t = false) ∨ (o = 0 ∧ cntS I a b t + (i + 1) ≤ 12)) → HX3_openFrom_26 E P (nI (prN a b)) (nI t) o (nI i) (nI s) I J
  | 0, s, t, o, hs, ht, hO, ho => by
    have hN := Rel_shutP h
    have : s = nsh I := by omega
    subst this
    refine wX3_openFrom_26 ⟨fun _ => ?_, fun q => absurd (by rw [hN.1]; exact Int32.le_refl _) q⟩
    rw [nI_1]
    refine k t o ht hO ?_
    rcases ho with ⟨h1, h2, h3⟩ | h1
    · exact Or.inl ⟨h1, cl_noP h h3⟩
    · exact Or.inr h1
  | m + 1, s, t, o, hs, ht, hO, ho => by
    have hN := Rel_shutP h
    obtain ⟨e7, e8, -, -, hft, hT, -⟩ := hN.2.2.2 s (by omega)
    have hm := mt_clsP h ha hb (s := s) (by omega)
    have vin : vp_in (nI s) 12 := vp_in_nI (by omega) (by omega)
    refine wX3_openFrom_26 ⟨fun q => absurd q (by rw [hN.1]; exact nI_ge (by omega) (by omega)), fun _ => ⟨vin, fun _ => vin, fun _ _ => vin, fun _ _ _ => vin, ?_⟩⟩
    rw [nI_clamp (by omega), e7, e8, nI_1, nI_1]
    by_cases hh : hitB I a b s t = true
    · have hh2 := hh
      unfold hitB at hh2
      simp only [Bool.and_eq_true, decide_eq_true_eq] at hh2
      have c1 : I 6 s = nI (prN a b) := hm.mpr hh2.1
      have c2 : ¬ nI t < nI (shF I s) := nI_nlt (by omega) (by omega)
      have c3 : ¬ nI (shT I s) < nI t := nI_nlt (by omega) (by omega)
      rw [if_neg (fun q => q c1), if_neg c2, if_neg c3, if_neg (fun q => q c1), if_neg c2, if_neg c3]
      have hlt := cntS_hit hN.2.2.1 (by omega) hh
      exact openF_inP h ha hb hi k m (s + 1) (shT I s + 1) 0 (by omega) (by omega) (by rw [op_hitP h (by omega) hh]; exact hO) (Or.inr ⟨rfl, by rcases ho with ⟨-, h2, -⟩ | ⟨-, h2⟩ <;> omega⟩)
    · have hh : hitB I a b s t = false := by simpa using hh
      have e : ∀ {α : Type} (x y : α), (if ¬ I 6 s = nI (prN a b) then x else if nI t < nI (shF I s) then x else if nI (shT I s) < nI t then x else y) = x := by
        intro α x y
        by_cases c1 : I 6 s = nI (prN a b)
        · rw [if_neg (fun q => q c1)]
          by_cases c2 : nI t < nI (shF I s)
          · rw [if_pos c2]
          · rw [if_neg c2]
            by_cases c3 : nI (shT I s) < nI t
            · rw [if_pos c3]
            · exfalso
              rw [nI_ltI (by omega) (by omega)] at c2 c3
              have : hitB I a b s t = true := by
                unfold hitB
                simp only [Bool.and_eq_true, decide_eq_true_eq]
                exact ⟨hm.mp c1, by omega, by omega⟩
              rw [hh] at this; cases this
        · rw [if_pos c1]
      rw [e, e]
      refine openF_inP h ha hb hi k m (s + 1) t o (by omega) ht hO ?_
      rcases ho with ⟨h1, h2, h3⟩ | h1
      · refine Or.inl ⟨h1, h2, fun q hq => ?_⟩
        by_cases eq : q = s
        · rw [eq]; exact hh
        · exact h3 q (by omega)
      · exact Or.inr h1
theorem openF_outP {E : aE} {P : Int32 → hI_ → hJ_ → Prop} {I : hI_} {J : hJ_} {a b : Nat} (h : RPlanI I) (ha : a < 5) (hb : b < 5) {O : Nat} (k : P (nI O) I J) : ∀ (m i t : Nat) (o : Int32), i + m = 12 → t ≤ 10000 → op ((wI I).2 a b) t = O → ((o = 1 ∧ (wI I).2 a b t = false) ∨ (o = 0 ∧ cntS I a b t + i ≤ 12)) → HX3_openFrom_8 E P (nI (prN a b)) (nI t) o (nI i) I J
  | 0, i, t, o, hi, ht, hO, ho => by
    have hfr : (wI I).2 a b t = false := by
      rcases ho with h1 | h1
      · exact h1.2
      · exact cntS_0P h (by omega)
    have e : t = O := by rw [← hO, op_free ((Rel_wokP h).1 a b) hfr]
    refine wX3_openFrom_8 ⟨fun _ => by rw [e]; exact k, fun q => absurd (nI_le (a := 12) (b := i) (by omega) (by omega)) q⟩
  | m + 1, i, t, o, hi, ht, hO, ho => by
    refine wX3_openFrom_8 ⟨fun q => absurd q (nI_ge (b := 12) (by omega) (by omega)), fun _ => ⟨fun ho1 => ?_, fun ho0 => ?_⟩⟩
    · have hfr : (wI I).2 a b t = false := by
        rcases ho with h1 | h1
        · exact h1.2
        · exact absurd h1.1 ho1
      have e : t = O := by rw [← hO, op_free ((Rel_wokP h).1 a b) hfr]
      rw [e]; exact k
    · have hc : cntS I a b t + i ≤ 12 := by
        rcases ho with h1 | h1
        · rw [h1.1] at ho0; exact absurd ho0 (by decide)
        · exact h1.2
      refine openF_inP h ha hb (i := i) (by omega) (O := O) (fun t2 o2 h1 h2 h3 => openF_outP h ha hb k m (i + 1) t2 o2 (by omega) h1 h2 h3) (nsh I) 0 t 1 (by omega) ht hO (Or.inl ⟨rfl, hc, fun q hq => by omega⟩)
theorem tX3_openFromP {E : aE} {P : Int32 → hI_ → hJ_ → Prop} {I : hI_} {J : hJ_} {a b t : Nat} (h : RPlanI I) (ha : a < 5) (hb : b < 5) (ht : t ≤ 10000) (k : P (nI (op ((wI I).2 a b) t)) I J) : CallI E mX3_openFrom [.ref 3, .int (nI (prN a b)), .int (nI t)] SH I J P := by
  refine wX3_openFrom (openF_outP h ha hb k 12 0 t 0 (by omega) ht rfl (Or.inr ⟨rfl, ?_⟩))
  have := cntB_n (p := fun s => decide (s < nsh I) && (mtB I a b s && decide (t ≤ shT I s))) 12
  unfold cntS
  omega
theorem Rel_wayP {I : hI_} (h : RPlanI I) {a b : Nat} (ha : a < 5) (hb : b < 5) : I 5 (prN a b) = nI ((wI I).1 a b) ∧ I 75 (5 * a + b) = nI ((wI I).1 a b) ∧ (wI I).1 a b ≤ 99 ∧ (0 < (wI I).1 a b → a < nP I ∧ b < nP I ∧ a ≠ b) := by
  obtain ⟨w1, w2, w3⟩ := h.2.2.2.2.2.2.2.2.1 a b ha hb
  have hP := Rel_PP h
  have e0 : (wI I).1 a b = (I 75 (5 * a + b)).toInt.toNat := by
    show (if a < 5 ∧ b < 5 then (I 75 (5 * a + b)).toInt.toNat else 0) = _
    rw [if_pos ⟨ha, hb⟩]
  have e : I 75 (5 * a + b) = nI ((wI I).1 a b) := by rw [e0]; exact ofT w2.1
  rw [hP.2.1, nI_toInt (by omega)] at w3
  refine ⟨w1.trans e, e, by rw [e0]; have := w2.2; omega, fun q => ?_⟩
  have := w3 (by omega)
  omega
theorem Rel_way0P {I : hI_} (h : RPlanI I) {a b : Nat} (hq : 0 < (wI I).1 a b) : a < nP I ∧ b < nP I ∧ a ≠ b := by
  have h5 := (Rel_wokP h).2.2.2.2 a b hq
  exact (Rel_wayP h h5.1 h5.2.1).2.2.2 hq
theorem firstR_loopP {E : aE} {P : Int32 → hI_ → hJ_ → Prop} {I : hI_} {J : hJ_} {g : Nat} {D : Nat → Nat} (h : RPlanI I) (hg : g < 32) (hD : ∀ j, j < 5 → I 19 j = nI (D j)) (hD2 : ∀ j, D j ≤ 10000) (k1 : (∀ a, a < nP I → g.testBit a = false → 10000 ≤ D a) → P (-1) I J) (k2 : ∀ x, x < nP I → g.testBit x = false → D x < 10000 → (∀ b, b < nP I → g.testBit b = false → D x ≤ D b) → P (nI x) I J) : ∀ (m i : Nat) (best : Int32), i + m = nP I → ((best = -1 ∧ ∀ a, a < i → g.testBit a = false → 10000 ≤ D a) ∨ (∃ x, x < i ∧ best = nI x ∧ g.testBit x = false ∧ D x < 10000 ∧ ∀ b, b < i → g.testBit b = false → D x ≤ D b)) → HX2_firstReached_4 E P (nI g) best (nI i) I J
  | 0, i, best, hi, hb => by
    have hP := Rel_PP h
    have : i = nP I := by omega
    subst this
    refine wX2_firstReached_4 ⟨fun _ => ?_, fun q => absurd (by rw [hP.1]; exact Int32.le_refl _) q⟩
    rcases hb with ⟨rfl, h1⟩ | ⟨x, h1, rfl, h2, h3, h4⟩
    · exact k1 h1
    · exact k2 x h1 h2 h3 h4
  | m + 1, i, best, hi, hb => by
    have hP := Rel_PP h
    have b5 := (bit5 hg (a := i) (by omega)).1
    have vin : vp_in (nI i) 5 := vp_in_nI (by omega) (by omega)
    have hDi := hD2 i
    have e19 := hD i (by omega)
    have vb : ¬ best < 0 → vp_in best 5 := fun q => by
      rcases hb with ⟨rfl, -⟩ | ⟨x, h1, rfl, -⟩
      · exact absurd (by decide) q
      · exact vp_in_nI (by omega) (by omega)
    refine wX2_firstReached_4 ⟨fun q => absurd q (by rw [hP.1]; exact nI_ge (by omega) (by omega)), fun _ => ⟨fun _ => vin, fun _ _ _ => vin, fun _ _ q => vb q, ?_⟩⟩
    rw [nI_clamp (by omega), e19, nI_1]
    have c10 : (10000 : Int32) ≤ nI (D i) ↔ 10000 ≤ D i := nI_leI (a := 10000) (by omega) (by omega)
    by_cases hbit : g.testBit i = false
    · rw [if_neg (fun q => q (b5.mpr hbit))]
      by_cases hn : 10000 ≤ D i
      · rw [if_pos (c10.mpr hn)]
        refine firstR_loopP h hg hD hD2 k1 k2 m (i + 1) best (by omega) ?_
        rcases hb with ⟨rfl, h1⟩ | ⟨x, h1, rfl, h2, h3, h4⟩
        · refine Or.inl ⟨rfl, fun a ha hab => ?_⟩
          by_cases e : a = i
          · subst e; exact hn
          · exact h1 a (by omega) hab
        · refine Or.inr ⟨x, by omega, rfl, h2, h3, fun b hbb hb2 => ?_⟩
          by_cases e : b = i
          · subst e; omega
          · exact h4 b (by omega) hb2
      · rw [if_neg (fun q => hn (c10.mp q))]
        rcases hb with ⟨rfl, h1⟩ | ⟨x, h1, rfl, h2, h3, h4⟩
        · rw [if_pos (by decide)]
          refine firstR_loopP h hg hD hD2 k1 k2 m (i + 1) _ (by omega) (Or.inr ⟨i, by omega, rfl, hbit, by omega, fun b hbb hb2 => ?_⟩)
          by_cases e : b = i
          · subst e; exact Nat.le_refl _
          · have := h1 b (by omega) hb2; omega
        · rw [if_neg (nI_pos (by omega)), nI_clamp (by omega), hD x (by omega)]
          by_cases hc : D x ≤ D i
          · rw [if_pos (nI_le hc (by omega))]
            refine firstR_loopP h hg hD hD2 k1 k2 m (i + 1) _ (by omega) (Or.inr ⟨x, by omega, rfl, h2, h3, fun b hbb hb2 => ?_⟩)
            by_cases e : b = i
            · subst e; exact hc
            · exact h4 b (by omega) hb2
          · rw [if_neg (nI_ge (by omega) (by omega))]
            refine firstR_loopP h hg hD hD2 k1 k2 m (i + 1) _ (by omega) (Or.inr ⟨i, by omega, rfl, hbit, by omega, fun b hbb hb2 => ?_⟩)
            by_cases e : b = i
            · subst e; exact Nat.le_refl _
            · have := h4 b (by omega) hb2; omega
    · rw [if_pos (fun q => hbit (b5.mp q))]
      refine firstR_loopP h hg hD hD2 k1 k2 m (i + 1) best (by omega) ?_
      rcases hb with ⟨rfl, h1⟩ | ⟨x, h1, rfl, h2, h3, h4⟩
      · refine Or.inl ⟨rfl, fun a ha hab => ?_⟩
        by_cases e : a = i
        · subst e; exact absurd hab hbit
        · exact h1 a (by omega) hab
      · refine Or.inr ⟨x, by omega, rfl, h2, h3, fun b hbb hb2 => ?_⟩
        by_cases e : b = i
        · subst e; exact absurd hb2 hbit
        · exact h4 b (by omega) hb2
theorem goOn_loopP {E : aE} {P : hI_ → hJ_ → Prop} {I0 : hI_} {J : hJ_} {a : Nat} {D : Nat → Nat} (h : RPlanI I0) (ha : a < nP I0) (hD2 : ∀ j, D j ≤ 10000) (k : ∀ I2, ag1 19 I0 I2 → (∀ j, j < 5 → I2 19 j = nI (rlx (wI I0) D a j)) → P I2 J) : ∀ (m b : Nat) (I : hI_), b + m = nP I0 → ag1 19 I0 I → (∀ j, j < 5 → I 19 j = nI (if j < b then rlx (wI I0) D a j else D j)) → HX2_goOn_2 E P (nI a) (nI b) I J
  | 0, b, I, hb, hag, hI => by
    have hP := Rel_PP h
    have : b = nP I0 := by omega
    subst this
    refine wX2_goOn_2 ⟨fun _ => k I hag (fun j hj => ?_), fun q => absurd (by rw [hag 3 (by omega), hP.1]; exact Int32.le_refl _) q⟩
    rw [hI j hj]
    by_cases e : j < nP I0
    · rw [if_pos e]
    · rw [if_neg e]
      unfold rlx
      rw [if_neg (fun q => e (Rel_way0P h q).2.1)]
  | m + 1, b, I, hb, hag, hI => by
    have hP := Rel_PP h
    have hX : agX I0 I := ag1_X rfl hag
    have hR := Rel_agXP hX h
    have hw := wI_X hX
    obtain ⟨w1, w2, w3, w4⟩ := Rel_wayP h (a := a) (b := b) (by omega) (by omega)
    have hpl := prN_lt (a := a) (b := b) (by omega) (by omega)
    have vpr : vp_in (nI (prN a b)) 25 := vp_in_nI hpl (by omega)
    refine wX2_goOn_2 ⟨fun q => absurd q (by rw [hag 3 (by omega), hP.1]; exact nI_ge (by omega) (by omega)), fun _ => ?_⟩
    rw [pr_nI (by omega) (by omega), nI_clamp (by omega), nI_clamp (by omega), hag 5 (by omega), w1, nI_1]
    refine ⟨vpr, fun c1 => ?_, fun c1 => ⟨vp_in_nI (by omega) (by omega), ?_⟩⟩
    · rw [nIz (by omega)] at c1
      refine goOn_loopP h ha hD2 k m (b + 1) I (by omega) hag (fun j hj => ?_)
      rw [hI j hj]
      by_cases e : j = b
      · subst e
        rw [if_neg (by omega), if_pos (by omega)]
        unfold rlx
        rw [if_neg (by omega)]
      · by_cases e2 : j < b
        · rw [if_pos e2, if_pos (by omega)]
        · rw [if_neg e2, if_neg (by omega)]
    · rw [nIz (by omega)] at c1
      have hne := (w4 (by omega)).2.2
      have eA : I 19 a = nI (D a) := by
        rw [hI a (by omega)]
        by_cases e : a < b
        · rw [if_pos e]
          unfold rlx
          rw [if_neg (fun q => (Rel_way0P h q).2.2 rfl)]
        · rw [if_neg e]
      have hDa := hD2 a
      have hDb := hD2 b
      rw [eA]
      refine tX3_openFromP hR (by omega) (by omega) (by omega) ⟨vpr, vp_in_nI (by omega) (by omega), vp_in_nI (by omega) (by omega), ?_⟩
      have ho := op_1000 ((Rel_wokP h).1 a b) (t := D a)
      rw [hw, nI_clamp (by omega), hI b (by omega), if_neg (by omega), hag 5 (by omega), w1, nI_add, jmin_nI (by omega) (by omega)]
      refine goOn_loopP h ha hD2 k m (b + 1) _ (by omega) (ag1_tr hag ag1_up) (fun j hj => ?_)
      rw [upI_at]
      by_cases e : j = b
      · subst e
        rw [if_pos ⟨rfl, rfl⟩, if_pos (by omega)]
        unfold rlx
        rw [if_pos (by omega)]
      · rw [if_neg (fun q => e q.2), hI j hj]
        by_cases e2 : j < b
        · rw [if_pos e2, if_pos (by omega)]
        · rw [if_neg e2, if_neg (by omega)]
theorem spread_loopP {E : aE} {P : hI_ → hJ_ → Prop} {I0 : hI_} {J : hJ_} {a t : Nat} (h : RPlanI I0) (k : ∀ I2, ag1 19 I0 I2 → (∀ j, j < 5 → I2 19 j = nI (arr (wI I0) a t j)) → P I2 J) : ∀ (m i g : Nat) (D : Nat → Nat) (I : hI_), i + m = nP I0 → ag1 19 I0 I → (∀ j, j < 5 → I 19 j = nI (D j)) → spI (wI I0) a t (nP I0) D g i → HX2_spread_39 E P (nI g) (nI i) I J
  | 0, i, g, D, I, hi, hag, hI, hS => by
    have hP := Rel_PP h
    have hwn : ∀ u v, 0 < (wI I0).1 u v → u < nP I0 ∧ v < nP I0 := fun u v q => ⟨(Rel_way0P h q).1, (Rel_way0P h q).2.1⟩
    have : i = nP I0 := by omega
    subst this
    refine wX2_spread_39 ⟨fun _ => k I hag (fun j hj => ?_), fun q => absurd (by rw [hag 3 (by omega), hP.1]; exact Int32.le_refl _) q⟩
    rw [hI j hj, sp_done (Rel_wokP h) hS hwn (fun u hu hb => ?_)]
    have := cntB_all (nP I0) hS.2.2.2.2.2.2.2.2 u hu
    rw [hb] at this; cases this
  | m + 1, i, g, D, I, hi, hag, hI, hS => by
    have hP := Rel_PP h
    have hX : agX I0 I := ag1_X rfl hag
    have hR := Rel_agXP hX h
    have hnP := nP_X hX
    have hwX := wI_X hX
    have hwn : ∀ u v, 0 < (wI I0).1 u v → u < nP I0 ∧ v < nP I0 := fun u v q => ⟨(Rel_way0P h q).1, (Rel_way0P h q).2.1⟩
    refine wX2_spread_39 ⟨fun q => absurd q (by rw [hag 3 (by omega), hP.1]; exact nI_ge (by omega) (by omega)), fun _ => ?_⟩
    refine wX2_firstReached ?_
    refine firstR_loopP hR hS.2.2.2.2.2.2.1 hI hS.1 (fun hn => ⟨fun q => absurd q (by decide), fun _ => ?_⟩) (fun x hx hb hx1 hxm => ⟨fun _ => ?_, fun q => absurd (nI_pos' (by omega)) q⟩) (nP I) 0 (-1) (by omega) (Or.inl ⟨rfl, fun b hb => by omega⟩)
    · refine k I hag (fun j hj => ?_)
      rw [hI j hj, sp_done (Rel_wokP h) hS hwn (fun u hu hb => hn u (by omega) hb)]
    · rw [hnP] at hx hxm
      refine wX2_goOn ?_
      refine goOn_loopP hR (a := x) (D := D) (by omega) hS.1 (fun I2 hag2 hI2 => ?_) (nP I) 0 I (by omega) ag1_rf (fun j hj => by rw [if_neg (by omega)]; exact hI j hj)
      rw [hwX] at hI2
      rw [(bit5 hS.2.2.2.2.2.2.1 (a := x) (by omega)).2.1, nI_1]
      exact spread_loopP h k m (i + 1) (g ||| 2 ^ x) (rlx (wI I0) D x) I2 (by omega) (ag1_tr hag hag2) hI2 (sp_step (Rel_wokP h) hP.2.2 hS hx hb hxm hx1 hwn)
theorem tX2_spreadP {E : aE} {P : hI_ → hJ_ → Prop} {I : hI_} {J : hJ_} {a t : Nat} (h : RPlanI I) (ha : a < nP I) (ht : t ≤ 10000) (k : ∀ I2, ag1 19 I I2 → (∀ j, j < 5 → I2 19 j = nI (arr (wI I) a t j)) → P I2 J) : CallV E mX2_spread [.ref 18, .int (nI a), .int (nI t)] SH I J P := by
  have hP := Rel_PP h
  have hfl : ag1 19 I (flI I 19 5 10000) := fun q hq => by simp [flI, hq]
  have hf5 : ∀ j, j < 5 → flI I 19 5 10000 19 j = nI 10000 := fun j hj => by simp [flI, hj]; rfl
  refine wX2_spread ⟨fun q => absurd q (nI_pos (by omega)), fun _ => ⟨fun q => absurd q (nI_ge (b := 5) (by omega) (by omega)), fun _ => ⟨fun ht2 => ?_, fun ht2 => ?_⟩⟩⟩
  · have ht2 : t < 10000 := (nI_ltI (b := 10000) (by omega) (by omega)).mp ht2
    refine ⟨vp_in_nI (by omega) (by omega), ?_⟩
    rw [nI_clamp (by omega)]
    refine spread_loopP h k (nP I) 0 0 (fun j => if j = a then t else 10000) _ (by omega) (ag1_tr hfl ag1_up) (fun j hj => ?_) ?_
    · rw [upI_at]
      by_cases e : j = a
      · rw [if_pos ⟨rfl, e⟩, if_pos e]
      · rw [if_neg (fun q => e q.2), if_neg e]; exact hf5 j hj
    · have hz : ∀ u, Nat.testBit 0 u = true → False := fun u hu => by rw [Nat.zero_testBit] at hu; cases hu
      refine ⟨?_, ?_, ?_, ?_, ?_, ?_, ?_, ?_, ?_⟩
      · intro j; dsimp only; split <;> omega
      · intro j hj; dsimp only; rw [if_neg (by omega)]
      · dsimp only; rw [if_pos rfl]; exact Nat.le_refl t
      · intro F hF hFa v
        dsimp only
        by_cases e : v = a
        · rw [if_pos e, e]; exact hFa
        · rw [if_neg e]; exact hF.1 v
      · intro u v hu; exact (hz u hu).elim
      · intro u v hu; exact (hz u hu).elim
      · omega
      · intro u hu; exact (hz u hu).elim
      · have : ∀ n, cntB (Nat.testBit 0) n = 0 := by
          intro n
          induction n with
          | zero => rfl
          | succ n ih => unfold cntB; rw [ih, Nat.zero_testBit]; rfl
        exact this _
  · have ht2 : ¬ t < 10000 := fun q => ht2 (nI_lt (b := 10000) q (by omega))
    refine k _ hfl (fun j hj => ?_)
    rw [hf5 j hj, arr_never (by omega)]
theorem tX2_arrivalP {E : aE} {P : Int32 → hI_ → hJ_ → Prop} {I : hI_} {J : hJ_} {a b t : Nat} (h : RPlanI I) (ha : a < nP I) (hb : b < nP I) (ht : t ≤ 10000) (k : ∀ I2, ag1 19 I I2 → P (nI (arr (wI I) a t b)) I2 J) : CallI E mX2_arrival [.ref 18, .int (nI a), .int (nI b), .int (nI t)] SH I J P := by
  have hP := Rel_PP h
  refine wX2_arrival (tX2_spreadP h ha ht (fun I2 hag hI2 => ⟨fun _ _ => vp_in_nI (by omega) (by omega), ?_⟩))
  rw [if_neg (nI_pos (by omega)), if_neg (show ¬ (5 : Int32) ≤ nI b from nI_ge (b := 5) (by omega) (by omega)), nI_clamp (by omega), hI2 b (by omega)]
  exact k I2 hag
theorem leav_inP {E : aE} {P : Int32 → hI_ → hJ_ → Prop} {I : hI_} {J : hJ_} {a b C : Nat} (h : RPlanI I) {O : Nat} (k : ∀ t o, t ≤ 10000 → op ((wI I).2 a b) t = O → ((o = 0 ∧ (wI I).2 a b t = false) ∨ (o = 1 ∧ cntS I a b t < C)) → HX12_leaves_6 E P (nI a) (nI b) (nI t) o I J) : ∀ (m s t : Nat) (o : Int32), s + m = nsh I → t ≤ 10000 → op ((wI I).2 a b) t = O → ((o = 0 ∧ cntS I a b t ≤ C ∧ ∀ q, q < s → hitB I a b q t = false) ∨ (o = 1 ∧ cntS I a b t < C)) → HX12_leaves_17 E P (nI a) (nI b) (nI t) o (nI s) I J
  | 0, s, t, o, hs, ht, hO, ho => by
    have hN := Rel_shutP h
    have : s = nsh I := by omega
    subst this
    refine wX12_leaves_17 ⟨fun _ => ?_, fun q => absurd (by rw [hN.2.1]; exact Int32.le_refl _) q⟩
    refine k t o ht hO ?_
    rcases ho with ⟨h1, h2, h3⟩ | h1
    · exact Or.inl ⟨h1, cl_noP h h3⟩
    · exact Or.inr h1
  | m + 1, s, t, o, hs, ht, hO, ho => by
    have hN := Rel_shutP h
    obtain ⟨-, -, e2, e3, hft, hT, -⟩ := hN.2.2.2 s (by omega)
    have v0 : vp_in (nI (4 * s)) 48 := vp_in_nI (by omega) (by omega)
    have v1 : vp_in (nI (4 * s + 1)) 48 := vp_in_nI (by omega) (by omega)
    have v2 : vp_in (nI (4 * s + 2)) 48 := vp_in_nI (by omega) (by omega)
    have v3 : vp_in (nI (4 * s + 3)) 48 := vp_in_nI (by omega) (by omega)
    have a1 : nI (4 * s) + 1 = nI (4 * s + 1) := nI_1 _
    have a2 : nI (4 * s) + 2 = nI (4 * s + 2) := nI_add _ 2
    have a3 : nI (4 * s) + 3 = nI (4 * s + 3) := nI_add _ 3
    refine wX12_leaves_17 ⟨fun q => absurd q (by rw [hN.2.1]; exact nI_ge (by omega) (by omega)), fun _ => ?_⟩
    rw [m4_nI, a1, a2, a3, nI_clamp (by omega), nI_clamp (by omega), nI_clamp (by omega), nI_clamp (by omega), nI_1]
    refine ⟨v0, fun _ => v0, fun _ _ => v1, fun _ => v1, fun _ _ => v0, fun _ _ _ => v1, fun _ => v2, fun _ => v3, fun _ _ => v3, ?_⟩
    rw [e2, e3, nI_1]
    by_cases hh : hitB I a b s t = true
    · have hh2 := hh
      unfold hitB mtB at hh2
      simp only [Bool.and_eq_true, decide_eq_true_eq] at hh2
      have c1 := own_iff.mpr hh2.1
      have c2 : nI (shF I s) ≤ nI t ∧ nI t ≤ nI (shT I s) := ⟨nI_le (by omega) (by omega), nI_le (by omega) (by omega)⟩
      rw [if_neg (fun q => q c1), if_neg (fun q => q c2), if_neg (fun q => q c1), if_neg (fun q => q c2)]
      have hlt := cntS_hit hN.2.2.1 (by omega) hh
      exact leav_inP h k m (s + 1) (shT I s + 1) 1 (by omega) (by omega) (by rw [op_hitP h (by omega) hh]; exact hO) (Or.inr ⟨rfl, by rcases ho with ⟨-, h2, -⟩ | ⟨-, h2⟩ <;> omega⟩)
    · have hh : hitB I a b s t = false := by simpa using hh
      have e : ∀ {α : Type} (x y : α), (if ¬ (((¬ I 76 (4 * s) = nI a) ∧ ((I 76 (4 * s) = nI b) ∧ (I 76 (4 * s + 1) = nI a))) ∨ ((I 76 (4 * s) = nI a) ∧ ((I 76 (4 * s + 1) = nI b) ∨ ((I 76 (4 * s) = nI b) ∧ (I 76 (4 * s + 1) = nI a))))) then x else (if ¬ (nI (shF I s) ≤ nI t ∧ nI t ≤ nI (shT I s)) then x else y)) = x := by
        intro α x y
        by_cases c1 : (((¬ I 76 (4 * s) = nI a) ∧ ((I 76 (4 * s) = nI b) ∧ (I 76 (4 * s + 1) = nI a))) ∨ ((I 76 (4 * s) = nI a) ∧ ((I 76 (4 * s + 1) = nI b) ∨ ((I 76 (4 * s) = nI b) ∧ (I 76 (4 * s + 1) = nI a)))))
        · rw [if_neg (fun q => q c1)]
          by_cases c2 : nI (shF I s) ≤ nI t ∧ nI t ≤ nI (shT I s)
          · exfalso
            rw [nI_leI (by omega) (by omega), nI_leI (by omega) (by omega)] at c2
            have : hitB I a b s t = true := by
              unfold hitB mtB
              simp only [Bool.and_eq_true, decide_eq_true_eq]
              exact ⟨own_iff.mp c1, c2.1, c2.2⟩
            rw [hh] at this; cases this
          · rw [if_pos c2]
        · rw [if_pos c1]
      rw [e, e]
      refine leav_inP h k m (s + 1) t o (by omega) ht hO ?_
      rcases ho with ⟨h1, h2, h3⟩ | h1
      · refine Or.inl ⟨h1, h2, fun q hq => ?_⟩
        by_cases eq : q = s
        · rw [eq]; exact hh
        · exact h3 q (by omega)
      · exact Or.inr h1
theorem leav_outP {E : aE} {P : Int32 → hI_ → hJ_ → Prop} {I : hI_} {J : hJ_} {a b : Nat} (h : RPlanI I) {O : Nat} (k : P (nI O) I J) : ∀ (C t : Nat) (o : Int32), t ≤ 10000 → op ((wI I).2 a b) t = O → ((o = 0 ∧ (wI I).2 a b t = false) ∨ (o = 1 ∧ cntS I a b t ≤ C)) → HX12_leaves_6 E P (nI a) (nI b) (nI t) o I J := by
  intro C
  induction C using Nat.strongRecOn with
  | ind C ih =>
    intro t o ht hO ho
    refine wX12_leaves_6 ⟨fun c => ?_, fun c => ?_⟩
    · have hfr : (wI I).2 a b t = false := by
        rcases ho with h1 | h1
        · exact h1.2
        · rw [h1.1] at c; exact absurd c (by decide)
      have e : t = O := by rw [← hO, op_free ((Rel_wokP h).1 a b) hfr]
      rw [e]; exact k
    · have hc : cntS I a b t ≤ C := by
        rcases ho with h1 | h1
        · exact absurd h1.1 c
        · exact h1.2
      refine leav_inP h (C := C) (O := O) (fun t2 o2 g1 g2 g3 => ?_) (nsh I) 0 t 0 (by omega) ht hO (Or.inl ⟨rfl, hc, fun q hq => by omega⟩)
      rcases g3 with g3 | g3
      · refine wX12_leaves_6 ⟨fun _ => ?_, fun c2 => absurd g3.1 c2⟩
        have e : t2 = O := by rw [← g2, op_free ((Rel_wokP h).1 a b) g3.2]
        rw [e]; exact k
      · exact ih (cntS I a b t2) g3.2 t2 o2 g1 g2 (Or.inr ⟨g3.1, Nat.le_refl _⟩)
theorem tX12_leavesP {E : aE} {P : Int32 → hI_ → hJ_ → Prop} {I : hI_} {J : hJ_} {a b t : Nat} (h : RPlanI I) (ht : t ≤ 10000) (k : P (nI (op ((wI I).2 a b) t)) I J) : CallI E mX12_leaves [.ref 68, .int (nI a), .int (nI b), .int (nI t)] SH I J P := wX12_leaves (leav_outP h k _ t 1 ht rfl (Or.inr ⟨rfl, Nat.le_refl _⟩))
theorem lay_inP {E : aE} {P : hI_ → hJ_ → Prop} {I0 : hI_} {J : hJ_} {a t S : Nat} (h : RPlanI I0) (k : ∀ I2 o D, ag1 81 I0 I2 → (∀ j, j < 5 → I2 81 j = nI (D j)) → lnI (wI I0) a t D → ((o = 0 ∧ clsd (wI I0) D) ∨ (o = 1 ∧ sum5 D < S)) → HX12_layNews_33 E P o I2 J) : ∀ (m x : Nat) (D : Nat → Nat) (I : hI_) (o : Int32), x + m = 25 → ag1 81 I0 I → (∀ j, j < 5 → I 81 j = nI (D j)) → lnI (wI I0) a t D → ((o = 0 ∧ sum5 D = S ∧ ∀ y, y < x → 0 < (wI I0).1 (y / 5) (y % 5) → D (y % 5) ≤ op ((wI I0).2 (y / 5) (y % 5)) (D (y / 5)) + (wI I0).1 (y / 5) (y % 5)) ∨ (o = 1 ∧ sum5 D < S)) → HX12_layNews_42 E P o (nI x) I J
  | 0, x, D, I, o, hx, hag, hI, hL, ho => by
    have : x = 25 := by omega
    subst this
    refine wX12_layNews_42 ⟨fun _ => k I o D hag hI hL ?_, fun q => absurd (by decide) q⟩
    rcases ho with ⟨h1, h2, h3⟩ | h1
    · refine Or.inl ⟨h1, hL.1, fun u v huv => ?_⟩
      have h5 := (Rel_wokP h).2.2.2.2 u v huv
      have := h3 (5 * u + v) (by omega)
      rw [show (5 * u + v) / 5 = u by omega, show (5 * u + v) % 5 = v by omega] at this
      exact this huv
    · exact Or.inr h1
  | m + 1, x, D, I, o, hx, hag, hI, hL, ho => by
    have hM : agM I0 I := ag1_M rfl (by omega) hag
    have hR := Rel_agMP hM h
    have hw := wI_M hM
    have p5 : x / 5 < 5 := by omega
    have q5 : x % 5 < 5 := by omega
    obtain ⟨-, w2, w3, w4⟩ := Rel_wayP h p5 q5
    have e25 : 5 * (x / 5) + x % 5 = x := by omega
    rw [e25] at w2
    have ed : nI x / 5 = nI (x / 5) := pk_div (a := x) (d := 5) (by omega) (by omega) (by omega)
    have er : nI x - nI (x / 5) * 5 = nI (x % 5) := by
      have := pk_rem (a := x) (d := 5) (by omega) (by omega) (by omega)
      rw [show nI 5 = (5 : Int32) from rfl, ed] at this
      exact this
    have vx : vp_in (nI x) 25 := vp_in_nI (by omega) (by omega)
    have vp : vp_in (nI (x / 5)) 5 := vp_in_nI p5 (by omega)
    have vq : vp_in (nI (x % 5)) 5 := vp_in_nI q5 (by omega)
    have hDp := hL.1 (x / 5)
    have hDq := hL.1 (x % 5)
    -- the round goes on with nothing changed
    have same : (0 < (wI I0).1 (x / 5) (x % 5) → D (x % 5) ≤ op ((wI I0).2 (x / 5) (x % 5)) (D (x / 5)) + (wI I0).1 (x / 5) (x % 5)) → HX12_layNews_42 E P o (nI (x + 1)) I J := fun hk => by
      refine lay_inP h k m (x + 1) D I o (by omega) hag hI hL ?_
      rcases ho with ⟨h1, h2, h3⟩ | h1
      · refine Or.inl ⟨h1, h2, fun y hy hyw => ?_⟩
        by_cases e : y = x
        · subst e; exact hk hyw
        · exact h3 y (by omega) hyw
      · exact Or.inr h1
    refine wX12_layNews_42 ⟨fun q => absurd q (nI_ge (b := 25) (by omega) (by omega)), fun _ => ?_⟩
    rw [ed, er, nI_clamp (by omega), nI_clamp (by omega), nI_clamp (by omega), hag 75 (by omega), w2, hI _ p5, nI_1]
    refine ⟨vx, fun c1 => ?_, fun c1 => ⟨vp, fun c2 => ?_, fun c2 => ⟨vp, ?_⟩⟩⟩
    · rw [nIz (by omega)] at c1
      exact same (fun q => by omega)
    · have c2 : 10000 ≤ D (x / 5) := (nI_leI (a := 10000) (by omega) (by omega)).mp c2
      refine same (fun _ => ?_)
      have := op_ge ((wI I0).2 (x / 5) (x % 5)) (D (x / 5))
      omega
    · have c2 : D (x / 5) < 10000 := Nat.lt_of_not_le (fun q => c2 (nI_le (a := 10000) q (by omega)))
      have ho2 := op_1000 ((Rel_wokP h).1 (x / 5) (x % 5)) (t := D (x / 5))
      rw [nIz (by omega)] at c1
      refine tX12_leavesP hR (by omega) ?_
      rw [hw, hag 75 (by omega), w2, hI _ q5, nI_add]
      refine ⟨vx, vq, fun c3 => ?_, fun c3 => ⟨vq, ?_⟩⟩
      · rw [nI_leI (by omega) (by omega)] at c3
        exact same (fun _ => c3)
      · rw [nI_leI (by omega) (by omega)] at c3
        have hlt := sum5_lt (D := D) (q := x % 5) (v := op ((wI I0).2 (x / 5) (x % 5)) (D (x / 5)) + (wI I0).1 (x / 5) (x % 5)) q5 (by omega)
        refine lay_inP h k m (x + 1) (fun j => if j = x % 5 then op ((wI I0).2 (x / 5) (x % 5)) (D (x / 5)) + (wI I0).1 (x / 5) (x % 5) else D j) _ 1 (by omega) (ag1_tr hag ag1_up) (fun j hj => ?_) ⟨?_, ?_, ?_, ?_⟩ (Or.inr ⟨rfl, ?_⟩)
        · rw [upI_at]
          by_cases e : j = x % 5
          · rw [if_pos ⟨rfl, e⟩, if_pos e]
          · rw [if_neg (fun q => e q.2), if_neg e]; exact hI j hj
        · intro j
          dsimp only
          split
          · omega
          · exact hL.1 j
        · intro j hj hja
          dsimp only
          rw [if_neg (by omega)]
          exact hL.2.1 j hj hja
        · dsimp only
          split
          · rename_i e
            have := hL.2.2.1
            rw [e] at this
            omega
          · exact hL.2.2.1
        · intro F hF hFa v
          dsimp only
          split
          · rename_i e
            subst e
            have h2 := hF.2 (x / 5) (x % 5) (by omega)
            have h3 := op_mono ((Rel_wokP h).1 (x / 5) (x % 5)) (hL.2.2.2 F hF hFa (x / 5))
            omega
          · exact hL.2.2.2 F hF hFa v
        · rcases ho with ⟨-, h2, -⟩ | ⟨-, h2⟩ <;> omega
theorem lay_outP {E : aE} {P : hI_ → hJ_ → Prop} {I0 : hI_} {J : hJ_} {a t : Nat} (h : RPlanI I0) (k : ∀ I2, ag1 81 I0 I2 → (∀ j, j < 5 → I2 81 j = nI (arr (wI I0) a t j)) → P I2 J) : ∀ (S : Nat) (D : Nat → Nat) (I : hI_) (o : Int32), ag1 81 I0 I → (∀ j, j < 5 → I 81 j = nI (D j)) → lnI (wI I0) a t D → ((o = 0 ∧ clsd (wI I0) D) ∨ (o = 1 ∧ sum5 D ≤ S)) → HX12_layNews_33 E P o I J := by
  intro S
  induction S using Nat.strongRecOn with
  | ind S ih =>
    intro D I o hag hI hL ho
    have fin : ∀ (D : Nat → Nat) (I : hI_), ag1 81 I0 I → (∀ j, j < 5 → I 81 j = nI (D j)) → lnI (wI I0) a t D → clsd (wI I0) D → P I J := fun D I hag hI hL hc => by
      refine k I hag (fun j hj => ?_)
      rw [hI j hj, arr_eq hc hL.2.2.1 hL.2.2.2]
    refine wX12_layNews_33 ⟨fun c => ?_, fun c => ?_⟩
    · rcases ho with h1 | h1
      · exact fin D I hag hI hL h1.2
      · rw [h1.1] at c; exact absurd c (by decide)
    · have hc : sum5 D ≤ S := by
        rcases ho with h1 | h1
        · exact absurd h1.1 c
        · exact h1.2
      refine lay_inP h (S := sum5 D) (fun I2 o2 D2 g1 g2 g3 g4 => ?_) 25 0 D I 0 (by omega) hag hI hL (Or.inl ⟨rfl, rfl, fun y hy => by omega⟩)
      rcases g4 with g4 | g4
      · exact wX12_layNews_33 ⟨fun _ => fin D2 I2 g1 g2 g3 g4.2, fun c2 => absurd g4.1 c2⟩
      · exact ih (sum5 D2) (by omega) D2 I2 o2 g1 g2 g3 (Or.inr ⟨g4.1, Nat.le_refl _⟩)
theorem tX12_layNewsP {E : aE} {P : hI_ → hJ_ → Prop} {I : hI_} {J : hJ_} {a t : Nat} (h : RPlanI I) (ha : a < 5) (ht : t ≤ 10000) (k : ∀ I2, ag1 81 I I2 → (∀ j, j < 5 → I2 81 j = nI (arr (wI I) a t j)) → P I2 J) : CallV E mX12_layNews [.ref 68, .int (nI a), .int (nI t)] SH I J P := by
  refine wX12_layNews (lay_init ha ht (fun I2 g1 g2 => ?_) 5 0 I (by omega) ag1_rf (fun j hj => by omega))
  refine lay_outP h k _ (fun j => if j = a then t else 10000) I2 1 g1 g2 ⟨?_, ?_, ?_, ?_⟩ (Or.inr ⟨rfl, Nat.le_refl _⟩)
  · intro j; dsimp only; split <;> omega
  · intro j hj hja; dsimp only; rw [if_neg hja]
  · dsimp only; rw [if_pos rfl]; exact Nat.le_refl t
  · intro F hF hFa v
    dsimp only
    by_cases e : v = a
    · rw [if_pos e, e]; exact hFa
    · rw [if_neg e]; exact hF.1 v
theorem tX12_newsP {E : aE} {P : Int32 → hI_ → hJ_ → Prop} {I : hI_} {J : hJ_} {a b t : Nat} (h : RPlanI I) (ha : a < 5) (hb : b < 5) (ht : t ≤ 10000) (k : ∀ I2, ag1 81 I I2 → P (nI (arr (wI I) a t b)) I2 J) : CallI E mX12_news [.ref 68, .int (nI a), .int (nI b), .int (nI t)] SH I J P := by
  refine wX12_news ⟨fun c => ?_, fun c => ?_⟩
  · refine tX12_layNewsP h ha ht (fun I2 g1 g2 => ⟨vp_in_nI hb (by omega), ?_⟩)
    rw [nI_clamp (by omega), g2 b hb]
    exact k I2 g1
  · have c : ¬ t < 10000 := fun q => c (nI_lt (b := 10000) q (by omega))
    have := k I ag1_rf
    rw [arr_never (by omega)] at this
    exact this
