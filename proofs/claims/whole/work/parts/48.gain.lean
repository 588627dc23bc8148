def unN (I : hI_) (c : Nat) : Nat := (cK I c 4).toInt.toNat
theorem un_ok {I : hI_} (h : Rel I) {c : Nat} (hc : c < nC I) : cK I c 4 = nI (unN I c) ∧ 1 ≤ unN I c ∧ unN I c ≤ 99 := by
  have hb := (cK_bet h hc).2.2.2.2.1
  refine ⟨ofT (by have := hb.1; omega), ?_, ?_⟩
  · unfold unN; have := hb.1; omega
  · unfold unN; have := hb.2; omega
noncomputable def lfN (I : hI_) (p t : Nat) (su : Int32) (j : Nat) : Nat := if j < nC I then (if cntB2 I p t su j = true then unN I j else 0) else 0
theorem lfN_le {I : hI_} (h : Rel I) {p t : Nat} {su : Int32} (j : Nat) : lfN I p t su j ≤ 99 := by
  unfold lfN
  by_cases z : j < nC I
  · rw [if_pos z]
    have := un_ok h z
    split <;> omega
  · rw [if_neg z]; omega
theorem fillX_loop {E : aE} {P : hI_ → hJ_ → Prop} {I0 : hI_} {J : hJ_} {p t : Nat} {su : Int32} (h : Rel I0) (ht : t ≤ 999) (k : ∀ I2, agX I0 I2 → (∀ j, j < nC I0 → I2 39 j = nI (lfN I0 p t su j)) → I2 36 5 = nI 0 → I2 36 6 = nI 0 → HX0_trade_80 E P 0 I2 J) : ∀ (m c : Nat) (I : hI_), c + m = nC I0 → agX I0 I → (∀ j, j < nC I0 → I 37 j = nI (opW I0 p su j) ∧ I 38 j = nI (clW I0 p su j) - 1) → (∀ j, j < c → I 39 j = nI (lfN I0 p t su j)) → I 36 5 = nI 0 → I 36 6 = nI 0 → HX0_trade_12 E P (nI t) (nI c) I J
  | 0, c, I, hc, hag, hO, hI, h5, h6 => by
    have hC := Rel_C h
    refine wX0_trade_12 ?_
    rw [hag 24 rfl, hC.1]
    exact ⟨fun _ => k I hag (fun j hj => hI j (by omega)) h5 h6, fun z => absurd (nI_le (by omega) (by omega)) z⟩
  | m + 1, c, I, hc, hag, hO, hI, h5, h6 => by
    have hC := Rel_C h
    have hR := Rel_agX hag h
    have vc : vp_in (nI c) 12 := vp_in_nI (by omega) (by omega)
    have hcc : c < nC I0 := by omega
    obtain ⟨o1, o2⟩ := hO c hcc
    have un := un_ok h hcc
    have e4 : rat I 24 25 (nI c) 4 = nI (unN I0 c) := by
      refine (((Rel_call hR (by rw [nC_X hag]; exact hcc)).1 4 (by omega)).1).trans ?_
      rw [← un.1]; exact cK_X hag c 4
    have ow : opW I0 p su c ≤ 10000 := by
      unfold opW opN; split
      · omega
      · exact arr_le
    have cw : clW I0 p su c ≤ 10000 := by
      unfold clW clN; split
      · omega
      · have := Nat.min_le_left (min 1000 (arr (wI I0) (qN I0 c) (bkN I0 c) p)) (if cK I0 c 5 = 1 then lat (wI I0) p (qN I0 c) (vN I0 c) else 1000)
        have := Nat.min_le_left 1000 (arr (wI I0) (qN I0 c) (bkN I0 c) p)
        omega
    refine wX0_trade_12 ?_
    rw [hag 24 rfl, hC.1, nI_clamp (by omega), o1, o2, e4, nI_1]
    refine ⟨fun z => absurd z (nI_ge (by omega) (by omega)), fun _ => ⟨vc, fun _ => vc, fun _ => (Rel_rows hR).2.1, vc, ?_⟩⟩
    have k1 : (nI t < nI (opW I0 p su c)) ↔ t < opW I0 p su c := by
      constructor
      · intro y
        rcases Nat.lt_or_ge t (opW I0 p su c) with q | q
        · exact q
        · exact absurd y (nI_nlt q (by omega))
      · intro y; exact nI_lt y (by omega)
    have k2 := lt_nIm (T := clW I0 p su c) (f := t) (by omega) (by omega)
    have key : ((¬ (nI t < nI (opW I0 p su c))) ∧ (¬ (nI (clW I0 p su c) - 1 < nI t))) ↔ cntB2 I0 p t su c = true := by
      rw [k1, k2]
      unfold cntB2
      rw [Bool.and_eq_true, Nat.ble_eq, Nat.blt_eq]
      omega
    have ev : (if ¬ ((¬ (nI t < nI (opW I0 p su c))) ∧ (¬ (nI (clW I0 p su c) - 1 < nI t))) then 0 else nI (unN I0 c)) = nI (lfN I0 p t su c) := by
      unfold lfN
      rw [if_pos hcc]
      by_cases z : cntB2 I0 p t su c = true
      · rw [if_pos z, if_neg (fun y => y (key.mpr z))]
      · rw [if_neg z, if_pos (fun y => z (key.mp y))]; rfl
    rw [ev]
    refine fillX_loop h ht k m (c + 1) _ (by omega) (agX_tr hag (agX_up rfl)) (fun j hj => ?_) (fun j hj => ?_) ?_ ?_
    · rw [upI_at, if_neg (by omega), upI_at, if_neg (by omega)]; exact hO j hj
    · rw [upI_at]
      by_cases e : j = c
      · rw [if_pos ⟨rfl, e⟩, e]
      · rw [if_neg (fun z => e z.2)]; exact hI j (by omega)
    · rw [upI_at, if_neg (by omega)]; exact h5
    · rw [upI_at, if_neg (by omega)]; exact h6
noncomputable def gnN (I : hI_) (p t : Nat) (su : Int32) : Nat × Nat := trF I (nC I) 12 (lfN I p t su) 0 0
theorem tX0_trade {E : aE} {P : hI_ → hJ_ → Prop} {I0 I : hI_} {J : hJ_} {p t : Nat} {su : Int32} (h : Rel I0) (ht : t ≤ 999) (hag : agX I0 I) (hO : ∀ j, j < nC I0 → I 37 j = nI (opW I0 p su j) ∧ I 38 j = nI (clW I0 p su j) - 1) (k : ∀ I2, agX I0 I2 → I2 36 5 = nI (gnN I0 p t su).1 → I2 36 6 = nI (gnN I0 p t su).2 → P I2 J) : CallV E mX0_trade [.ref 36, .int (nI t)] SH I J P := by
  refine wX0_trade (fillX_loop (p := p) (su := su) h ht (fun I2 a1 a2 a3 a4 => tradeX_loop h 12 0 (lfN I0 p t su) 0 0 I2 (by omega) a1 a2 (lfN_le h) a3 a4 k) (nC I0) 0 _ (by omega) (agX_tr hag (agX_tr (agX_up rfl) (agX_up rfl))) (fun j hj => ?_) (fun j hj => by omega) ?_ upI_same)
  · rw [upI_at, if_neg (by omega), upI_at, if_neg (by omega), upI_at, if_neg (by omega), upI_at, if_neg (by omega)]; exact hO j hj
  · rw [upI_at, if_neg (by omega)]; exact upI_same
theorem cntB2_e {I I2 : hI_} (h1 : wI I2 = wI I) (h2 : I2 82 = I 82) (p t : Nat) (su : Int32) (c : Nat) : cntB2 I2 p t su c = cntB2 I p t su c := by
  have ec : ∀ j, cK I2 c j = cK I c j := fun j => by unfold cK; rw [h2]
  unfold cntB2 opW clW skB opN clN qN mN bkN vN
  rw [h1, ec, ec, ec, ec, ec]
theorem fillM_loop {E : aE} {P : hI_ → hJ_ → Prop} {I0 : hI_} {J : hJ_} {p t : Nat} {su : Int32} (h : Rel I0) (hp : p < nP I0) (ht : t ≤ 999) (k : ∀ I2, agM I0 I2 → (∀ j, j < nC I0 → I2 87 j = nI (lfN I0 p t su j)) → I2 68 28 = nI 0 → I2 68 29 = nI 0 → HX12_layGain_65 E P 1 I2 J) : ∀ (m c : Nat) (I : hI_), c + m = nC I0 → agM I0 I → (∀ j, j < c → I 87 j = nI (lfN I0 p t su j)) → HX12_layGain_3 E P (nI p) (nI t) su (nI c) I J
  | 0, c, I, hc, hag, hI => by
    have hC := Rel_C h
    refine wX12_layGain_3 ?_
    rw [hag.1 82 rfl, hC.2.1]
    refine ⟨fun _ => k _ (agM_tr hag (agM_tr (agM_up rfl (by omega)) (agM_up rfl (by omega)))) (fun j hj => ?_) ?_ upI_same, fun z => absurd (nI_le (by omega) (by omega)) z⟩
    · rw [upI_at, if_neg (by omega), upI_at, if_neg (by omega)]; exact hI j (by omega)
    · rw [upI_at, if_neg (by omega)]; exact upI_same
  | m + 1, c, I, hc, hag, hI => by
    have hC := Rel_C h
    have hR := Rel_agM hag h
    have vc : vp_in (nI c) 12 := vp_in_nI (by omega) (by omega)
    have hcc : c < nC I0 := by omega
    have un := un_ok h hcc
    refine wX12_layGain_3 ?_
    rw [hag.1 82 rfl, hC.2.1]
    refine ⟨fun z => absurd z (nI_ge (by omega) (by omega)), fun _ => ?_⟩
    refine tX12_isOffer hR (by rw [nC_M hag]; exact hcc) (by rw [nP_M hag]; exact hp) ht (fun I3 hag3 => ⟨fun _ => inC_nI (j := 4) (by omega) (by omega), vc, ?_⟩)
    rw [cntB2_e (wI_M hag) (hag.1 82 rfl)]
    have e4 : its I3 (nI c) 4 = nI (unN I0 c) := by
      refine (its_cK (I := I3) (c := c) (j := 4) (by omega) (by omega)).trans ?_
      rw [← un.1]; unfold cK; rw [hag3 82 (by omega), hag.1 82 rfl]
    have ev : (if b2i (cntB2 I0 p t su c = true) = 0 then 0 else nI (unN I0 c)) = nI (lfN I0 p t su c) := by
      unfold lfN
      rw [if_pos hcc]
      by_cases z : cntB2 I0 p t su c = true
      · have : b2i (cntB2 I0 p t su c = true) = 1 := if_pos z
        rw [this, if_pos z, if_neg (by decide)]
      · have : b2i (cntB2 I0 p t su c = true) = 0 := if_neg z
        rw [this, if_neg z, if_pos rfl]; rfl
    rw [e4, ev, nI_1, nI_clamp (by omega)]
    refine fillM_loop h hp ht k m (c + 1) _ (by omega) (agM_tr hag (agM_tr (ag1_M rfl (by omega) hag3) (agM_up rfl (by omega)))) (fun j hj => ?_)
    rw [upI_at]
    by_cases e : j = c
    · rw [if_pos ⟨rfl, e⟩, e]
    · rw [if_neg (fun z => e z.2), hag3 87 (by omega)]; exact hI j (by omega)
theorem tX12_layGain {E : aE} {P : hI_ → hJ_ → Prop} {I : hI_} {J : hJ_} {p t : Nat} {su : Int32} (h : Rel I) (hp : p < nP I) (ht : t ≤ 999) (k : ∀ I2, agM I I2 → I2 68 28 = nI (gnN I p t su).1 → I2 68 29 = nI (gnN I p t su).2 → P I2 J) : CallV E mX12_layGain [.ref 68, .int (nI p), .int (nI t), .int su] SH I J P := by
  have hC := Rel_C h
  refine wX12_layGain (fillM_loop h hp ht (fun I2 a1 a2 a3 a4 => tradeM_loop h 12 (lfN I p t su) 0 0 I2 ?_ a1 a2 (lfN_le h) a3 a4 k) (nC I) 0 I (by omega) agM_rf (fun j hj => by omega))
  have := cntB_n (p := fun j => decide (0 < lfN I p t su j)) (nC I)
  unfold nzC
  omega
