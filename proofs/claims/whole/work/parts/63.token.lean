/-! tokens -/
def isC (lo hi : Nat) (B : Nat → Nat) (i : Nat) : Bool := decide (lo ≤ B i ∧ B i ≤ hi)
def tS (n : Nat) (B : Nat → Nat) (k : Nat) : Nat := opn (isC 32 32 B) (n - k) k
def tL (n : Nat) (B : Nat → Nat) (s : Nat) : Nat := opn (isC 97 122 B) (n - s) s
def tG (n : Nat) (B : Nat → Nat) (s : Nat) : Nat := opn (isC 48 57 B) (n - s) s
def tkd (n : Nat) (B : Nat → Nat) (s : Nat) : Nat := if s = n then 0 else if isC 97 122 B s = true then 1 else if isC 48 57 B s = true then (if tG n B s - s ≤ 3 then 2 else 4) else if B s = 59 then 3 else 4
def ten (n : Nat) (B : Nat → Nat) (s : Nat) : Nat := if s = n then n else if isC 97 122 B s = true then tL n B s else if isC 48 57 B s = true then tG n B s else s + 1
def vl (B : Nat → Nat) (s : Nat) : Nat → Nat
  | 0 => 0
  | m + 1 => vl B s m * 10 + (B (s + m) - 48)
def tK (n : Nat) (B : Nat → Nat) (k : Nat) : Nat := tkd n B (tS n B k)
def tE (n : Nat) (B : Nat → Nat) (k : Nat) : Nat := ten n B (tS n B k)
def tV (n : Nat) (B : Nat → Nat) (k : Nat) : Nat := if tK n B k = 2 then vl B (tS n B k) (tE n B k - tS n B k) else 0
theorem opn_gt {c : Nat → Bool} {n t : Nat} (hn : 0 < n) (h : c t = true) : t < opn c n t := by
  obtain ⟨m, rfl⟩ : ∃ m, n = m + 1 := ⟨n - 1, by omega⟩
  unfold opn
  rw [if_pos h]
  have := opn_ge (c := c) m (t + 1)
  omega
theorem opn_all {c : Nat → Bool} : ∀ n t u, t ≤ u → u < opn c n t → c u = true
  | 0, t, u, h1, h2 => by
    have h2 : u < t := h2
    omega
  | n + 1, t, u, h1, h2 => by
    unfold opn at h2
    by_cases z : c t = true
    · rw [if_pos z] at h2
      by_cases e : u = t
      · rw [e]; exact z
      · exact opn_all n (t + 1) u (by omega) h2
    · rw [if_neg z] at h2; omega
theorem tS_b {n : Nat} {B : Nat → Nat} {k : Nat} (hk : k ≤ n) : k ≤ tS n B k ∧ tS n B k ≤ n := by
  have h1 := opn_ge (c := isC 32 32 B) (n - k) k
  have h2 := opn_le (c := isC 32 32 B) (n - k) k
  unfold tS
  omega
theorem tE_b {n : Nat} {B : Nat → Nat} {k : Nat} (hk : k ≤ n) : tS n B k ≤ tE n B k ∧ tE n B k ≤ n ∧ (tK n B k ≠ 0 → tS n B k < tE n B k) := by
  have hs := tS_b (B := B) hk
  unfold tE tK ten tkd
  generalize tS n B k = s at hs ⊢
  by_cases z : s = n
  · rw [if_pos z, if_pos z]
    exact ⟨by omega, by omega, fun y => absurd rfl y⟩
  · rw [if_neg z, if_neg z]
    by_cases z2 : isC 97 122 B s = true
    · rw [if_pos z2, if_pos z2]
      have h1 := opn_gt (c := isC 97 122 B) (n := n - s) (t := s) (by omega) z2
      have h2 := opn_le (c := isC 97 122 B) (n - s) s
      unfold tL
      exact ⟨by omega, by omega, fun _ => h1⟩
    · rw [if_neg z2, if_neg z2]
      by_cases z3 : isC 48 57 B s = true
      · rw [if_pos z3, if_pos z3]
        have h1 := opn_gt (c := isC 48 57 B) (n := n - s) (t := s) (by omega) z3
        have h2 := opn_le (c := isC 48 57 B) (n - s) s
        unfold tG
        exact ⟨by omega, by omega, fun _ => h1⟩
      · rw [if_neg z3, if_neg z3]
        exact ⟨by omega, by omega, fun _ => by omega⟩
theorem vl_b {B : Nat → Nat} {s : Nat} : ∀ m, m ≤ 3 → (∀ i, i < m → isC 48 57 B (s + i) = true) → vl B s m < 10 ^ m
  | 0, _, _ => Nat.one_pos
  | m + 1, hm, h => by
    have ih := vl_b (B := B) (s := s) m (by omega) (fun i hi => h i (by omega))
    have := of_decide_eq_true (h m (by omega))
    have e : vl B s (m + 1) = vl B s m * 10 + (B (s + m) - 48) := rfl
    have e2 : 10 ^ (m + 1) = 10 ^ m * 10 := rfl
    rw [e, e2]
    omega
theorem tV_b {n : Nat} {B : Nat → Nat} {k : Nat} : tV n B k ≤ 999 := by
  unfold tV
  by_cases z : tK n B k = 2
  · rw [if_pos z]
    unfold tE
    unfold tK tkd at z
    unfold ten
    generalize tS n B k = s at z ⊢
    by_cases z1 : s = n
    · rw [if_pos z1] at z; omega
    · rw [if_neg z1] at z ⊢
      by_cases z2 : isC 97 122 B s = true
      · rw [if_pos z2] at z; omega
      · rw [if_neg z2] at z ⊢
        by_cases z3 : isC 48 57 B s = true
        · rw [if_pos z3] at z ⊢
          by_cases z4 : tG n B s - s ≤ 3
          · have ge := opn_ge (c := isC 48 57 B) (n - s) s
            have := vl_b (B := B) (s := s) (tG n B s - s) z4 (fun i hi => opn_all (c := isC 48 57 B) (n - s) s (s + i) (by omega) (by unfold tG at hi; omega))
            have p3 : 10 ^ (tG n B s - s) ≤ 10 ^ 3 := Nat.pow_le_pow_right (by omega) z4
            omega
          · rw [if_neg z4] at z; omega
        · rw [if_neg z3] at z
          split at z <;> omega
  · rw [if_neg z]; omega
/-- the class's bytes -/
def cbt (t : Nat) : Int32 := (nI t).toInt8.toInt32
theorem cbt_T : ∀ t, t < 256 → (cbt t).toInt = if t < 128 then (t : Int) else (t : Int) - 256 := by decide +kernel
theorem cbt_lt {t c : Nat} (ht : t < 256) (hc : c < 128) : (cbt t < nI c) ↔ (t < c ∨ 128 ≤ t) := by
  rw [Int32.lt_iff_toInt_lt, cbt_T t ht, nI_toInt (by omega)]
  split <;> omega
theorem cbt_le {t c : Nat} (ht : t < 256) (hc : c < 128) : (cbt t ≤ nI c) ↔ (t ≤ c ∨ 128 ≤ t) := by
  rw [Int32.le_iff_toInt_le, cbt_T t ht, nI_toInt (by omega)]
  split <;> omega
theorem cbt_gt {t c : Nat} (ht : t < 256) (hc : c < 128) : (nI c < cbt t) ↔ (c < t ∧ t < 128) := by
  rw [Int32.lt_iff_toInt_lt, cbt_T t ht, nI_toInt (by omega)]
  split <;> omega
theorem cbt_eq {t c : Nat} (ht : t < 256) (hc : c < 128) : (cbt t = nI c) ↔ t = c := by
  rw [← Int32.toInt_inj, cbt_T t ht, nI_toInt (by omega)]
  split <;> omega
/-- a tape in the class -/
def XB (n : Nat) (B : Nat → Nat) (I : hI_) : Prop := I 1 1 = nI n ∧ n ≤ 320 ∧ ∀ i, i < n → I 2 i = cbt (B i) ∧ B i < 256
theorem byt_N {n : Nat} {B : Nat → Nat} {I : hI_} (h : XB n B I) {i : Nat} (hi : i < n) : byt I (nI i) = cbt (B i) := by
  obtain ⟨h1, h2, h3⟩ := h
  unfold byt
  rw [h1, if_pos ⟨nI_pos' (by omega), nI_lt hi (by omega), nI_lt (b := 320) (by omega) (by omega)⟩, nI_clamp (by omega)]
  exact (h3 i hi).1
def HX8_endOfRun_3 (E : aE) (P : Int32 → hI_ → hJ_ → Prop) (v2 : Int32) (v3 : Int32) (v4 : Int32) (I : hI_) (J : hJ_) : Prop := V E mX8_endOfRun (kI SH P) 3 [.ref 1, .retAddr 0, .int v2, .int v3, .int v4] [] (SH, I, J) (0, 0)
set_option maxHeartbeats 4000000 in
set_option maxRecDepth 20000 in
theorem wX8_endOfRun {E : aE} {P : Int32 → hI_ → hJ_ → Prop} {I : hI_} {J : hJ_} {a0 : Int32} {a1 : Int32} {a2 : Int32} (k : HX8_endOfRun_3 E P a1 a2 a0 I J) : CallI E mX8_endOfRun [.ref 1, .int a0, .int a1, .int a2] SH I J P := by
  refine Call_of (L := [.ref 1, .int a0, .int a1, .int a2, .retAddr 0]) ok_X8_endOfRun.1 rfl rfl ?_
  refine V_iload_n dX8_endOfRun_0 rfl ?_
  refine U_istore (L2 := [.ref 1, .int a0, .int a1, .int a2, .int a0]) dX8_endOfRun_1 (by decide) rfl ?_
  exact V_wk (wk_eq (wk_j (wk_eq (wk_eq (wk_eq (wk_nil)))))) k
set_option maxHeartbeats 4000000 in
set_option maxRecDepth 20000 in
theorem wX8_endOfRun_3 {E : aE} {P : Int32 → hI_ → hJ_ → Prop} {I : hI_} {J : hJ_} {v2 : Int32} {v3 : Int32} {v4 : Int32} (k : ((v4 < (0 : Int32) → P (I 1 1) I J) ∧ (¬ (v4 < (0 : Int32)) → (((I 1 1) ≤ v4 → P (I 1 1) I J) ∧ (¬ ((I 1 1) ≤ v4) → (((320 : Int32) ≤ v4 → P (I 1 1) I J) ∧ (¬ ((320 : Int32) ≤ v4) → (vp_in v4 320) ∧ (((I 2 v4.toNatClampNeg) < v2 → P v4 I J) ∧ (¬ ((I 2 v4.toNatClampNeg) < v2) → (vp_in v4 320) ∧ (((I 2 v4.toNatClampNeg) ≤ v3 → HX8_endOfRun_3 E P v2 v3 (v4 + (1 : Int32)) I J) ∧ (¬ ((I 2 v4.toNatClampNeg) ≤ v3) → P v4 I J))))))))))) : HX8_endOfRun_3 E P v2 v3 v4 I J := by
  show V E mX8_endOfRun (kI SH P) 3 [.ref 1, .retAddr 0, .int v2, .int v3, .int v4] [] (SH, I, J) (0, 0)
  refine V_iload dX8_endOfRun_3 rfl ?_
  refine V_if_lt dX8_endOfRun_5 (fun c1 => ?_) (fun c1 => ?_)
  · have k := k.1 c1
    refine V_aload_n dX8_endOfRun_56 rfl ?_
    refine U_getI dX8_endOfRun_57 fl_X8_15 s_1 rfl ?_
    exact V_iret dX8_endOfRun_60 ⟨_, rfl, rfl⟩ rfl rfl ⟨_, _, _, rfl, rfl, k⟩
  · have k := k.2 c1
    refine V_iload dX8_endOfRun_8 rfl ?_
    refine V_aload_n dX8_endOfRun_10 rfl ?_
    refine U_getI dX8_endOfRun_11 fl_X8_15 s_1 rfl ?_
    refine V_icmp_ge dX8_endOfRun_14 (fun c2 => ?_) (fun c2 => ?_)
    · have k := k.1 c2
      refine V_aload_n dX8_endOfRun_56 rfl ?_
      refine U_getI dX8_endOfRun_57 fl_X8_15 s_1 rfl ?_
      exact V_iret dX8_endOfRun_60 ⟨_, rfl, rfl⟩ rfl rfl ⟨_, _, _, rfl, rfl, k⟩
    · have k := k.2 c2
      refine V_iload dX8_endOfRun_17 rfl ?_
      refine V_sipush (v := (320 : Int32)) dX8_endOfRun_19 rfl ?_
      refine V_icmp_ge dX8_endOfRun_22 (fun c3 => ?_) (fun c3 => ?_)
      · have k := k.1 c3
        refine V_aload_n dX8_endOfRun_56 rfl ?_
        refine U_getI dX8_endOfRun_57 fl_X8_15 s_1 rfl ?_
        exact V_iret dX8_endOfRun_60 ⟨_, rfl, rfl⟩ rfl rfl ⟨_, _, _, rfl, rfl, k⟩
      · have k := k.2 c3
        refine V_aload_n dX8_endOfRun_25 rfl ?_
        refine U_getR dX8_endOfRun_26 fl_X8_9 s_1 rfl ?_
        refine V_iload dX8_endOfRun_29 rfl ?_
        obtain ⟨hb4, k⟩ := k
        refine U_bald dX8_endOfRun_31 s_2 hb4 ?_
        refine V_iload_n dX8_endOfRun_32 rfl ?_
        refine V_icmp_lt dX8_endOfRun_33 (fun c5 => ?_) (fun c5 => ?_)
        · have k := k.1 c5
          refine V_iload dX8_endOfRun_47 rfl ?_
          exact V_iret dX8_endOfRun_49 ⟨_, rfl, rfl⟩ rfl rfl ⟨_, _, _, rfl, rfl, k⟩
        · have k := k.2 c5
          refine V_aload_n dX8_endOfRun_36 rfl ?_
          refine U_getR dX8_endOfRun_37 fl_X8_9 s_1 rfl ?_
          refine V_iload dX8_endOfRun_40 rfl ?_
          obtain ⟨hb6, k⟩ := k
          refine U_bald dX8_endOfRun_42 s_2 hb6 ?_
          refine V_iload_n dX8_endOfRun_43 rfl ?_
          refine V_icmp_le dX8_endOfRun_44 (fun c7 => ?_) (fun c7 => ?_)
          · have k := k.1 c7
            refine U_iinc (v := v4 + (1 : Int32)) (L2 := [.ref 1, .retAddr 0, .int v2, .int v3, .int (v4 + (1 : Int32))]) dX8_endOfRun_50 (by decide) rfl rfl rfl ?_
            refine V_goto dX8_endOfRun_53 ?_
            exact k
          · have k := k.2 c7
            refine V_iload dX8_endOfRun_47 rfl ?_
            exact V_iret dX8_endOfRun_49 ⟨_, rfl, rfl⟩ rfl rfl ⟨_, _, _, rfl, rfl, k⟩
theorem eor_loop {E : aE} {P : Int32 → hI_ → hJ_ → Prop} {n : Nat} {B : Nat → Nat} {I : hI_} {J : hJ_} {lo hi R : Nat} (h : XB n B I) (hlo : lo < 128) (hhi : hi < 128) (k : P (nI R) I J) : ∀ (m i : Nat), i + m = n → opn (isC lo hi B) m i = R → HX8_endOfRun_3 E P (nI lo) (nI hi) (nI i) I J
  | 0, i, hi0, hR => by
    have e : opn (isC lo hi B) 0 i = i := rfl
    rw [e] at hR
    have hn := h.2.1
    refine wX8_endOfRun_3 ⟨fun z => absurd z (nI_pos (by omega)), fun _ => ?_⟩
    rw [h.1]
    exact ⟨fun _ => by rw [show n = R by omega]; exact k, fun z => absurd (nI_le (by omega) (by omega)) z⟩
  | m + 1, i, hi0, hR => by
    have hn := h.2.1
    have hb := h.2.2 i (by omega)
    have e : opn (isC lo hi B) (m + 1) i = if isC lo hi B i = true then opn (isC lo hi B) m (i + 1) else i := rfl
    rw [e] at hR
    have vi : vp_in (nI i) 320 := vp_in_nI (by omega) (by omega)
    refine wX8_endOfRun_3 ⟨fun z => absurd z (nI_pos (by omega)), fun _ => ?_⟩
    rw [h.1, nI_clamp (by omega), hb.1, nI_1 i, cbt_lt hb.2 hlo, cbt_le hb.2 hhi]
    have stop : ¬ isC lo hi B i = true → P (nI i) I J := fun z => by
      rw [if_neg z] at hR
      rw [hR]; exact k
    refine ⟨fun z => absurd z (nI_ge (by omega) (by omega)), fun _ => ⟨fun z => absurd z (nI_ge (b := 320) (by omega) (by omega)), fun _ => ⟨vi, fun z => stop (fun y => ?_), fun z => ⟨vi, fun y => ?_, fun y => stop (fun w => ?_)⟩⟩⟩⟩
    · have := of_decide_eq_true y; omega
    · have c : isC lo hi B i = true := decide_eq_true (by omega)
      rw [if_pos c] at hR
      exact eor_loop h hlo hhi k m (i + 1) (by omega) hR
    · have := of_decide_eq_true w; omega
theorem tX8_endOfRun {E : aE} {P : Int32 → hI_ → hJ_ → Prop} {n : Nat} {B : Nat → Nat} {I : hI_} {J : hJ_} {lo hi i : Nat} (h : XB n B I) (hlo : lo < 128) (hhi : hi < 128) (hi0 : i ≤ n) (k : P (nI (opn (isC lo hi B) (n - i) i)) I J) : CallI E mX8_endOfRun [.ref 1, .int (nI i), .int (nI lo), .int (nI hi)] SH I J P := wX8_endOfRun (eor_loop h hlo hhi k (n - i) i (by omega) rfl)
/-- the token read from a place on is at hand -/
def XT (n : Nat) (B : Nat → Nat) (k : Nat) (I : hI_) : Prop := I 1 2 = nI (tE n B k) ∧ I 1 3 = nI (tK n B k) ∧ I 1 4 = nI (tS n B k) ∧ I 1 5 = nI (tV n B k)
def HX8_advance_176 (E : aE) (P : hI_ → hJ_ → Prop) (v2 : Int32) (I : hI_) (J : hJ_) : Prop := V E mX8_advance (kV SH P) 176 [.ref 1, .retAddr 0, .int v2] [] (SH, I, J) (0, 0)
set_option maxHeartbeats 4000000 in
set_option maxRecDepth 20000 in
theorem wX8_advance {E : aE} {P : hI_ → hJ_ → Prop} {I : hI_} {J : hJ_}  (k : CallI E mX8_endOfRun [.ref 1, .int (I 1 2), .int (32 : Int32), .int (32 : Int32)] SH I J (fun x1 I2 J3 => ((x1 < (I2 1 1) → (((byt (upI I2 1 4 x1) x1) < (97 : Int32) → (((byt (upI I2 1 4 x1) x1) < (48 : Int32) → HX8_advance_176 E P x1 (upI (upI (upI (upI I2 1 4 x1) 1 3 (if ¬ (byt (upI I2 1 4 x1) x1) = (59 : Int32) then (4 : Int32) else (3 : Int32))) 1 2 (x1 + (1 : Int32))) 1 5 (0 : Int32)) J3) ∧ (¬ ((byt (upI I2 1 4 x1) x1) < (48 : Int32)) → (((57 : Int32) < (byt (upI I2 1 4 x1) x1) → HX8_advance_176 E P x1 (upI (upI (upI (upI I2 1 4 x1) 1 3 (if ¬ (byt (upI I2 1 4 x1) x1) = (59 : Int32) then (4 : Int32) else (3 : Int32))) 1 2 (x1 + (1 : Int32))) 1 5 (0 : Int32)) J3) ∧ (¬ ((57 : Int32) < (byt (upI I2 1 4 x1) x1)) → CallI E mX8_endOfRun [.ref 1, .int x1, .int (48 : Int32), .int (57 : Int32)] SH (upI I2 1 4 x1) J3 (fun x4014 I4015 J4016 => HX8_advance_176 E P (I4015 1 4) (upI (upI (upI I4015 1 2 x4014) 1 3 (if (x4014 - (I4015 1 4)) ≤ (3 : Int32) then (2 : Int32) else (4 : Int32))) 1 5 (0 : Int32)) J4016)))))) ∧ (¬ ((byt (upI I2 1 4 x1) x1) < (97 : Int32)) → (((122 : Int32) < (byt (upI I2 1 4 x1) x1) → (((byt (upI I2 1 4 x1) x1) < (48 : Int32) → HX8_advance_176 E P x1 (upI (upI (upI (upI I2 1 4 x1) 1 3 (if ¬ (byt (upI I2 1 4 x1) x1) = (59 : Int32) then (4 : Int32) else (3 : Int32))) 1 2 (x1 + (1 : Int32))) 1 5 (0 : Int32)) J3) ∧ (¬ ((byt (upI I2 1 4 x1) x1) < (48 : Int32)) → (((57 : Int32) < (byt (upI I2 1 4 x1) x1) → HX8_advance_176 E P x1 (upI (upI (upI (upI I2 1 4 x1) 1 3 (if ¬ (byt (upI I2 1 4 x1) x1) = (59 : Int32) then (4 : Int32) else (3 : Int32))) 1 2 (x1 + (1 : Int32))) 1 5 (0 : Int32)) J3) ∧ (¬ ((57 : Int32) < (byt (upI I2 1 4 x1) x1)) → CallI E mX8_endOfRun [.ref 1, .int x1, .int (48 : Int32), .int (57 : Int32)] SH (upI I2 1 4 x1) J3 (fun x10029 I10030 J10031 => HX8_advance_176 E P (I10030 1 4) (upI (upI (upI I10030 1 2 x10029) 1 3 (if (x10029 - (I10030 1 4)) ≤ (3 : Int32) then (2 : Int32) else (4 : Int32))) 1 5 (0 : Int32)) J10031)))))) ∧ (¬ ((122 : Int32) < (byt (upI I2 1 4 x1) x1)) → CallI E mX8_endOfRun [.ref 1, .int x1, .int (97 : Int32), .int (122 : Int32)] SH (upI (upI I2 1 4 x1) 1 3 (1 : Int32)) J3 (fun x12035 I12036 J12037 => HX8_advance_176 E P (I12036 1 4) (upI (upI I12036 1 2 x12035) 1 5 (0 : Int32)) J12037)))))) ∧ (¬ (x1 < (I2 1 1)) → HX8_advance_176 E P x1 (upI (upI (upI (upI I2 1 4 x1) 1 3 (0 : Int32)) 1 2 x1) 1 5 (0 : Int32)) J3)))) : CallV E mX8_advance [.ref 1] SH I J P := by
  refine Call_of (L := [.ref 1, .retAddr 0, .retAddr 0]) ok_X8_advance.1 rfl rfl ?_
  refine V_aload_n dX8_advance_0 rfl ?_
  refine V_aload_n dX8_advance_1 rfl ?_
  refine V_aload_n dX8_advance_2 rfl ?_
  refine U_getI dX8_advance_3 fl_X8_19 s_1 rfl ?_
  refine V_bipush (v := (32 : Int32)) dX8_advance_6 rfl ?_
  refine V_bipush (v := (32 : Int32)) dX8_advance_8 rfl ?_
  refine U_callV1 [.int (I 1 2), .int (32 : Int32), .int (32 : Int32)] dX8_advance_10 ov_X8_22 s_1 rfl ⟨rfl, rfl, rfl⟩ rfl rfl rfl (CallI_mono k (fun x1 I2 J3 k => ?_))
  refine U_putI dX8_advance_13 fp_X8_26 s_1 rfl ?_
  refine V_aload_n dX8_advance_16 rfl ?_
  refine V_aload_n dX8_advance_17 rfl ?_
  refine U_getIx (x := x1) dX8_advance_18 fl_X8_26 s_1 rfl rfl ?_
  refine U_callV1 [.int x1] dX8_advance_21 ov_X8_29 s_1 rfl ⟨rfl, rfl, rfl⟩ rfl rfl rfl (tX8_byteAt ?_)
  refine U_istore_n (L2 := [.ref 1, .int (byt (upI I2 1 4 x1) x1), .retAddr 0]) dX8_advance_24 (by decide) rfl ?_
  refine V_aload_n dX8_advance_25 rfl ?_
  refine U_getIx (x := x1) dX8_advance_26 fl_X8_26 s_1 rfl rfl ?_
  refine V_aload_n dX8_advance_29 rfl ?_
  refine U_getIx (x := I2 1 1) dX8_advance_30 fl_X8_15 s_1 rfl rfl ?_
  refine V_icmp_lt dX8_advance_33 (fun c4 => ?_) (fun c4 => ?_)
  · have k := k.1 c4
    refine V_iload_n dX8_advance_52 rfl ?_
    refine V_bipush (v := (97 : Int32)) dX8_advance_53 rfl ?_
    refine V_icmp_lt dX8_advance_55 (fun c5 => ?_) (fun c5 => ?_)
    · have k := k.1 c5
      refine V_iload_n dX8_advance_88 rfl ?_
      refine V_bipush (v := (48 : Int32)) dX8_advance_89 rfl ?_
      refine V_icmp_lt dX8_advance_91 (fun c6 => ?_) (fun c6 => ?_)
      · have k := k.1 c6
        refine V_aload_n dX8_advance_141 rfl ?_
        refine V_iload_n dX8_advance_142 rfl ?_
        refine V_bipush (v := (59 : Int32)) dX8_advance_143 rfl ?_
        have key7 : ∀ (y2008 : Int32), y2008 = (if ¬ (byt (upI I2 1 4 x1) x1) = (59 : Int32) then (4 : Int32) else (3 : Int32)) → V E mX8_advance (kV SH P) 153 [.ref 1, .int (byt (upI I2 1 4 x1) x1), .retAddr 0] [.int y2008, .ref 1] (SH, upI I2 1 4 x1, J3) (0, 0) := by
          intro y2008 ey2008
          subst ey2008
          refine U_putI dX8_advance_153 fp_X8_33 s_1 rfl ?_
          refine V_aload_n dX8_advance_156 rfl ?_
          refine V_aload_n dX8_advance_157 rfl ?_
          refine U_getIx (x := x1) dX8_advance_158 fl_X8_26 s_1 rfl rfl ?_
          refine V_iconst (v := (1 : Int32)) dX8_advance_161 rfl ?_
          refine V_iadd dX8_advance_162 ?_
          refine U_putI dX8_advance_163 fp_X8_19 s_1 rfl ?_
          refine V_aload_n dX8_advance_166 rfl ?_
          refine V_iconst (v := (0 : Int32)) dX8_advance_167 rfl ?_
          refine U_putI dX8_advance_168 fp_X8_36 s_1 rfl ?_
          refine V_aload_n dX8_advance_171 rfl ?_
          refine U_getIx (x := x1) dX8_advance_172 fl_X8_26 s_1 rfl rfl ?_
          refine U_istore_n (L2 := [.ref 1, .int (byt (upI I2 1 4 x1) x1), .int x1]) dX8_advance_175 (by decide) rfl ?_
          exact V_wk (wk_eq (wk_j (wk_eq (wk_nil)))) k
        refine V_icmp_ne dX8_advance_145 (fun c2009 => ?_) (fun c2009 => ?_)
        · refine V_iconst (v := (4 : Int32)) dX8_advance_152 rfl ?_
          exact key7 _ (by rw [if_pos c2009])
        · refine V_iconst (v := (3 : Int32)) dX8_advance_148 rfl ?_
          refine V_goto dX8_advance_149 ?_
          exact key7 _ (by rw [if_neg (not_not_intro c2009)])
      · have k := k.2 c6
        refine V_iload_n dX8_advance_94 rfl ?_
        refine V_bipush (v := (57 : Int32)) dX8_advance_95 rfl ?_
        refine V_icmp_gt dX8_advance_97 (fun c2010 => ?_) (fun c2010 => ?_)
        · have k := k.1 c2010
          refine V_aload_n dX8_advance_141 rfl ?_
          refine V_iload_n dX8_advance_142 rfl ?_
          refine V_bipush (v := (59 : Int32)) dX8_advance_143 rfl ?_
          have key2011 : ∀ (y4012 : Int32), y4012 = (if ¬ (byt (upI I2 1 4 x1) x1) = (59 : Int32) then (4 : Int32) else (3 : Int32)) → V E mX8_advance (kV SH P) 153 [.ref 1, .int (byt (upI I2 1 4 x1) x1), .retAddr 0] [.int y4012, .ref 1] (SH, upI I2 1 4 x1, J3) (0, 0) := by
            intro y4012 ey4012
            subst ey4012
            refine U_putI dX8_advance_153 fp_X8_33 s_1 rfl ?_
            refine V_aload_n dX8_advance_156 rfl ?_
            refine V_aload_n dX8_advance_157 rfl ?_
            refine U_getIx (x := x1) dX8_advance_158 fl_X8_26 s_1 rfl rfl ?_
            refine V_iconst (v := (1 : Int32)) dX8_advance_161 rfl ?_
            refine V_iadd dX8_advance_162 ?_
            refine U_putI dX8_advance_163 fp_X8_19 s_1 rfl ?_
            refine V_aload_n dX8_advance_166 rfl ?_
            refine V_iconst (v := (0 : Int32)) dX8_advance_167 rfl ?_
            refine U_putI dX8_advance_168 fp_X8_36 s_1 rfl ?_
            refine V_aload_n dX8_advance_171 rfl ?_
            refine U_getIx (x := x1) dX8_advance_172 fl_X8_26 s_1 rfl rfl ?_
            refine U_istore_n (L2 := [.ref 1, .int (byt (upI I2 1 4 x1) x1), .int x1]) dX8_advance_175 (by decide) rfl ?_
            exact V_wk (wk_eq (wk_j (wk_eq (wk_nil)))) k
          refine V_icmp_ne dX8_advance_145 (fun c4013 => ?_) (fun c4013 => ?_)
          · refine V_iconst (v := (4 : Int32)) dX8_advance_152 rfl ?_
            exact key2011 _ (by rw [if_pos c4013])
          · refine V_iconst (v := (3 : Int32)) dX8_advance_148 rfl ?_
            refine V_goto dX8_advance_149 ?_
            exact key2011 _ (by rw [if_neg (not_not_intro c4013)])
        · have k := k.2 c2010
          refine V_aload_n dX8_advance_100 rfl ?_
          refine V_aload_n dX8_advance_101 rfl ?_
          refine V_aload_n dX8_advance_102 rfl ?_
          refine U_getIx (x := x1) dX8_advance_103 fl_X8_26 s_1 rfl rfl ?_
          refine V_bipush (v := (48 : Int32)) dX8_advance_106 rfl ?_
          refine V_bipush (v := (57 : Int32)) dX8_advance_108 rfl ?_
          refine U_callV1 [.int x1, .int (48 : Int32), .int (57 : Int32)] dX8_advance_110 ov_X8_22 s_1 rfl ⟨rfl, rfl, rfl⟩ rfl rfl rfl (CallI_mono k (fun x4014 I4015 J4016 k => ?_))
          refine U_putI dX8_advance_113 fp_X8_19 s_1 rfl ?_
          refine V_aload_n dX8_advance_116 rfl ?_
          refine V_aload_n dX8_advance_117 rfl ?_
          refine U_getIx (x := x4014) dX8_advance_118 fl_X8_19 s_1 rfl rfl ?_
          refine V_aload_n dX8_advance_121 rfl ?_
          refine U_getIx (x := I4015 1 4) dX8_advance_122 fl_X8_26 s_1 rfl rfl ?_
          refine V_isub dX8_advance_125 ?_
          refine V_iconst (v := (3 : Int32)) dX8_advance_126 rfl ?_
          have key4017 : ∀ (y6018 : Int32), y6018 = (if (x4014 - (I4015 1 4)) ≤ (3 : Int32) then (2 : Int32) else (4 : Int32)) → V E mX8_advance (kV SH P) 135 [.ref 1, .int (byt (upI I2 1 4 x1) x1), .retAddr 0] [.int y6018, .ref 1] (SH, upI I4015 1 2 x4014, J4016) (0, 0) := by
            intro y6018 ey6018
            subst ey6018
            refine U_putI dX8_advance_135 fp_X8_33 s_1 rfl ?_
            refine V_goto dX8_advance_138 ?_
            refine V_aload_n dX8_advance_166 rfl ?_
            refine V_iconst (v := (0 : Int32)) dX8_advance_167 rfl ?_
            refine U_putI dX8_advance_168 fp_X8_36 s_1 rfl ?_
            refine V_aload_n dX8_advance_171 rfl ?_
            refine U_getIx (x := I4015 1 4) dX8_advance_172 fl_X8_26 s_1 rfl rfl ?_
            refine U_istore_n (L2 := [.ref 1, .int (byt (upI I2 1 4 x1) x1), .int (I4015 1 4)]) dX8_advance_175 (by decide) rfl ?_
            exact V_wk (wk_eq (wk_j (wk_eq (wk_nil)))) k
          refine V_icmp_le dX8_advance_127 (fun c6019 => ?_) (fun c6019 => ?_)
          · refine V_iconst (v := (2 : Int32)) dX8_advance_134 rfl ?_
            exact key4017 _ (by rw [if_pos c6019])
          · refine V_iconst (v := (4 : Int32)) dX8_advance_130 rfl ?_
            refine V_goto dX8_advance_131 ?_
            exact key4017 _ (by rw [if_neg c6019])
    · have k := k.2 c5
      refine V_iload_n dX8_advance_58 rfl ?_
      refine V_bipush (v := (122 : Int32)) dX8_advance_59 rfl ?_
      refine V_icmp_gt dX8_advance_61 (fun c6020 => ?_) (fun c6020 => ?_)
      · have k := k.1 c6020
        refine V_iload_n dX8_advance_88 rfl ?_
        refine V_bipush (v := (48 : Int32)) dX8_advance_89 rfl ?_
        refine V_icmp_lt dX8_advance_91 (fun c6021 => ?_) (fun c6021 => ?_)
        · have k := k.1 c6021
          refine V_aload_n dX8_advance_141 rfl ?_
          refine V_iload_n dX8_advance_142 rfl ?_
          refine V_bipush (v := (59 : Int32)) dX8_advance_143 rfl ?_
          have key6022 : ∀ (y8023 : Int32), y8023 = (if ¬ (byt (upI I2 1 4 x1) x1) = (59 : Int32) then (4 : Int32) else (3 : Int32)) → V E mX8_advance (kV SH P) 153 [.ref 1, .int (byt (upI I2 1 4 x1) x1), .retAddr 0] [.int y8023, .ref 1] (SH, upI I2 1 4 x1, J3) (0, 0) := by
            intro y8023 ey8023
            subst ey8023
            refine U_putI dX8_advance_153 fp_X8_33 s_1 rfl ?_
            refine V_aload_n dX8_advance_156 rfl ?_
            refine V_aload_n dX8_advance_157 rfl ?_
            refine U_getIx (x := x1) dX8_advance_158 fl_X8_26 s_1 rfl rfl ?_
            refine V_iconst (v := (1 : Int32)) dX8_advance_161 rfl ?_
            refine V_iadd dX8_advance_162 ?_
            refine U_putI dX8_advance_163 fp_X8_19 s_1 rfl ?_
            refine V_aload_n dX8_advance_166 rfl ?_
            refine V_iconst (v := (0 : Int32)) dX8_advance_167 rfl ?_
            refine U_putI dX8_advance_168 fp_X8_36 s_1 rfl ?_
            refine V_aload_n dX8_advance_171 rfl ?_
            refine U_getIx (x := x1) dX8_advance_172 fl_X8_26 s_1 rfl rfl ?_
            refine U_istore_n (L2 := [.ref 1, .int (byt (upI I2 1 4 x1) x1), .int x1]) dX8_advance_175 (by decide) rfl ?_
            exact V_wk (wk_eq (wk_j (wk_eq (wk_nil)))) k
          refine V_icmp_ne dX8_advance_145 (fun c8024 => ?_) (fun c8024 => ?_)
          · refine V_iconst (v := (4 : Int32)) dX8_advance_152 rfl ?_
            exact key6022 _ (by rw [if_pos c8024])
          · refine V_iconst (v := (3 : Int32)) dX8_advance_148 rfl ?_
            refine V_goto dX8_advance_149 ?_
            exact key6022 _ (by rw [if_neg (not_not_intro c8024)])
        · have k := k.2 c6021
          refine V_iload_n dX8_advance_94 rfl ?_
          refine V_bipush (v := (57 : Int32)) dX8_advance_95 rfl ?_
          refine V_icmp_gt dX8_advance_97 (fun c8025 => ?_) (fun c8025 => ?_)
          · have k := k.1 c8025
            refine V_aload_n dX8_advance_141 rfl ?_
            refine V_iload_n dX8_advance_142 rfl ?_
            refine V_bipush (v := (59 : Int32)) dX8_advance_143 rfl ?_
            have key8026 : ∀ (y10027 : Int32), y10027 = (if ¬ (byt (upI I2 1 4 x1) x1) = (59 : Int32) then (4 : Int32) else (3 : Int32)) → V E mX8_advance (kV SH P) 153 [.ref 1, .int (byt (upI I2 1 4 x1) x1), .retAddr 0] [.int y10027, .ref 1] (SH, upI I2 1 4 x1, J3) (0, 0) := by
              intro y10027 ey10027
              subst ey10027
              refine U_putI dX8_advance_153 fp_X8_33 s_1 rfl ?_
              refine V_aload_n dX8_advance_156 rfl ?_
              refine V_aload_n dX8_advance_157 rfl ?_
              refine U_getIx (x := x1) dX8_advance_158 fl_X8_26 s_1 rfl rfl ?_
              refine V_iconst (v := (1 : Int32)) dX8_advance_161 rfl ?_
              refine V_iadd dX8_advance_162 ?_
              refine U_putI dX8_advance_163 fp_X8_19 s_1 rfl ?_
              refine V_aload_n dX8_advance_166 rfl ?_
              refine V_iconst (v := (0 : Int32)) dX8_advance_167 rfl ?_
              refine U_putI dX8_advance_168 fp_X8_36 s_1 rfl ?_
              refine V_aload_n dX8_advance_171 rfl ?_
              refine U_getIx (x := x1) dX8_advance_172 fl_X8_26 s_1 rfl rfl ?_
              refine U_istore_n (L2 := [.ref 1, .int (byt (upI I2 1 4 x1) x1), .int x1]) dX8_advance_175 (by decide) rfl ?_
              exact V_wk (wk_eq (wk_j (wk_eq (wk_nil)))) k
            refine V_icmp_ne dX8_advance_145 (fun c10028 => ?_) (fun c10028 => ?_)
            · refine V_iconst (v := (4 : Int32)) dX8_advance_152 rfl ?_
              exact key8026 _ (by rw [if_pos c10028])
            · refine V_iconst (v := (3 : Int32)) dX8_advance_148 rfl ?_
              refine V_goto dX8_advance_149 ?_
              exact key8026 _ (by rw [if_neg (not_not_intro c10028)])
          · have k := k.2 c8025
            refine V_aload_n dX8_advance_100 rfl ?_
            refine V_aload_n dX8_advance_101 rfl ?_
            refine V_aload_n dX8_advance_102 rfl ?_
            refine U_getIx (x := x1) dX8_advance_103 fl_X8_26 s_1 rfl rfl ?_
            refine V_bipush (v := (48 : Int32)) dX8_advance_106 rfl ?_
            refine V_bipush (v := (57 : Int32)) dX8_advance_108 rfl ?_
            refine U_callV1 [.int x1, .int (48 : Int32), .int (57 : Int32)] dX8_advance_110 ov_X8_22 s_1 rfl ⟨rfl, rfl, rfl⟩ rfl rfl rfl (CallI_mono k (fun x10029 I10030 J10031 k => ?_))
            refine U_putI dX8_advance_113 fp_X8_19 s_1 rfl ?_
            refine V_aload_n dX8_advance_116 rfl ?_
            refine V_aload_n dX8_advance_117 rfl ?_
            refine U_getIx (x := x10029) dX8_advance_118 fl_X8_19 s_1 rfl rfl ?_
            refine V_aload_n dX8_advance_121 rfl ?_
            refine U_getIx (x := I10030 1 4) dX8_advance_122 fl_X8_26 s_1 rfl rfl ?_
            refine V_isub dX8_advance_125 ?_
            refine V_iconst (v := (3 : Int32)) dX8_advance_126 rfl ?_
            have key10032 : ∀ (y12033 : Int32), y12033 = (if (x10029 - (I10030 1 4)) ≤ (3 : Int32) then (2 : Int32) else (4 : Int32)) → V E mX8_advance (kV SH P) 135 [.ref 1, .int (byt (upI I2 1 4 x1) x1), .retAddr 0] [.int y12033, .ref 1] (SH, upI I10030 1 2 x10029, J10031) (0, 0) := by
              intro y12033 ey12033
              subst ey12033
              refine U_putI dX8_advance_135 fp_X8_33 s_1 rfl ?_
              refine V_goto dX8_advance_138 ?_
              refine V_aload_n dX8_advance_166 rfl ?_
              refine V_iconst (v := (0 : Int32)) dX8_advance_167 rfl ?_
              refine U_putI dX8_advance_168 fp_X8_36 s_1 rfl ?_
              refine V_aload_n dX8_advance_171 rfl ?_
              refine U_getIx (x := I10030 1 4) dX8_advance_172 fl_X8_26 s_1 rfl rfl ?_
              refine U_istore_n (L2 := [.ref 1, .int (byt (upI I2 1 4 x1) x1), .int (I10030 1 4)]) dX8_advance_175 (by decide) rfl ?_
              exact V_wk (wk_eq (wk_j (wk_eq (wk_nil)))) k
            refine V_icmp_le dX8_advance_127 (fun c12034 => ?_) (fun c12034 => ?_)
            · refine V_iconst (v := (2 : Int32)) dX8_advance_134 rfl ?_
              exact key10032 _ (by rw [if_pos c12034])
            · refine V_iconst (v := (4 : Int32)) dX8_advance_130 rfl ?_
              refine V_goto dX8_advance_131 ?_
              exact key10032 _ (by rw [if_neg c12034])
      · have k := k.2 c6020
        refine V_aload_n dX8_advance_64 rfl ?_
        refine V_iconst (v := (1 : Int32)) dX8_advance_65 rfl ?_
        refine U_putI dX8_advance_66 fp_X8_33 s_1 rfl ?_
        refine V_aload_n dX8_advance_69 rfl ?_
        refine V_aload_n dX8_advance_70 rfl ?_
        refine V_aload_n dX8_advance_71 rfl ?_
        refine U_getIx (x := x1) dX8_advance_72 fl_X8_26 s_1 rfl rfl ?_
        refine V_bipush (v := (97 : Int32)) dX8_advance_75 rfl ?_
        refine V_bipush (v := (122 : Int32)) dX8_advance_77 rfl ?_
        refine U_callV1 [.int x1, .int (97 : Int32), .int (122 : Int32)] dX8_advance_79 ov_X8_22 s_1 rfl ⟨rfl, rfl, rfl⟩ rfl rfl rfl (CallI_mono k (fun x12035 I12036 J12037 k => ?_))
        refine U_putI dX8_advance_82 fp_X8_19 s_1 rfl ?_
        refine V_goto dX8_advance_85 ?_
        refine V_aload_n dX8_advance_166 rfl ?_
        refine V_iconst (v := (0 : Int32)) dX8_advance_167 rfl ?_
        refine U_putI dX8_advance_168 fp_X8_36 s_1 rfl ?_
        refine V_aload_n dX8_advance_171 rfl ?_
        refine U_getIx (x := I12036 1 4) dX8_advance_172 fl_X8_26 s_1 rfl rfl ?_
        refine U_istore_n (L2 := [.ref 1, .int (byt (upI I2 1 4 x1) x1), .int (I12036 1 4)]) dX8_advance_175 (by decide) rfl ?_
        exact V_wk (wk_eq (wk_j (wk_eq (wk_nil)))) k
  · have k := k.2 c4
    refine V_aload_n dX8_advance_36 rfl ?_
    refine V_iconst (v := (0 : Int32)) dX8_advance_37 rfl ?_
    refine U_putI dX8_advance_38 fp_X8_33 s_1 rfl ?_
    refine V_aload_n dX8_advance_41 rfl ?_
    refine V_aload_n dX8_advance_42 rfl ?_
    refine U_getIx (x := x1) dX8_advance_43 fl_X8_26 s_1 rfl rfl ?_
    refine U_putI dX8_advance_46 fp_X8_19 s_1 rfl ?_
    refine V_goto dX8_advance_49 ?_
    refine V_aload_n dX8_advance_166 rfl ?_
    refine V_iconst (v := (0 : Int32)) dX8_advance_167 rfl ?_
    refine U_putI dX8_advance_168 fp_X8_36 s_1 rfl ?_
    refine V_aload_n dX8_advance_171 rfl ?_
    refine U_getIx (x := x1) dX8_advance_172 fl_X8_26 s_1 rfl rfl ?_
    refine U_istore_n (L2 := [.ref 1, .int (byt (upI I2 1 4 x1) x1), .int x1]) dX8_advance_175 (by decide) rfl ?_
    exact V_wk (wk_eq (wk_j (wk_eq (wk_nil)))) k
set_option maxHeartbeats 4000000 in
set_option maxRecDepth 20000 in
theorem wX8_advance_176 {E : aE} {P : hI_ → hJ_ → Prop} {I : hI_} {J : hJ_} {v2 : Int32} (k : ((¬ (I 1 3) = (2 : Int32) → P I J) ∧ ((I 1 3) = (2 : Int32) → (((I 1 2) ≤ v2 → P I J) ∧ (¬ ((I 1 2) ≤ v2) → HX8_advance_176 E P (v2 + (1 : Int32)) (upI I 1 5 ((((I 1 5) * (10 : Int32)) + (byt I v2)) - (48 : Int32))) J))))) : HX8_advance_176 E P v2 I J := by
  show V E mX8_advance (kV SH P) 176 [.ref 1, .retAddr 0, .int v2] [] (SH, I, J) (0, 0)
  refine V_aload_n dX8_advance_176 rfl ?_
  refine U_getI dX8_advance_177 fl_X8_33 s_1 rfl ?_
  refine V_iconst (v := (2 : Int32)) dX8_advance_180 rfl ?_
  refine V_icmp_ne dX8_advance_181 (fun c1 => ?_) (fun c1 => ?_)
  · have k := k.1 c1
    exact V_vret dX8_advance_218 rfl rfl rfl ⟨_, _, rfl, k⟩
  · have k := k.2 c1
    refine V_iload_n dX8_advance_184 rfl ?_
    refine V_aload_n dX8_advance_185 rfl ?_
    refine U_getI dX8_advance_186 fl_X8_19 s_1 rfl ?_
    refine V_icmp_ge dX8_advance_189 (fun c2 => ?_) (fun c2 => ?_)
    · have k := k.1 c2
      exact V_vret dX8_advance_218 rfl rfl rfl ⟨_, _, rfl, k⟩
    · have k := k.2 c2
      refine V_aload_n dX8_advance_192 rfl ?_
      refine V_aload_n dX8_advance_193 rfl ?_
      refine U_getI dX8_advance_194 fl_X8_36 s_1 rfl ?_
      refine V_bipush (v := (10 : Int32)) dX8_advance_197 rfl ?_
      refine V_imul dX8_advance_199 ?_
      refine V_aload_n dX8_advance_200 rfl ?_
      refine V_iload_n dX8_advance_201 rfl ?_
      refine U_callV1 [.int v2] dX8_advance_202 ov_X8_29 s_1 rfl ⟨rfl, rfl, rfl⟩ rfl rfl rfl (tX8_byteAt ?_)
      refine V_iadd dX8_advance_205 ?_
      refine V_bipush (v := (48 : Int32)) dX8_advance_206 rfl ?_
      refine V_isub dX8_advance_208 ?_
      refine U_putI dX8_advance_209 fp_X8_36 s_1 rfl ?_
      refine U_iinc (v := v2 + (1 : Int32)) (L2 := [.ref 1, .retAddr 0, .int (v2 + (1 : Int32))]) dX8_advance_212 (by decide) rfl rfl rfl ?_
      refine V_goto dX8_advance_215 ?_
      exact k
theorem val_loop {E : aE} {P : hI_ → hJ_ → Prop} {n : Nat} {B : Nat → Nat} {I0 : hI_} {J : hJ_} {s e : Nat} (h : XB n B I0) (he : e ≤ n) (hd : ∀ i, s ≤ i → i < e → isC 48 57 B i = true) (h3 : I0 1 3 = 2) (h2 : I0 1 2 = nI e) (k : P (upI I0 1 5 (nI (vl B s (e - s)))) J) : ∀ (m i : Nat) (I : hI_), s ≤ i → i + m = e → I = upI I0 1 5 (nI (vl B s (i - s))) → HX8_advance_176 E P (nI i) I J
  | 0, i, I, hs, hi, hI => by
    have hn := h.2.1
    have e2 : I 1 2 = nI e := by rw [hI, upI_at, if_neg (by omega)]; exact h2
    refine wX8_advance_176 ⟨fun z => absurd (by rw [hI, upI_at, if_neg (by omega)]; exact h3) z, fun _ => ?_⟩
    rw [e2]
    refine ⟨fun _ => ?_, fun z => absurd (nI_le (by omega) (by omega)) z⟩
    rw [hI, show i = e by omega]; exact k
  | m + 1, i, I, hs, hi, hI => by
    have hn := h.2.1
    have e2 : I 1 2 = nI e := by rw [hI, upI_at, if_neg (by omega)]; exact h2
    have e5 : I 1 5 = nI (vl B s (i - s)) := by rw [hI]; exact upI_same
    have hB : XB n B I := ⟨by rw [hI, upI_at, if_neg (by omega)]; exact h.1, h.2.1, by rw [show I 2 = I0 2 from by rw [hI]; rfl]; exact h.2.2⟩
    have dc := of_decide_eq_true (hd i hs (by omega))
    refine wX8_advance_176 ⟨fun z => absurd (by rw [hI, upI_at, if_neg (by omega)]; exact h3) z, fun _ => ?_⟩
    rw [e2, e5, byt_N hB (show i < n by omega), nI_1 i]
    refine ⟨fun z => absurd z (nI_ge (by omega) (by omega)), fun _ => ?_⟩
    refine val_loop h he hd h3 h2 k m (i + 1) _ (by omega) (by omega) ?_
    have ec : cbt (B i) = nI (B i) := (cbt_eq (hB.2.2 i (by omega)).2 (show B i < 128 by omega)).mpr rfl
    have ev : vl B s (i + 1 - s) = vl B s (i - s) * 10 + (B i - 48) := by
      rw [show i + 1 - s = (i - s) + 1 by omega]
      have e1 : vl B s (i - s + 1) = vl B s (i - s) * 10 + (B (s + (i - s)) - 48) := rfl
      rw [e1, show s + (i - s) = i by omega]
    rw [ec, ev, show (10 : Int32) = nI 10 from rfl, show (48 : Int32) = nI 48 from rfl, pk_mul, nI_add, nI_sub (by omega), hI, show vl B s (i - s) * 10 + B i - 48 = vl B s (i - s) * 10 + (B i - 48) by omega]
    funext a j
    by_cases z : a = 1 ∧ j = 5
    · rw [upI_at, if_pos z, upI_at, if_pos z]
    · rw [upI_at, if_neg z, upI_at, if_neg z, upI_at, if_neg z]
theorem tX8_advance {E : aE} {P : hI_ → hJ_ → Prop} {n : Nat} {B : Nat → Nat} {I : hI_} {J : hJ_} {k : Nat} (h : XB n B I) (h2 : I 1 2 = nI k) (hk : k ≤ n) (kk : ∀ I2, (∀ a, a ≠ 1 → I2 a = I a) → I2 1 1 = I 1 1 → XT n B k I2 → P I2 J) : CallV E mX8_advance [.ref 1] SH I J P := by
  have hn := h.2.1
  have hs := tS_b (B := B) hk
  have tb_ := tE_b (B := B) hk
  -- all that is written lies in cell 1
  have fin : ∀ (I2 : hI_), (∀ a, a ≠ 1 → I2 a = I a) → I2 1 1 = I 1 1 → I2 1 2 = nI (tE n B k) → I2 1 3 = nI (tK n B k) → I2 1 4 = nI (tS n B k) → tK n B k ≠ 2 → I2 1 5 = 0 → HX8_advance_176 E P (nI (tS n B k)) I2 J := fun I2 q1 q2 q3 q4 q5 q6 q7 => by
    have l4 : tK n B k ≤ 4 := by
      unfold tK tkd
      split
      · omega
      · split
        · omega
        · split
          · split <;> omega
          · split <;> omega
    refine wX8_advance_176 ⟨fun _ => kk I2 q1 q2 ⟨q3, q4, q5, ?_⟩, fun z => ?_⟩
    · unfold tV; rw [if_neg q6]; exact q7
    · rw [q4] at z
      exact absurd ((nI_eqI (b := 2) (by omega) (by omega)).mp z) q6
  refine wX8_advance ?_
  rw [h2]
  refine tX8_endOfRun (lo := 32) (hi := 32) h (by omega) (by omega) hk ?_
  show (nI (tS n B k) < I 1 1 → _) ∧ _
  rw [h.1]
  refine ⟨fun z => ?_, fun z => ?_⟩
  · have z : tS n B k < n := (nI_ltJ (by omega) (by omega)).mp z
    have hB4 : ∀ v : Int32, XB n B (upI I 1 4 v) := fun v => ⟨by rw [upI_at, if_neg (by omega)]; exact h.1, h.2.1, h.2.2⟩
    have bb := (h.2.2 _ z).2
    have hby : byt (upI I 1 4 (nI (tS n B k))) (nI (tS n B k)) = cbt (B (tS n B k)) := byt_N (hB4 _) z
    have nz : ¬ tS n B k = n := by omega
    have c97 := cbt_lt (c := 97) bb (by omega)
    have c122 := cbt_gt (c := 122) bb (by omega)
    have c48 := cbt_lt (c := 48) bb (by omega)
    have c57 := cbt_gt (c := 57) bb (by omega)
    have c59 : (cbt (B (tS n B k)) = 59) ↔ B (tS n B k) = 59 := cbt_eq (c := 59) bb (by omega)
    -- a sign or a wrong one
    have other : ¬ isC 97 122 B (tS n B k) = true → ¬ isC 48 57 B (tS n B k) = true → HX8_advance_176 E P (nI (tS n B k)) (upI (upI (upI (upI I 1 4 (nI (tS n B k))) 1 3 (if ¬ cbt (B (tS n B k)) = 59 then 4 else 3)) 1 2 (nI (tS n B k) + 1)) 1 5 0) J := fun w1 w2 => by
      have ek : tK n B k = if B (tS n B k) = 59 then 3 else 4 := by unfold tK tkd; rw [if_neg nz, if_neg w1, if_neg w2]
      have ee : tE n B k = tS n B k + 1 := by unfold tE ten; rw [if_neg nz, if_neg w1, if_neg w2]
      refine fin _ (fun a ha => ?_) ?_ ?_ ?_ ?_ ?_ upI_same
      · funext j; rw [upI_at, if_neg (fun y => ha y.1), upI_at, if_neg (fun y => ha y.1), upI_at, if_neg (fun y => ha y.1), upI_at, if_neg (fun y => ha y.1)]
      · rw [upI_at, if_neg (by omega), upI_at, if_neg (by omega), upI_at, if_neg (by omega), upI_at, if_neg (by omega)]
      · rw [upI_at, if_neg (by omega), upI_at, if_pos ⟨rfl, rfl⟩, ee, nI_1]
      · rw [upI_at, if_neg (by omega), upI_at, if_neg (by omega), upI_at, if_pos ⟨rfl, rfl⟩, ek]
        by_cases y : B (tS n B k) = 59
        · rw [if_neg (fun v => v (c59.mpr y)), if_pos y]; rfl
        · rw [if_pos (fun v => y (c59.mp v)), if_neg y]; rfl
      · rw [upI_at, if_neg (by omega), upI_at, if_neg (by omega), upI_at, if_neg (by omega), upI_at, if_pos ⟨rfl, rfl⟩]
      · rw [ek]; split <;> omega
    -- a number
    have num : ¬ isC 97 122 B (tS n B k) = true → isC 48 57 B (tS n B k) = true → CallI E mX8_endOfRun [.ref 1, .int (nI (tS n B k)), .int (48), .int (57)] SH (upI I 1 4 (nI (tS n B k))) J (fun x4014 I4015 J4016 => HX8_advance_176 E P (I4015 1 4) (upI (upI (upI I4015 1 2 x4014) 1 3 (if (x4014 - (I4015 1 4)) ≤ (3) then (2) else (4))) 1 5 0) J4016) := fun w1 w2 => by
      refine tX8_endOfRun (lo := 48) (hi := 57) (hB4 _) (by omega) (by omega) hs.2 ?_
      have g4 : (upI I 1 4 (nI (tS n B k))) 1 4 = nI (tS n B k) := upI_same
      show HX8_advance_176 E P ((upI I 1 4 (nI (tS n B k))) 1 4) (upI (upI (upI (upI I 1 4 (nI (tS n B k))) 1 2 (nI (tG n B (tS n B k)))) 1 3 (if (nI (tG n B (tS n B k)) - ((upI I 1 4 (nI (tS n B k))) 1 4)) ≤ (3) then (2) else (4))) 1 5 0) J
      have gg := opn_ge (c := isC 48 57 B) (n - tS n B k) (tS n B k)
      have gl := opn_le (c := isC 48 57 B) (n - tS n B k) (tS n B k)
      have gG0 : tS n B k ≤ tG n B (tS n B k) ∧ tG n B (tS n B k) ≤ n := by unfold tG; omega
      have ek : tK n B k = if tG n B (tS n B k) - tS n B k ≤ 3 then 2 else 4 := by unfold tK tkd; rw [if_neg nz, if_neg w1, if_pos w2]
      have ee : tE n B k = tG n B (tS n B k) := by unfold tE ten; rw [if_neg nz, if_neg w1, if_pos w2]
      rw [g4, nI_sub gG0.1]
      generalize hF : upI (upI (upI (upI I 1 4 (nI (tS n B k))) 1 2 (nI (tG n B (tS n B k)))) 1 3 (if nI (tG n B (tS n B k) - tS n B k) ≤ (3 : Int32) then (2 : Int32) else 4)) 1 5 0 = F
      have F1 : ∀ a, a ≠ 1 → F a = I a := fun a ha => by
        rw [← hF]; funext j; rw [upI_at, if_neg (fun y => ha y.1), upI_at, if_neg (fun y => ha y.1), upI_at, if_neg (fun y => ha y.1), upI_at, if_neg (fun y => ha y.1)]
      have F2 : F 1 1 = I 1 1 := by rw [← hF, upI_at, if_neg (by omega), upI_at, if_neg (by omega), upI_at, if_neg (by omega), upI_at, if_neg (by omega)]
      have F3 : F 1 2 = nI (tE n B k) := by rw [← hF, upI_at, if_neg (by omega), upI_at, if_neg (by omega), upI_at, if_pos ⟨rfl, rfl⟩, ee]
      have F4 : F 1 3 = nI (tK n B k) := by
        rw [← hF, upI_at, if_neg (by omega), upI_at, if_pos ⟨rfl, rfl⟩, ek]
        by_cases y : tG n B (tS n B k) - tS n B k ≤ 3
        · rw [if_pos y, if_pos (show nI _ ≤ (3 : Int32) from nI_le (b := 3) y (by omega))]; rfl
        · rw [if_neg y, if_neg (show ¬ nI _ ≤ (3 : Int32) from nI_ge (a := 3) (by omega) (by omega))]; rfl
      have F5 : F 1 4 = nI (tS n B k) := by rw [← hF, upI_at, if_neg (by omega), upI_at, if_neg (by omega), upI_at, if_neg (by omega), upI_at, if_pos ⟨rfl, rfl⟩]
      have F6 : F 1 5 = 0 := by rw [← hF]; exact upI_same
      by_cases y : tK n B k = 2
      · have hBF : XB n B F := ⟨F2.trans h.1, h.2.1, by rw [F1 2 (by omega)]; exact h.2.2⟩
        refine val_loop (s := tS n B k) (e := tE n B k) hBF tb_.2.1 (fun i h1 h3 => opn_all (c := isC 48 57 B) (n - tS n B k) (tS n B k) i h1 (by rw [ee] at h3; exact h3)) (by rw [F4, y]; rfl) F3 ?_ (tE n B k - tS n B k) (tS n B k) F (Nat.le_refl _) (by omega) ?_
        · refine kk _ (fun a ha => ?_) ?_ ⟨?_, ?_, ?_, ?_⟩
          · rw [← F1 a ha]; funext j; rw [upI_at, if_neg (fun w => ha w.1)]
          · rw [upI_at, if_neg (by omega)]; exact F2
          · rw [upI_at, if_neg (by omega)]; exact F3
          · rw [upI_at, if_neg (by omega)]; exact F4
          · rw [upI_at, if_neg (by omega)]; exact F5
          · rw [upI_at, if_pos ⟨rfl, rfl⟩]; unfold tV; rw [if_pos y]
        · funext a j
          rw [Nat.sub_self, upI_at]
          by_cases w : a = 1 ∧ j = 5
          · rw [if_pos w, w.1, w.2]; exact F6
          · rw [if_neg w]
      · exact fin F F1 F2 F3 F4 F5 y F6
    have hby2 : byt (upI I 1 4 (nI (opn (isC 32 32 B) (n - k) k))) (nI (opn (isC 32 32 B) (n - k) k)) = cbt (B (tS n B k)) := hby
    rw [hby2]
    have iL : isC 97 122 B (tS n B k) = true ↔ (97 ≤ B (tS n B k) ∧ B (tS n B k) ≤ 122) := decide_eq_true_iff
    have iD : isC 48 57 B (tS n B k) = true ↔ (48 ≤ B (tS n B k) ∧ B (tS n B k) ≤ 57) := decide_eq_true_iff
    refine ⟨fun y1 => ⟨fun y2 => other ?_ ?_, fun y2 => ⟨fun y3 => other ?_ ?_, fun y3 => num ?_ ?_⟩⟩, fun y1 => ⟨fun y2 => ⟨fun y3 => other ?_ ?_, fun y3 => ⟨fun y4 => other ?_ ?_, fun y4 => num ?_ ?_⟩⟩, fun y2 => ?_⟩⟩
    · have y1 := c97.mp y1; rw [iL]; omega
    · have y2 := c48.mp y2; rw [iD]; omega
    · have y1 := c97.mp y1; rw [iL]; omega
    · have y3 := c57.mp y3; rw [iD]; omega
    · have y1 := c97.mp y1; rw [iL]; omega
    · have y1 := c97.mp y1
      have y2 : ¬ (B (tS n B k) < 48 ∨ 128 ≤ B (tS n B k)) := fun q => y2 (c48.mpr q)
      have y3 : ¬ (57 < B (tS n B k) ∧ B (tS n B k) < 128) := fun q => y3 (c57.mpr q)
      rw [iD]; omega
    · have y2 := c122.mp y2; rw [iL]; omega
    · have y2 := c122.mp y2; rw [iD]; omega
    · have y2 := c122.mp y2; rw [iL]; omega
    · have y2 := c122.mp y2; rw [iD]; omega
    · have y2 := c122.mp y2; rw [iL]; omega
    · have y2 := c122.mp y2
      have y4 : ¬ (57 < B (tS n B k) ∧ B (tS n B k) < 128) := fun q => y4 (c57.mpr q)
      rw [iD]; omega
    · have y1 : ¬ (B (tS n B k) < 97 ∨ 128 ≤ B (tS n B k)) := fun q => y1 (c97.mpr q)
      have y2 : ¬ (122 < B (tS n B k) ∧ B (tS n B k) < 128) := fun q => y2 (c122.mpr q)
      have w1 : isC 97 122 B (tS n B k) = true := by rw [iL]; omega
      have ek : tK n B k = 1 := by unfold tK tkd; rw [if_neg nz, if_pos w1]
      have ee : tE n B k = tL n B (tS n B k) := by unfold tE ten; rw [if_neg nz, if_pos w1]
      have hB43 : XB n B (upI (upI I 1 4 (nI (tS n B k))) 1 3 1) := ⟨by rw [upI_at, if_neg (by omega), upI_at, if_neg (by omega)]; exact h.1, h.2.1, h.2.2⟩
      refine tX8_endOfRun (lo := 97) (hi := 122) hB43 (by omega) (by omega) hs.2 ?_
      have g4 : (upI (upI I 1 4 (nI (tS n B k))) 1 3 1) 1 4 = nI (tS n B k) := by rw [upI_at, if_neg (by omega)]; exact upI_same
      show HX8_advance_176 E P ((upI (upI I 1 4 (nI (tS n B k))) 1 3 1) 1 4) (upI (upI (upI (upI I 1 4 (nI (tS n B k))) 1 3 1) 1 2 (nI (tL n B (tS n B k)))) 1 5 0) J
      rw [g4]
      refine fin _ (fun a ha => ?_) ?_ ?_ ?_ ?_ (by omega) upI_same
      · funext j; rw [upI_at, if_neg (fun y => ha y.1), upI_at, if_neg (fun y => ha y.1), upI_at, if_neg (fun y => ha y.1), upI_at, if_neg (fun y => ha y.1)]
      · rw [upI_at, if_neg (by omega), upI_at, if_neg (by omega), upI_at, if_neg (by omega), upI_at, if_neg (by omega)]
      · rw [upI_at, if_neg (by omega), upI_at, if_pos ⟨rfl, rfl⟩, ee]
      · rw [upI_at, if_neg (by omega), upI_at, if_neg (by omega), upI_at, if_pos ⟨rfl, rfl⟩, ek]; rfl
      · rw [upI_at, if_neg (by omega), upI_at, if_neg (by omega), upI_at, if_neg (by omega), upI_at, if_pos ⟨rfl, rfl⟩]
  · have z : tS n B k = n := by
      rcases Nat.lt_or_ge (tS n B k) n with y | y
      · exact absurd (nI_lt y (by omega)) z
      · omega
    have ek : tK n B k = 0 := by unfold tK tkd; rw [if_pos z]
    have ee : tE n B k = tS n B k := by unfold tE ten; rw [if_pos z]; exact z.symm
    refine fin _ (fun a ha => ?_) ?_ ?_ ?_ ?_ (by omega) upI_same
    · funext j; rw [upI_at, if_neg (fun y => ha y.1), upI_at, if_neg (fun y => ha y.1), upI_at, if_neg (fun y => ha y.1), upI_at, if_neg (fun y => ha y.1)]
    · rw [upI_at, if_neg (by omega), upI_at, if_neg (by omega), upI_at, if_neg (by omega), upI_at, if_neg (by omega)]
    · rw [upI_at, if_neg (by omega), upI_at, if_pos ⟨rfl, rfl⟩, ee]; rfl
    · rw [upI_at, if_neg (by omega), upI_at, if_neg (by omega), upI_at, if_pos ⟨rfl, rfl⟩, ek]; rfl
    · rw [upI_at, if_neg (by omega), upI_at, if_neg (by omega), upI_at, if_neg (by omega), upI_at, if_pos ⟨rfl, rfl⟩]; rfl
