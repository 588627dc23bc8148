/-! THE RELATION of the class's cells and the model's -/
def RTape (l1 l2 : Int32) (b t : Nat → Int32) : Prop := l1 = l2 ∧ 0 ≤ l1.toInt ∧ l1.toInt ≤ 320 ∧ ∀ k : Nat, (k : Int) < l1.toInt → b k = (t k).toInt8.toInt32 ∧ 0 ≤ (t k).toInt ∧ (t k).toInt ≤ 255
def prN (a b : Nat) : Nat := if b ≤ a then b * 5 + a else a * 5 + b
theorem prN_sym (a b : Nat) : prN a b = prN b a := by
  unfold prN
  by_cases h : b ≤ a
  · by_cases h2 : a ≤ b
    · have : a = b := by omega
      subst this; rfl
    · rw [if_pos h, if_neg h2]
  · rw [if_neg h, if_pos (by omega)]
def shutB (ru sh : Nat → Int32) (a b t : Nat) : Bool := (List.range (ru 2).toInt.toNat).any (fun s => decide ((sh (4 * s) = nI a ∧ sh (4 * s + 1) = nI b) ∨ (sh (4 * s) = nI b ∧ sh (4 * s + 1) = nI a)) && decide ((sh (4 * s + 2)).toInt ≤ (t : Int) ∧ (t : Int) ≤ (sh (4 * s + 3)).toInt))
def wld (ru wy sh : Nat → Int32) : Wld := (fun a b => if a < 5 ∧ b < 5 then (wy (5 * a + b)).toInt.toNat else 0, shutB ru sh)
theorem shutB_iff {ru sh : Nat → Int32} {a b t : Nat} : shutB ru sh a b t = true ↔ ∃ s : Nat, s < (ru 2).toInt.toNat ∧ ((sh (4 * s) = nI a ∧ sh (4 * s + 1) = nI b) ∨ (sh (4 * s) = nI b ∧ sh (4 * s + 1) = nI a)) ∧ (sh (4 * s + 2)).toInt ≤ (t : Int) ∧ (t : Int) ≤ (sh (4 * s + 3)).toInt := by
  unfold shutB
  rw [List.any_eq_true]
  constructor
  · rintro ⟨s, h1, h2⟩
    simp only [Bool.and_eq_true, decide_eq_true_eq] at h2
    exact ⟨s, List.mem_range.mp h1, h2.1, h2.2⟩
  · rintro ⟨s, h1, h2, h3⟩
    exact ⟨s, List.mem_range.mpr h1, by simp only [Bool.and_eq_true, decide_eq_true_eq]; exact ⟨h2, h3⟩⟩
def bet (lo : Int) (x : Int32) (hi : Int) : Prop := lo ≤ x.toInt ∧ x.toInt ≤ hi
def RPlan (p pr mi sw sf st mv ru pr2 wy sh : Nat → Int32) : Prop :=
  (p 6 = ru 0 ∧ bet 0 (ru 0) 5) ∧ p 7 = ru 1 ∧ (p 8 = ru 2 ∧ bet 0 (ru 2) 12) ∧
  (mv 0 = ru 3 ∧ mv 1 = ru 4 ∧ mv 2 = ru 5) ∧ (bet 0 (ru 3) 4 ∧ bet 0 (ru 4) 4 ∧ bet 0 (ru 5) 4 ∧ 1 ≤ (ru 3).toInt + (ru 4).toInt + (ru 5).toInt) ∧
  (p 9 = ru 6 ∧ bet 0 (ru 6) 2) ∧ (p 10 = ru 7 ∧ bet 1 (ru 7) 999) ∧
  (∀ i : Nat, (i : Int) < (ru 0).toInt → pr i = pr2 i ∧ bet 1 (pr2 i) 999) ∧
  (∀ a b : Nat, a < 5 → b < 5 → mi (prN a b) = wy (5 * a + b) ∧ bet 0 (wy (5 * a + b)) 99 ∧ (0 < (wy (5 * a + b)).toInt → a ≠ b ∧ (a : Int) < (ru 0).toInt ∧ (b : Int) < (ru 0).toInt)) ∧
  (∀ s : Nat, (s : Int) < (ru 2).toInt → ∃ a b : Nat, a < 5 ∧ b < 5 ∧ a ≠ b ∧ sh (4 * s) = nI a ∧ sh (4 * s + 1) = nI b ∧ sw s = nI (prN a b) ∧ sf s = sh (4 * s + 2) ∧ st s = sh (4 * s + 3) ∧ 0 ≤ (sh (4 * s + 2)).toInt ∧ (sh (4 * s + 2)).toInt ≤ (sh (4 * s + 3)).toInt ∧ (sh (4 * s + 3)).toInt ≤ 999)
def rokF (f : Nat → Int32) (w m : Int32) : Prop := f 1 = w ∧ f 0 = m ∧ 0 ≤ f 3 ∧ f 3 ≤ m
def RSteps (a b S : Nat → Int32) (off : Nat) (np : Int) : Prop := a 3 = S (off + 280) ∧ ∀ k : Nat, (k : Int) < (a 3).toInt → (b (3 * k) = S (off + 3 * k) ∧ b (3 * k + 1) = S (off + 3 * k + 1) ∧ b (3 * k + 2) = S (off + 3 * k + 2)) ∧ bet 0 (b (3 * k)) (np - 1) ∧ bet 0 (b (3 * k + 1)) 999 ∧ bet 1 (b (3 * k + 2)) 999
def callB (b : Nat → Int32) (c : Nat) (np : Int) : Prop := bet 0 (b (8 * c)) (np - 1) ∧ bet 0 (b (8 * c + 1)) 999 ∧ bet 0 (b (8 * c + 2)) 1 ∧ bet 1 (b (8 * c + 3)) 999 ∧ bet 1 (b (8 * c + 4)) 99 ∧ bet 0 (b (8 * c + 5)) 2 ∧ (b (8 * c + 5) = 1 → bet (b (8 * c + 1)).toInt (b (8 * c + 6)) 999) ∧ (b (8 * c + 5) = 2 → bet 0 (b (8 * c + 6)) 999) ∧ (b (8 * c + 5) = 0 → b (8 * c + 6) = 0)
def RCalls (a b S : Nat → Int32) (off : Nat) (np : Int) : Prop := a 3 = S (off + 281) ∧ ∀ c : Nat, (c : Int) < (a 3).toInt → (∀ j, j < 7 → b (8 * c + j) = S (off + 72 + 8 * c + j)) ∧ callB b c np ∧ ((b (8 * c + 7) = -4 ∧ S (off + 72 + 8 * c + 7) = 0) ∨ (bet (b (8 * c + 1)).toInt (b (8 * c + 7)) 999 ∧ S (off + 72 + 8 * c + 7) = b (8 * c + 7) + 1))
def RDeals (a b S cb : Nat → Int32) (off : Nat) (np nc : Int) (w : Wld) : Prop := a 3 = S (off + 282) ∧ ∀ d : Nat, (d : Int) < (a 3).toInt → (∀ j, j < 4 → b (5 * d + j) = S (off + 170 + 4 * d + j)) ∧ ∃ p c m q t : Nat, b (5 * d) = nI p ∧ b (5 * d + 1) = nI c ∧ b (5 * d + 2) = nI m ∧ (p : Int) < np ∧ (c : Int) < nc ∧ m ≤ 999 ∧ bet 1 (b (5 * d + 3)) 99 ∧ cb (8 * c) = nI q ∧ q ≠ p ∧ (q : Int) < np ∧ cb (8 * c + 1) = nI t ∧ t ≤ 999 ∧ b (5 * d + 4) = nI (arr w p m q) ∧ arr w q t p ≤ m
def RLed (a1 b1 a2 b2 a3 b3 S : Nat → Int32) (off : Nat) (np : Int) (w : Wld) : Prop := RSteps a1 b1 S off np ∧ RCalls a2 b2 S off np ∧ RDeals a3 b3 S b2 off np (a2 3).toInt w
def RSheet (a b ln lt cl : Nat → Int32) (k : Nat) : Prop := ((a 1 = -1 ∧ ln k = -4) ∨ (a 1 = ln k ∧ bet 0 (ln k) 2)) ∧ a 2 = lt k ∧ bet 0 (lt k) 40 ∧ ∀ i : Nat, i < 40 → b i = cl (40 * k + i)
def cutsL : List Int32 := [0, 5, 8, 12, 17, 22, 26, 30, 34, 40]
def lettL : List Int32 := [112, 108, 97, 99, 101, 119, 97, 121, 115, 104, 117, 116, 109, 111, 118, 101, 115, 102, 105, 114, 115, 116, 109, 111, 115, 116, 115, 101, 110, 116, 110, 101, 97, 114, 110, 117, 109, 98, 101, 114]
def plaiL : List Int32 := [0, 0, 0, 1, 2, 1, 0, 999]
def RConst (c l p : Nat → Int32) : Prop := (∀ i, i < 10 → c i = cutsL.getD i 0) ∧ (∀ i, i < 40 → l i = lettL.getD i 0) ∧ (∀ i, i < 8 → p i = plaiL.getD i 0)
def RRows (I : hI_) : Prop := rokF (I 22) 3 24 ∧ rokF (I 24) 8 12 ∧ rokF (I 26) 5 24 ∧ rokF (I 47) 3 24 ∧ rokF (I 49) 8 12 ∧ rokF (I 51) 5 24 ∧ rokF (I 54) 3 24 ∧ rokF (I 56) 8 12 ∧ rokF (I 58) 5 24
/-- the world of ways, out of the model's cells -/
def wI (I : hI_) : Wld := wld (I 73) (I 75) (I 76)
def RImg (k1 k2 : Int32) (a1 b1 a2 b2 a3 b3 S : Nat → Int32) (off : Nat) (np : Int) (w : Wld) : Prop := k1 = k2 ∧ (k2 = 0 ∨ (k2 = 1 ∧ RLed a1 b1 a2 b2 a3 b3 S off np w))
def RPlanI (I : hI_) : Prop := RPlan (I 3) (I 4) (I 5) (I 6) (I 7) (I 8) (I 9) (I 73) (I 74) (I 75) (I 76)
def RLedI (I : hI_) : Prop := RLed (I 22) (I 23) (I 24) (I 25) (I 26) (I 27) (I 82) 0 (I 73 0).toInt (wI I)
def RImgI (I : hI_) : Prop := RImg (I 46 4) (I 90 0) (I 47) (I 48) (I 49) (I 50) (I 51) (I 52) (I 82) 300 (I 73 0).toInt (wI I) ∧ RImg (I 53 4) (I 90 1) (I 54) (I 55) (I 56) (I 57) (I 58) (I 59) (I 82) 600 (I 73 0).toInt (wI I)
def RSheetI (I : hI_) : Prop := RSheet (I 60) (I 61) (I 91) (I 92) (I 93) 0 ∧ RSheet (I 62) (I 63) (I 91) (I 92) (I 93) 1 ∧ RSheet (I 64) (I 65) (I 91) (I 92) (I 93) 2 ∧ RSheet (I 66) (I 67) (I 91) (I 92) (I 93) 3
def Rel (I : hI_) : Prop := RTape (I 1 1) (I 68 1) (I 2) (I 69) ∧ RPlanI I ∧ RRows I ∧ RLedI I ∧ RImgI I ∧ RSheetI I ∧ RConst (I 70) (I 71) (I 72) ∧ I 0 12 = I 68 2 ∧ I 0 13 = I 68 37
/-- what the class's questions write of -/
def scX (a : Nat) : Bool := a == 19 || a == 20 || (Nat.ble 29 a && Nat.ble a 39) || a == 41
def agX (I I2 : hI_) : Prop := ∀ a, scX a = false → I2 a = I a
/-- what the model's questions write of -/
def scM (a : Nat) : Bool := a == 81 || (Nat.ble 83 a && Nat.ble a 87) || a == 68
def agM (I I2 : hI_) : Prop := (∀ a, scM a = false → I2 a = I a) ∧ ∀ j, j ≠ 28 → j ≠ 29 → I2 68 j = I 68 j
theorem agX_rf {I : hI_} : agX I I := fun _ _ => rfl
theorem agX_tr {I I2 I3 : hI_} (h1 : agX I I2) (h2 : agX I2 I3) : agX I I3 := fun a h => (h2 a h).trans (h1 a h)
theorem agM_rf {I : hI_} : agM I I := ⟨fun _ _ => rfl, fun _ _ _ => rfl⟩
theorem agM_tr {I I2 I3 : hI_} (h1 : agM I I2) (h2 : agM I2 I3) : agM I I3 := ⟨fun a h => (h2.1 a h).trans (h1.1 a h), fun j a b => (h2.2 j a b).trans (h1.2 j a b)⟩
theorem agX_up {I : hI_} {a i : Nat} {v : Int32} (h : scX a = true) : agX I (upI I a i v) := fun b hb => by
  have : ¬ b = a := fun e => by subst e; rw [h] at hb; cases hb
  simp [upI, this]
theorem agX_fl {I : hI_} {a n : Nat} {v : Int32} (h : scX a = true) : agX I (flI I a n v) := fun b hb => by
  have : ¬ b = a := fun e => by subst e; rw [h] at hb; cases hb
  simp [flI, this]
theorem agM_up {I : hI_} {a i : Nat} {v : Int32} (h : scM a = true) (h2 : a ≠ 68 ∨ i = 28 ∨ i = 29) : agM I (upI I a i v) := by
  refine ⟨fun b hb => ?_, fun j h3 h4 => ?_⟩
  · have : ¬ b = a := fun e => by subst e; rw [h] at hb; cases hb
    simp [upI, this]
  · rw [upI_at]
    by_cases e : 68 = a ∧ j = i
    · obtain ⟨e1, e2⟩ := e
      omega
    · rw [if_neg e]
theorem Rel_agX {I I2 : hI_} (h : agX I I2) (hr : Rel I) : Rel I2 := by
  unfold Rel RPlanI RRows RLedI RImgI RSheetI wI at hr ⊢
  rw [h 0 rfl, h 1 rfl, h 2 rfl, h 3 rfl, h 4 rfl, h 5 rfl, h 6 rfl, h 7 rfl, h 8 rfl, h 9 rfl, h 22 rfl, h 23 rfl, h 24 rfl, h 25 rfl, h 26 rfl, h 27 rfl, h 46 rfl, h 47 rfl, h 48 rfl, h 49 rfl, h 50 rfl, h 51 rfl, h 52 rfl, h 53 rfl, h 54 rfl, h 55 rfl, h 56 rfl, h 57 rfl, h 58 rfl, h 59 rfl, h 60 rfl, h 61 rfl, h 62 rfl, h 63 rfl, h 64 rfl, h 65 rfl, h 66 rfl, h 67 rfl, h 68 rfl, h 69 rfl, h 70 rfl, h 71 rfl, h 72 rfl, h 73 rfl, h 74 rfl, h 75 rfl, h 76 rfl, h 82 rfl, h 90 rfl, h 91 rfl, h 92 rfl, h 93 rfl]
  exact hr
theorem Rel_agM {I I2 : hI_} (h0 : agM I I2) (hr : Rel I) : Rel I2 := by
  obtain ⟨h, h68⟩ := h0
  unfold Rel RPlanI RRows RLedI RImgI RSheetI wI at hr ⊢
  rw [h 0 rfl, h 1 rfl, h 2 rfl, h 3 rfl, h 4 rfl, h 5 rfl, h 6 rfl, h 7 rfl, h 8 rfl, h 9 rfl, h 22 rfl, h 23 rfl, h 24 rfl, h 25 rfl, h 26 rfl, h 27 rfl, h 46 rfl, h 47 rfl, h 48 rfl, h 49 rfl, h 50 rfl, h 51 rfl, h 52 rfl, h 53 rfl, h 54 rfl, h 55 rfl, h 56 rfl, h 57 rfl, h 58 rfl, h 59 rfl, h 60 rfl, h 61 rfl, h 62 rfl, h 63 rfl, h 64 rfl, h 65 rfl, h 66 rfl, h 67 rfl, h68 1 (by decide) (by decide), h68 2 (by decide) (by decide), h68 37 (by decide) (by decide), h 69 rfl, h 70 rfl, h 71 rfl, h 72 rfl, h 73 rfl, h 74 rfl, h 75 rfl, h 76 rfl, h 82 rfl, h 90 rfl, h 91 rfl, h 92 rfl, h 93 rfl]
  exact hr
theorem nI_inj5 {a b : Nat} (ha : a < 2147483648) (hb : b < 2147483648) (h : nI a = nI b) : a = b := (nI_eq ha hb).mp h
theorem plan_wok {p pr mi sw sf st mv ru pr2 wy sh : Nat → Int32} (h : RPlan p pr mi sw sf st mv ru pr2 wy sh) : wok (wld ru wy sh) := by
  obtain ⟨-, -, -, -, -, -, -, -, hw, hs⟩ := h
  refine ⟨fun a b t ht => ?_, fun a b => ?_, fun a b => ?_, fun a b => ?_, fun a b hab => ?_⟩
  · cases hc : shutB ru sh a b t with
    | false => exact hc
    | true =>
      obtain ⟨s, h1, -, h3, h4⟩ := shutB_iff.mp hc
      obtain ⟨_, _, -, -, -, -, -, -, -, -, -, -, h5⟩ := hs s (by omega)
      omega
  · show (if a < 5 ∧ b < 5 then (wy (5 * a + b)).toInt.toNat else 0) ≤ 99
    split
    · rename_i q
      have := (hw a b q.1 q.2).2.1.2
      omega
    · omega
  · show (if a < 5 ∧ b < 5 then (wy (5 * a + b)).toInt.toNat else 0) = (if b < 5 ∧ a < 5 then (wy (5 * b + a)).toInt.toNat else 0)
    by_cases q : a < 5 ∧ b < 5
    · rw [if_pos q, if_pos ⟨q.2, q.1⟩, ← (hw a b q.1 q.2).1, ← (hw b a q.2 q.1).1, prN_sym]
    · rw [if_neg q, if_neg (fun z => q ⟨z.2, z.1⟩)]
  · funext t
    show shutB ru sh a b t = shutB ru sh b a t
    have e : ∀ x y : Nat, shutB ru sh x y t = true → shutB ru sh y x t = true := fun x y hx => by
      obtain ⟨s, h1, h2, h3⟩ := shutB_iff.mp hx
      exact shutB_iff.mpr ⟨s, h1, h2.symm, h3⟩
    cases h1 : shutB ru sh a b t with
    | true => rw [e a b h1]
    | false => cases h2 : shutB ru sh b a t with
      | true => rw [e b a h2] at h1; cases h1
      | false => rfl
  · have hab : 0 < (if a < 5 ∧ b < 5 then (wy (5 * a + b)).toInt.toNat else 0) := hab
    split at hab
    · rename_i q
      have := (hw a b q.1 q.2).2.2 (by omega)
      exact ⟨q.1, q.2, this.1⟩
    · omega
theorem Rel_wok {I : hI_} (h : Rel I) : wok (wI I) := plan_wok h.2.1
