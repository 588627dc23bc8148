/-! the greatest sum of so many -/
def sI (f : Nat → Int) : Nat → Int
  | 0 => 0
  | n + 1 => sI f n + f n
theorem sI_s (f : Nat → Int) (n : Nat) : sI f (n + 1) = sI f n + f n := rfl
def sel (x : Nat → Int) (U : Nat → Bool) (d : Nat) : Int := sI (fun e => if U e = true then x e else 0) d
theorem sel_s (x : Nat → Int) (U : Nat → Bool) (d : Nat) : sel x U (d + 1) = sel x U d + (if U d = true then x d else 0) := rfl
def gG (x : Nat → Int) : Nat → Nat → Int
  | 0, _ => 0
  | _ + 1, 0 => 0
  | d + 1, n + 1 => max (gG x d (n + 1)) (gG x d n + x d)
theorem gG_0 (x : Nat → Int) (d : Nat) : gG x d 0 = 0 := by cases d <;> rfl
theorem gG_s (x : Nat → Int) (d n : Nat) : gG x (d + 1) (n + 1) = max (gG x d (n + 1)) (gG x d n + x d) := rfl
theorem gG_n (x : Nat → Int) : ∀ d n, gG x d n ≤ gG x d (n + 1)
  | 0, _ => Int.le_refl _
  | d + 1, 0 => by
    have := gG_n x d 0
    rw [gG_0] at this
    rw [gG_0, gG_s]
    omega
  | d + 1, n + 1 => by
    have h1 := gG_n x d n
    have h2 := gG_n x d (n + 1)
    rw [gG_s, gG_s]
    omega
theorem gG_d (x : Nat → Int) (d : Nat) : ∀ n, gG x d n ≤ gG x (d + 1) n
  | 0 => by rw [gG_0, gG_0]; exact Int.le_refl _
  | n + 1 => by rw [gG_s]; omega
theorem gG_sel {x : Nat → Int} {U : Nat → Bool} : ∀ d n, cntB U d ≤ n → sel x U d ≤ gG x d n
  | 0, n, _ => Int.le_refl _
  | d + 1, n, h => by
    have e : cntB U (d + 1) = cntB U d + (if U d = true then 1 else 0) := rfl
    rw [e] at h
    rw [sel_s]
    by_cases z : U d = true
    · rw [if_pos z] at h ⊢
      obtain ⟨m, rfl⟩ : ∃ m, n = m + 1 := ⟨n - 1, by omega⟩
      have := gG_sel (x := x) (U := U) d m (by omega)
      rw [gG_s]
      omega
    · rw [if_neg z] at h ⊢
      have := gG_sel (x := x) (U := U) d n (by omega)
      have := gG_d x d n
      omega
def ups (x : Nat → Int) (t : Int) (d : Nat) : Int := sI (fun e => max 0 (x e - t)) d
theorem ups_s (x : Nat → Int) (t : Int) (d : Nat) : ups x t (d + 1) = ups x t d + max 0 (x d - t) := rfl
theorem gG_ups {x : Nat → Int} {t : Int} (ht : 0 ≤ t) : ∀ d n, gG x d n ≤ (n : Int) * t + ups x t d
  | 0, n => by
    have : 0 ≤ (n : Int) * t := Int.mul_nonneg (by omega) ht
    show (0 : Int) ≤ (n : Int) * t + 0
    omega
  | d + 1, 0 => by
    have := gG_ups (x := x) ht d 0
    rw [gG_0] at this ⊢
    rw [ups_s]
    omega
  | d + 1, n + 1 => by
    have h1 := gG_ups (x := x) ht d (n + 1)
    have h2 := gG_ups (x := x) ht d n
    have e : ((n + 1 : Nat) : Int) * t = (n : Int) * t + t := by rw [Int.natCast_add, Int.add_mul]; omega
    rw [e] at h1 ⊢
    rw [gG_s, ups_s]
    omega
theorem sel_top {x : Nat → Int} {U : Nat → Bool} {t : Int} : ∀ d, (∀ u, u < d → U u = true → t ≤ x u) → (∀ v, v < d → U v = false → x v ≤ t) → sel x U d = (cntB U d : Int) * t + ups x t d
  | 0, _, _ => by
    show (0 : Int) = ((0 : Nat) : Int) * t + 0
    omega
  | d + 1, h1, h2 => by
    have ih := sel_top (x := x) (U := U) (t := t) d (fun u hu => h1 u (by omega)) (fun v hv => h2 v (by omega))
    have e : cntB U (d + 1) = cntB U d + (if U d = true then 1 else 0) := rfl
    rw [sel_s, ups_s, e, ih]
    by_cases z : U d = true
    · rw [if_pos z, if_pos z, Int.natCast_add, Int.add_mul]
      have := h1 d (by omega) z
      omega
    · rw [if_neg z, if_neg z]
      have := h2 d (by omega) (by cases q : U d with | true => exact absurd q z | false => rfl)
      rw [Nat.add_zero]
      omega
/-- the dearest so many are the greatest sum -/
theorem top_eq {x : Nat → Int} {U : Nat → Bool} {t : Int} {d k : Nat} (ht : 0 ≤ t) (h1 : ∀ u, u < d → U u = true → t ≤ x u) (h2 : ∀ v, v < d → U v = false → x v ≤ t) (h3 : cntB U d ≤ k) (h4 : cntB U d = k ∨ t = 0) : sel x U d = gG x d k := by
  refine Int.le_antisymm (gG_sel d k h3) ?_
  have a := gG_ups (x := x) ht d k
  have b := sel_top d h1 h2
  rcases h4 with h4 | h4
  · rw [h4] at b; omega
  · rw [h4, Int.mul_zero] at a b; omega
theorem sel_e {x : Nat → Int} {U W : Nat → Bool} : ∀ d, (∀ e, e < d → U e = W e) → sel x U d = sel x W d
  | 0, _ => rfl
  | d + 1, h => by rw [sel_s, sel_s, sel_e d (fun e he => h e (by omega)), h d (by omega)]
theorem sel_add {x : Nat → Int} {U : Nat → Bool} {b : Nat} (hb : U b = false) : ∀ d, b < d → sel x (adB U b) d = sel x U d + x b
  | 0, h => by omega
  | d + 1, h => by
    rw [sel_s, sel_s]
    by_cases z : b = d
    · rw [← z, hb, adB_d, if_pos rfl, sel_e (U := adB U b) (W := U) b (fun e he => adB_o (by omega)), if_neg (show ¬ false = true by decide), Int.add_zero]
    · rw [sel_add hb d (by omega), adB_o (show d ≠ b by omega)]; omega
theorem cnt_add {U : Nat → Bool} {b : Nat} (hb : U b = false) : ∀ d, b < d → cntB (adB U b) d = cntB U d + 1
  | 0, h => by omega
  | d + 1, h => by
    have e : ∀ W : Nat → Bool, cntB W (d + 1) = cntB W d + (if W d = true then 1 else 0) := fun W => rfl
    rw [e, e]
    by_cases z : b = d
    · have q : ∀ n, n ≤ b → cntB (adB U b) n = cntB U n := by
        intro n
        induction n with
        | zero => intro _; rfl
        | succ n ih =>
          intro hn
          have e1 : ∀ W : Nat → Bool, cntB W (n + 1) = cntB W n + (if W n = true then 1 else 0) := fun W => rfl
          rw [e1, e1, ih (by omega), adB_o (show n ≠ b by omega)]
      rw [← z, hb, adB_d, if_pos rfl, q b (Nat.le_refl _)]
      rfl
    · rw [cnt_add hb d (by omega), adB_o (show d ≠ b by omega)]; omega
theorem cnt_sub {U W : Nat → Bool} {u d : Nat} (h : ∀ e, W e = true → U e = true) (hu : u < d) (h1 : W u = false) (h2 : U u = true) : cntB W d < cntB U d := cntB_lt h h1 h2 d hu
/-- the class's sum: dearest of any sign -/
theorem dear_or {x : Nat → Int} {U : Nat → Bool} {t : Int} {d n : Nat} (h1 : ∀ u, u < d → U u = true → t ≤ x u) (h2 : ∀ v, v < d → U v = false → x v ≤ t) (h3 : cntB U d ≤ n) (h4 : cntB U d = n ∨ ∀ v, v < d → U v = true) : sel x U d = gG x d n ∨ (sel x U d ≤ gG x d n ∧ 1 ≤ n ∧ gG x d (n - 1) = gG x d n) := by
  have alt : (∀ v, v < d → U v = false → x v ≤ 0) → sel x U d = gG x d n ∨ (sel x U d ≤ gG x d n ∧ 1 ≤ n ∧ gG x d (n - 1) = gG x d n) := fun h5 => by
    by_cases z : ∃ u, u < d ∧ U u = true ∧ x u < 0
    · obtain ⟨u, u1, u2, u3⟩ := z
      have hW : ∀ e, (U e && decide (0 ≤ x e)) = true → U e = true := fun e he => (Bool.and_eq_true _ _ ▸ he).1
      have hc : cntB (fun e => U e && decide (0 ≤ x e)) d < cntB U d := by
        refine cnt_sub hW u1 ?_ u2
        rw [u2, Bool.true_and]
        exact decide_eq_false (by omega)
      have a1 : ∀ v, v < d → (U v && decide (0 ≤ x v)) = true → (0 : Int) ≤ x v := fun v _ hv => of_decide_eq_true (Bool.and_eq_true _ _ ▸ hv).2
      have a2 : ∀ v, v < d → (U v && decide (0 ≤ x v)) = false → x v ≤ 0 := fun v hv hf => by
        cases q : U v with
        | false => exact h5 v hv q
        | true =>
          rw [q, Bool.true_and] at hf
          have := of_decide_eq_false hf
          omega
      have b1 := top_eq (x := x) (U := fun e => U e && decide (0 ≤ x e)) (t := 0) (d := d) (k := n - 1) (Int.le_refl _) a1 a2 (by omega) (Or.inr rfl)
      have b2 := top_eq (x := x) (U := fun e => U e && decide (0 ≤ x e)) (t := 0) (d := d) (k := n) (Int.le_refl _) a1 a2 (by omega) (Or.inr rfl)
      exact Or.inr ⟨gG_sel d n h3, by omega, b1.symm.trans b2⟩
    · refine Or.inl (top_eq (t := 0) (Int.le_refl _) (fun u hu h6 => ?_) h5 h3 (Or.inr rfl))
      rcases Int.lt_or_le (x u) 0 with y | y
      · exact absurd ⟨u, hu, h6, y⟩ z
      · exact y
  rcases h4 with h4 | h4
  · rcases Int.lt_or_le 0 t with y | y
    · exact Or.inl (top_eq (by omega) h1 h2 h3 (Or.inl h4))
    · exact alt (fun v hv h6 => by have := h2 v hv h6; omega)
  · exact alt (fun v hv h6 => by rw [h4 v hv] at h6; cases h6)
/-- the best of some -/
def bgP (x : Nat → Int) (e : Nat) : Option Nat → Option Nat
  | none => some e
  | some b => if x e ≤ x b then some b else some e
def bg (x : Nat → Int) (ok : Nat → Bool) : Nat → Option Nat
  | 0 => none
  | d + 1 => if ok d = true then bgP x d (bg x ok d) else bg x ok d
theorem bg_s (x : Nat → Int) (ok : Nat → Bool) (d : Nat) : bg x ok (d + 1) = if ok d = true then bgP x d (bg x ok d) else bg x ok d := rfl
theorem bg_ok {x : Nat → Int} {ok : Nat → Bool} : ∀ d, (bg x ok d = none → ∀ e, e < d → ok e = false) ∧ ∀ b, bg x ok d = some b → b < d ∧ ok b = true ∧ ∀ e, e < d → ok e = true → x e ≤ x b
  | 0 => ⟨fun _ e he => by omega, fun b hb => by cases hb⟩
  | d + 1 => by
    obtain ⟨i1, i2⟩ := bg_ok (x := x) (ok := ok) d
    rw [bg_s]
    by_cases z : ok d = true
    · rw [if_pos z]
      cases q : bg x ok d with
      | none =>
        refine ⟨fun y => (by cases y), fun b hb => ?_⟩
        have e : d = b := Option.some.inj hb
        subst e
        refine ⟨by omega, z, fun e he h1 => ?_⟩
        by_cases w : e = d
        · rw [w]; exact Int.le_refl _
        · have := i1 q e (by omega)
          rw [this] at h1; cases h1
      | some c =>
        obtain ⟨c1, c2, c3⟩ := i2 c q
        refine ⟨fun y => ?_, fun b hb => ?_⟩
        · unfold bgP at y; dsimp only at y; split at y <;> cases y
        · unfold bgP at hb; dsimp only at hb
          by_cases y : x d ≤ x c
          · rw [if_pos y] at hb
            have e : c = b := Option.some.inj hb
            subst e
            refine ⟨by omega, c2, fun e he h1 => ?_⟩
            by_cases w : e = d
            · rw [w]; exact y
            · exact c3 e (by omega) h1
          · rw [if_neg y] at hb
            have e : d = b := Option.some.inj hb
            subst e
            refine ⟨by omega, z, fun e he h1 => ?_⟩
            by_cases w : e = d
            · rw [w]; exact Int.le_refl _
            · have := c3 e (by omega) h1; omega
    · rw [if_neg z]
      refine ⟨fun y e he => ?_, fun b hb => ?_⟩
      · by_cases w : e = d
        · rw [w]; exact Bool.eq_false_iff.mpr z
        · exact i1 y e (by omega)
      · obtain ⟨c1, c2, c3⟩ := i2 b hb
        refine ⟨by omega, c2, fun e he h1 => ?_⟩
        by_cases w : e = d
        · rw [w] at h1; exact absurd h1 z
        · exact c3 e (by omega) h1
/-- sums within bounds -/
theorem sel_b {x : Nat → Int} {U : Nat → Bool} (hx : ∀ e, -98901 ≤ x e ∧ x e ≤ 98901) : ∀ d : Nat, -98901 * (d : Int) ≤ sel x U d ∧ sel x U d ≤ 98901 * (d : Int)
  | 0 => ⟨by show _ ≤ (0 : Int); omega, by show (0 : Int) ≤ _; omega⟩
  | d + 1 => by
    have := sel_b (U := U) hx d
    have := hx d
    rw [sel_s]
    split <;> omega
theorem gG_b {x : Nat → Int} (hx : ∀ e, -98901 ≤ x e ∧ x e ≤ 98901) : ∀ d n : Nat, 0 ≤ gG x d n ∧ gG x d n ≤ 98901 * (d : Int)
  | 0, _ => ⟨Int.le_refl _, by show (0 : Int) ≤ _; omega⟩
  | d + 1, 0 => by rw [gG_0]; omega
  | d + 1, n + 1 => by
    have h1 := gG_b hx d n
    have h2 := gG_b hx d (n + 1)
    have := hx d
    rw [gG_s]
    omega
/-- bits -/
def tb (v : Int32) (d : Nat) : Bool := v.toBitVec.getLsbD d
theorem tb_0 (d : Nat) : tb 0 d = false := by
  unfold tb
  rw [show (0 : Int32).toBitVec = 0#32 from rfl]
  exact BitVec.getLsbD_zero
theorem n31 : ∀ d, d < 24 → ((nI d &&& 31).toBitVec.smod 32).toNat = d := by decide +kernel
theorem tb_or {v : Int32} {b d : Nat} (hb : b < 24) (hd : d < 24) : tb (v ||| (1 <<< (nI b &&& 31))) d = (tb v d || d == b) := by
  unfold tb
  rw [Int32.toBitVec_or, Int32.toBitVec_shiftLeft, BitVec.getLsbD_or, BitVec.shiftLeft_eq', n31 b hb]
  congr 1
  rw [show Int32.toBitVec 1 = 1#32 from rfl, BitVec.getLsbD_shiftLeft, BitVec.getLsbD_one]
  by_cases z : d = b
  · rw [z]; simp; omega
  · by_cases y : d < b
    · simp [y, z]
    · have : ¬ d - b = 0 := by omega
      simp [z, this]
theorem tb_is {v : Int32} {d : Nat} (hd : d < 24) : ((v >>> (nI d &&& 31)) &&& 1 = 0) ↔ tb v d = false := by
  unfold tb
  rw [← Int32.toBitVec_inj, Int32.toBitVec_and, Int32.toBitVec_shiftRight, BitVec.sshiftRight_eq', n31 d hd, show Int32.toBitVec 1 = 1#32 from rfl, show Int32.toBitVec 0 = 0#32 from rfl]
  have e0 : (v.toBitVec.sshiftRight d).getLsbD 0 = v.toBitVec.getLsbD d := by
    rw [BitVec.getLsbD_sshiftRight]
    simp; omega
  rw [← e0]
  generalize v.toBitVec.sshiftRight d = X
  constructor
  · intro h
    have := congrArg (fun Y => Y.getLsbD 0) h
    simpa using this
  · intro h
    apply BitVec.eq_of_getLsbD_eq
    intro i hi
    rw [BitVec.getLsbD_and, BitVec.getLsbD_one, BitVec.getLsbD_zero]
    by_cases z : i = 0
    · rw [z, h]; rfl
    · simp [z]
