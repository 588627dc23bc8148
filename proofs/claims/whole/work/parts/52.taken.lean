/-! what of each deal is struck -/
def sm (f : Nat → Nat) : Nat → Nat
  | 0 => 0
  | n + 1 => sm f n + f n
theorem sm_e {f g : Nat → Nat} : ∀ n, (∀ e, e < n → f e = g e) → sm f n = sm g n
  | 0, _ => rfl
  | n + 1, h => by
    have e1 : sm f (n + 1) = sm f n + f n := rfl
    have e2 : sm g (n + 1) = sm g n + g n := rfl
    rw [e1, e2, sm_e n (fun e he => h e (by omega)), h n (by omega)]
theorem sm_0 {f : Nat → Nat} : ∀ n, (∀ e, e < n → f e = 0) → sm f n = 0
  | 0, _ => rfl
  | n + 1, h => by
    have e1 : sm f (n + 1) = sm f n + f n := rfl
    rw [e1, sm_0 n (fun e he => h e (by omega)), h n (by omega)]
theorem sm_add {f g : Nat → Nat} {d : Nat} (h : ∀ e, e ≠ d → g e = f e) (h0 : f d = 0) : ∀ n, d < n → sm g n = sm f n + g d
  | 0, hd => by omega
  | n + 1, hd => by
    have e1 : sm f (n + 1) = sm f n + f n := rfl
    have e2 : sm g (n + 1) = sm g n + g n := rfl
    rw [e1, e2]
    by_cases e : d = n
    · rw [sm_e (f := g) (g := f) n (fun x hx => h x (by omega)), ← e, h0]; omega
    · rw [sm_add h h0 n (by omega), h n (by omega)]; omega
theorem sm_le {f g : Nat → Nat} : ∀ n, (∀ e, e < n → f e ≤ g e) → sm f n ≤ sm g n
  | 0, _ => Nat.le_refl _
  | n + 1, h => by
    have e1 : sm f (n + 1) = sm f n + f n := rfl
    have e2 : sm g (n + 1) = sm g n + g n := rfl
    have := sm_le n (fun e he => h e (by omega))
    have := h n (by omega)
    omega
noncomputable def tkF (I : hI_) : Nat → Nat → Nat
  | 0, _ => 0
  | f + 1, d => if stB I (nI (cD I d)) (nI (aD I d)) = true then min (uD I d) (unN I (cD I d) - sm (fun e => if cD I e = cD I d ∧ kD I e < kD I d then tkF I f e else 0) (nD I)) else 0
noncomputable def tk (I : hI_) (d : Nat) : Nat := tkF I 25 d
noncomputable def rkS (I : hI_) (d : Nat) : Nat := cntB (fun e => decide (kD I e < kD I d)) (nD I)
theorem tkF_s (I : hI_) (f d : Nat) : tkF I (f + 1) d = if stB I (nI (cD I d)) (nI (aD I d)) = true then min (uD I d) (unN I (cD I d) - sm (fun e => if cD I e = cD I d ∧ kD I e < kD I d then tkF I f e else 0) (nD I)) else 0 := rfl
theorem tkF_st {I : hI_} (f : Nat) : ∀ (d : Nat), d < nD I → rkS I d < f → tkF I (f + 1) d = tkF I f d := by
  induction f with
  | zero => intro d _ h; exact absurd h (Nat.not_lt_zero _)
  | succ f ih =>
    intro d hd h
    rw [tkF_s I (f + 1) d, tkF_s I f d]
    have e : sm (fun e => if cD I e = cD I d ∧ kD I e < kD I d then tkF I (f + 1) e else 0) (nD I) = sm (fun e => if cD I e = cD I d ∧ kD I e < kD I d then tkF I f e else 0) (nD I) := by
      refine sm_e _ (fun e he => ?_)
      by_cases z : cD I e = cD I d ∧ kD I e < kD I d
      · have hr : rkS I e < rkS I d := by
          refine cntB_lt (fun x hx => ?_) (u := e) (decide_eq_false (Nat.lt_irrefl _)) (decide_eq_true z.2) _ he
          have := of_decide_eq_true hx
          exact decide_eq_true (by omega)
        rw [if_pos z, if_pos z]
        exact ih e he (by omega)
      · rw [if_neg z, if_neg z]
    rw [e]
theorem tk_eq {I : hI_} (h : Rel I) {d : Nat} (hd : d < nD I) : tk I d = if stB I (nI (cD I d)) (nI (aD I d)) = true then min (uD I d) (unN I (cD I d) - sm (fun e => if cD I e = cD I d ∧ kD I e < kD I d then tk I e else 0) (nD I)) else 0 := by
  have hD := (Rel_D h).2.2
  have : rkS I d ≤ nD I := cntB_n _
  have e := tkF_st 25 d hd (by omega)
  unfold tk
  rw [← e]
  exact tkF_s I 25 d
/-- what is struck of a call by some of the deals -/
noncomputable def tot (I : hI_) (c : Nat) (g : Nat → Bool) : Nat := sm (fun e => if cD I e = c ∧ g e = true then tk I e else 0) (nD I)
def adB (g : Nat → Bool) (d e : Nat) : Bool := g e || e == d
theorem adB_o {g : Nat → Bool} {d e : Nat} (h : e ≠ d) : adB g d e = g e := by
  unfold adB
  rw [beq_false_of_ne h, Bool.or_false]
theorem adB_d {g : Nat → Bool} {d : Nat} : adB g d d = true := by unfold adB; simp
theorem tot_tk {I : hI_} (h : Rel I) {d : Nat} (hd : d < nD I) {g : Nat → Bool} (hg : ∀ e, e < nD I → cD I e = cD I d → (g e = true ↔ kD I e < kD I d)) : tk I d = if stB I (nI (cD I d)) (nI (aD I d)) = true then min (uD I d) (unN I (cD I d) - tot I (cD I d) g) else 0 := by
  rw [tk_eq h hd]
  unfold tot
  have e : sm (fun e => if cD I e = cD I d ∧ kD I e < kD I d then tk I e else 0) (nD I) = sm (fun e => if cD I e = cD I d ∧ g e = true then tk I e else 0) (nD I) := by
    refine sm_e _ (fun e he => ?_)
    by_cases z : cD I e = cD I d
    · by_cases y : g e = true
      · rw [if_pos ⟨z, (hg e he z).mp y⟩, if_pos ⟨z, y⟩]
      · rw [if_neg (fun q => y ((hg e he z).mpr q.2)), if_neg (fun q => y q.2)]
    · rw [if_neg (fun q => z q.1), if_neg (fun q => z q.1)]
  rw [e]
theorem tot_add {I : hI_} {c d : Nat} {g : Nat → Bool} (hd : d < nD I) (hg : g d = false) : tot I c (adB g d) = tot I c g + if cD I d = c then tk I d else 0 := by
  unfold tot
  have e := sm_add (f := fun e => if cD I e = c ∧ g e = true then tk I e else 0) (g := fun e => if cD I e = c ∧ adB g d e = true then tk I e else 0) (d := d) (fun e he => by rw [adB_o he]) (by rw [hg, if_neg (fun q => by cases q.2)]) _ hd
  rw [e]
  by_cases z : cD I d = c
  · rw [if_pos ⟨z, adB_d⟩, if_pos z]
  · rw [if_neg (fun q => z q.1), if_neg z]
theorem tot_none {I : hI_} {c : Nat} {g : Nat → Bool} (hg : ∀ e, e < nD I → cD I e = c → g e = false) : tot I c g = 0 := by
  unfold tot
  refine sm_0 _ (fun e he => ?_)
  rw [if_neg (fun q => by rw [hg e he q.1] at q; cases q.2)]
theorem tot_e {I : hI_} {c : Nat} {g g2 : Nat → Bool} (hg : ∀ e, e < nD I → cD I e = c → g2 e = g e) : tot I c g2 = tot I c g := by
  unfold tot
  refine sm_e _ (fun e he => ?_)
  by_cases z : cD I e = c
  · rw [hg e he z]
  · rw [if_neg (fun q => z q.1), if_neg (fun q => z q.1)]
/-- the latest minute (and one) at which some of the deals strike of a call -/
noncomputable def mxA (I : hI_) (c : Nat) (g : Nat → Bool) : Nat → Nat
  | 0 => 0
  | n + 1 => max (mxA I c g n) (if cD I n = c ∧ g n = true ∧ 0 < tk I n then aD I n + 1 else 0)
theorem mxA_s (I : hI_) (c : Nat) (g : Nat → Bool) (n : Nat) : mxA I c g (n + 1) = max (mxA I c g n) (if cD I n = c ∧ g n = true ∧ 0 < tk I n then aD I n + 1 else 0) := rfl
theorem mxA_e {I : hI_} {c : Nat} {g g2 : Nat → Bool} : ∀ n, (∀ e, e < n → cD I e = c → 0 < tk I e → g2 e = g e) → mxA I c g2 n = mxA I c g n
  | 0, _ => rfl
  | n + 1, h => by
    rw [mxA_s, mxA_s, mxA_e n (fun e he => h e (by omega))]
    by_cases z : cD I n = c ∧ 0 < tk I n
    · rw [h n (by omega) z.1 z.2]
    · rw [if_neg (fun q => z ⟨q.1, q.2.2⟩), if_neg (fun q => z ⟨q.1, q.2.2⟩)]
theorem mxA_le {I : hI_} {c x : Nat} {g : Nat → Bool} : ∀ n, (∀ e, e < n → cD I e = c → g e = true → 0 < tk I e → aD I e + 1 ≤ x) → mxA I c g n ≤ x
  | 0, _ => Nat.zero_le _
  | n + 1, h => by
    have := mxA_le n (fun e he => h e (by omega))
    rw [mxA_s]
    by_cases z : cD I n = c ∧ g n = true ∧ 0 < tk I n
    · rw [if_pos z]
      have := h n (by omega) z.1 z.2.1 z.2.2
      omega
    · rw [if_neg z]; omega
theorem mxA_ge {I : hI_} {c e : Nat} {g : Nat → Bool} : ∀ n, e < n → cD I e = c → g e = true → 0 < tk I e → aD I e + 1 ≤ mxA I c g n
  | 0, h, _, _, _ => by omega
  | n + 1, h, h1, h2, h3 => by
    rw [mxA_s]
    by_cases z : e = n
    · rw [← z, if_pos ⟨h1, h2, h3⟩]; omega
    · have := mxA_ge n (by omega) h1 h2 h3
      omega
theorem mxA_top {I : hI_} {c d : Nat} {g : Nat → Bool} {n : Nat} (hd : d < n) (hc : cD I d = c) (ht : 0 < tk I d) (hg : ∀ e, e < n → cD I e = c → g e = true → aD I e ≤ aD I d) : mxA I c (adB g d) n = aD I d + 1 := by
  refine Nat.le_antisymm (mxA_le n (fun e he h1 h2 h3 => ?_)) (mxA_ge n hd hc adB_d ht)
  by_cases z : e = d
  · rw [z]; omega
  · rw [adB_o z] at h2
    have := hg e he h1 h2
    omega
def en0 (x : Nat) : Int32 := if x = 0 then -4 else nI (x - 1)
