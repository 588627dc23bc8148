/-! trading, round by round -/
def trL (L : Nat → Nat) (x y : Nat) (j : Nat) : Nat := if j = x ∨ j = y then L j - min (L x) (L y) else L j
/-- a round: whom to buy of and whom to sell to, if it brings something -/
def trD (I : hI_) (L : Nat → Nat) (n : Nat) : Option (Nat × Nat) :=
  match bsN I L 1 n, bsN I L 0 n with
  | some x, some y => if pcN I x < pcN I y then some (x, y) else none
  | _, _ => none
def trF (I : hI_) (n : Nat) : Nat → (Nat → Nat) → Nat → Nat → Nat × Nat
  | 0, _, br, un => (br, un)
  | f + 1, L, br, un => match trD I L n with
    | some (x, y) => trF I n f (trL L x y) (br + min (L x) (L y) * (pcN I y - pcN I x)) (un + min (L x) (L y))
    | none => (br, un)
theorem trD_ok {I : hI_} {L : Nat → Nat} {n x y : Nat} (h : trD I L n = some (x, y)) : bsN I L 1 n = some x ∧ bsN I L 0 n = some y ∧ pcN I x < pcN I y ∧ x < n ∧ y < n ∧ x ≠ y ∧ ¬ L x = 0 ∧ ¬ L y = 0 := by
  unfold trD at h
  cases h1 : bsN I L 1 n with
  | none => rw [h1] at h; cases h
  | some a =>
    cases h2 : bsN I L 0 n with
    | none => rw [h1, h2] at h; cases h
    | some b =>
      rw [h1, h2] at h
      dsimp only at h
      by_cases z : pcN I a < pcN I b
      · rw [if_pos z] at h
        cases h
        have a1 := bsN_lt n x h1
        have a2 := bsN_lt n y h2
        refine ⟨rfl, rfl, z, a1.1, a2.1, fun e => ?_, a1.2.1, a2.2.1⟩
        have q1 := a1.2.2
        rw [e, a2.2.2] at q1
        exact absurd q1 (by decide)
      · rw [if_neg z] at h; cases h
theorem trL_le {L : Nat → Nat} {x y j : Nat} (h : L j ≤ 99) : trL L x y j ≤ 99 := by
  unfold trL; split <;> omega
/-- how many calls have units left -/
def nzC (L : Nat → Nat) (n : Nat) : Nat := cntB (fun j => decide (0 < L j)) n
theorem nzC_dec {I : hI_} {L : Nat → Nat} {n x y : Nat} (h : trD I L n = some (x, y)) : nzC (trL L x y) n < nzC L n := by
  obtain ⟨-, -, -, hx, hy, hne, lx, ly⟩ := trD_ok h
  have sub : ∀ j, decide (0 < trL L x y j) = true → decide (0 < L j) = true := fun j hj => by
    have := of_decide_eq_true hj
    refine decide_eq_true ?_
    unfold trL at this
    split at this <;> omega
  rcases Nat.le_total (L x) (L y) with q | q
  · refine cntB_lt sub (u := x) (decide_eq_false ?_) (decide_eq_true (by omega)) n hx
    unfold trL
    rw [if_pos (Or.inl rfl)]
    omega
  · refine cntB_lt sub (u := y) (decide_eq_false ?_) (decide_eq_true (by omega)) n hy
    unfold trL
    rw [if_pos (Or.inr rfl)]
    omega
theorem bs_0 {I : hI_} {L : Nat → Nat} {n : Nat} (h : nzC L n = 0) : trD I L n = none := by
  cases hd : trD I L n with
  | none => rfl
  | some p =>
    obtain ⟨x, y⟩ := p
    have := nzC_dec hd
    omega
