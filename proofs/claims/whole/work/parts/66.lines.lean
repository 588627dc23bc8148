/-! the lines of a text, as numbers -/
def cN_ (n : Nat) (B : Nat → Nat) (k lo hx : Nat) : Nat := if tK n B k = 4 then 1 else if tK n B k = 2 then (if lo ≤ tV n B k ∧ tV n B k < hx then 0 else 3) else 2
def upN (D : Nat → Nat) (i v : Nat) (j : Nat) : Nat := if j = i then v else D j
theorem upN_e {D : Nat → Nat} {i v : Nat} : upN D i v i = v := if_pos rfl
theorem upN_o {D : Nat → Nat} {i v j : Nat} (h : j ≠ i) : upN D i v j = D j := if_neg h
theorem cN0 {n : Nat} {B : Nat → Nat} {k lo hx : Nat} : cN_ n B k lo hx = 0 ↔ (tK n B k = 2 ∧ lo ≤ tV n B k ∧ tV n B k < hx) := by
  unfold cN_
  by_cases z : tK n B k = 4
  · rw [if_pos z]; exact ⟨fun y => by omega, fun y => by omega⟩
  · rw [if_neg z]
    by_cases z2 : tK n B k = 2
    · rw [if_pos z2]
      by_cases z3 : lo ≤ tV n B k ∧ tV n B k < hx
      · rw [if_pos z3]; exact ⟨fun _ => ⟨z2, z3⟩, fun _ => rfl⟩
      · rw [if_neg z3]; exact ⟨fun y => by omega, fun y => absurd y.2 z3⟩
    · rw [if_neg z2]; exact ⟨fun y => by omega, fun y => absurd y.1 z2⟩
theorem cN3 {n : Nat} {B : Nat → Nat} {k lo hx : Nat} : cN_ n B k lo hx ≤ 3 := by
  unfold cN_
  split
  · omega
  · split
    · split <;> omega
    · omega
def lnPlace (n : Nat) (B : Nat → Nat) (k0 k : Nat) (D : Nat → Nat) : Nat × Nat × Nat × (Nat → Nat) := if 5 ≤ D 0 then (5, tS n B k0, 0, D) else if cN_ n B k 1 1000 = 0 then (0, 0, tE n B k, upN (upN D (20 + D 0) (tV n B k)) 0 (D 0 + 1)) else (cN_ n B k 1 1000, tS n B k, 0, D)
def dWay (D : Nat → Nat) (a b v : Nat) : Nat → Nat := upN (upN (upN D (40 + 5 * a + b) v) (40 + 5 * b + a) v) 1 (D 1 + 1)
def lnWay3 (n : Nat) (B : Nat → Nat) (k1 k2 k3 : Nat) (D : Nat → Nat) : Nat × Nat × Nat × (Nat → Nat) := if cN_ n B k1 0 (D 0) = 0 then (if cN_ n B k2 0 (D 0) = 0 then (if tV n B k1 = tV n B k2 then (3, tS n B k2, 0, D) else if 0 < D (40 + 5 * tV n B k1 + tV n B k2) then (4, tS n B k2, 0, D) else if cN_ n B k3 1 100 = 0 then (0, 0, tE n B k3, dWay D (tV n B k1) (tV n B k2) (tV n B k3)) else (cN_ n B k3 1 100, tS n B k3, 0, D)) else (cN_ n B k2 0 (D 0), tS n B k2, 0, D)) else (cN_ n B k1 0 (D 0), tS n B k1, 0, D)
def lnWay (n : Nat) (B : Nat → Nat) (k : Nat) (D : Nat → Nat) : Nat × Nat × Nat × (Nat → Nat) := lnWay3 n B k (tE n B k) (tE n B (tE n B k)) D
def dShut (D : Nat → Nat) (a b f t : Nat) : Nat → Nat := upN (upN (upN (upN (upN D (100 + 4 * D 2) a) (101 + 4 * D 2) b) (102 + 4 * D 2) f) (103 + 4 * D 2) t) 2 (D 2 + 1)
def lnShut4 (n : Nat) (B : Nat → Nat) (k0 k1 k2 k3 k4 : Nat) (D : Nat → Nat) : Nat × Nat × Nat × (Nat → Nat) := if 12 ≤ D 2 then (5, tS n B k0, 0, D) else if cN_ n B k1 0 (D 0) = 0 then (if cN_ n B k2 0 (D 0) = 0 then (if D (40 + 5 * tV n B k1 + tV n B k2) = 0 then (3, tS n B k2, 0, D) else if cN_ n B k3 0 1000 = 0 then (if cN_ n B k4 (tV n B k3) 1000 = 0 then (0, 0, tE n B k4, dShut D (tV n B k1) (tV n B k2) (tV n B k3) (tV n B k4)) else (cN_ n B k4 (tV n B k3) 1000, tS n B k4, 0, D)) else (cN_ n B k3 0 1000, tS n B k3, 0, D)) else (cN_ n B k2 0 (D 0), tS n B k2, 0, D)) else (cN_ n B k1 0 (D 0), tS n B k1, 0, D)
def lnShut (n : Nat) (B : Nat → Nat) (k0 k : Nat) (D : Nat → Nat) : Nat × Nat × Nat × (Nat → Nat) := lnShut4 n B k0 k (tE n B k) (tE n B (tE n B k)) (tE n B (tE n B (tE n B k))) D
def dMoves (D : Nat → Nat) (a b c : Nat) : Nat → Nat := upN (upN (upN (upN D 3 a) 4 b) 5 c) 8 1
def lnMoves3 (n : Nat) (B : Nat → Nat) (k0 k1 k2 k3 : Nat) (D : Nat → Nat) : Nat × Nat × Nat × (Nat → Nat) := if ¬ D 8 = 0 then (4, tS n B k0, 0, D) else if cN_ n B k1 0 5 = 0 then (if cN_ n B k2 0 5 = 0 then (if cN_ n B k3 0 5 = 0 then (if tV n B k1 + tV n B k2 + tV n B k3 = 0 then (3, tS n B k3, 0, D) else (0, 0, tE n B k3, dMoves D (tV n B k1) (tV n B k2) (tV n B k3))) else (cN_ n B k3 0 5, tS n B k3, 0, D)) else (cN_ n B k2 0 5, tS n B k2, 0, D)) else (cN_ n B k1 0 5, tS n B k1, 0, D)
def lnMoves (n : Nat) (B : Nat → Nat) (k0 k : Nat) (D : Nat → Nat) : Nat × Nat × Nat × (Nat → Nat) := lnMoves3 n B k0 k (tE n B k) (tE n B (tE n B k)) D
def lnFirst (n : Nat) (B : Nat → Nat) (k0 k : Nat) (D : Nat → Nat) : Nat × Nat × Nat × (Nat → Nat) := if ¬ D 9 = 0 then (4, tS n B k0, 0, D) else if tK n B k = 4 then (1, tS n B k, 0, D) else if nmI n B k < 6 ∨ nmI n B k = 9 then (2, tS n B k, 0, D) else (0, 0, tE n B k, upN (upN D 6 (nmI n B k - 6)) 9 1)
def lnMost (n : Nat) (B : Nat → Nat) (k0 k : Nat) (D : Nat → Nat) : Nat × Nat × Nat × (Nat → Nat) := if ¬ D 10 = 0 then (4, tS n B k0, 0, D) else if cN_ n B k 1 1000 = 0 then (0, 0, tE n B k, upN (upN D 7 (tV n B k)) 10 1) else (cN_ n B k 1 1000, tS n B k, 0, D)
def line (n : Nat) (B : Nat → Nat) (k0 : Nat) (D : Nat → Nat) : Nat × Nat × Nat × (Nat → Nat) := if nmI n B k0 = 0 then lnPlace n B k0 (tE n B k0) D else if nmI n B k0 = 1 then lnWay n B (tE n B k0) D else if nmI n B k0 = 2 then lnShut n B k0 (tE n B k0) D else if nmI n B k0 = 3 then lnMoves n B k0 (tE n B k0) D else if nmI n B k0 = 4 then lnFirst n B k0 (tE n B k0) D else if nmI n B k0 = 5 then lnMost n B k0 (tE n B k0) D else (2, tS n B k0, 0, D)
def DOK (D : Nat → Nat) : Prop := (D 0 ≤ 5 ∧ D 2 ≤ 12 ∧ D 6 ≤ 2 ∧ 1 ≤ D 7 ∧ D 7 ≤ 999 ∧ D 8 ≤ 1 ∧ D 9 ≤ 1 ∧ D 10 ≤ 1) ∧ (D 3 ≤ 4 ∧ D 4 ≤ 4 ∧ D 5 ≤ 4 ∧ 1 ≤ D 3 + D 4 + D 5) ∧ (∀ i, i < D 0 → 1 ≤ D (20 + i) ∧ D (20 + i) ≤ 999) ∧ (∀ a b, a < 5 → b < 5 → D (40 + 5 * a + b) = D (40 + 5 * b + a) ∧ D (40 + 5 * a + b) ≤ 99 ∧ (0 < D (40 + 5 * a + b) → a ≠ b ∧ a < D 0 ∧ b < D 0)) ∧ ∀ s, s < D 2 → D (100 + 4 * s) < 5 ∧ D (101 + 4 * s) < 5 ∧ D (100 + 4 * s) ≠ D (101 + 4 * s) ∧ D (102 + 4 * s) ≤ D (103 + 4 * s) ∧ D (103 + 4 * s) ≤ 999
/-- what a good line leaves -/
def lnOK (n : Nat) (B : Nat → Nat) (k : Nat) (r : Nat × Nat × Nat × (Nat → Nat)) : Prop := r.1 = 0 → DOK r.2.2.2 ∧ k ≤ r.2.2.1 ∧ r.2.2.1 ≤ n
theorem lnOK_bad {n : Nat} {B : Nat → Nat} {k c s : Nat} {D : Nat → Nat} (hc : c ≠ 0) : lnOK n B k (c, s, 0, D) := fun h => absurd h hc
theorem place_ok {n : Nat} {B : Nat → Nat} {k0 k : Nat} {D : Nat → Nat} (h : DOK D) (hk : k ≤ n) : lnOK n B k (lnPlace n B k0 k D) := by
  have he := tE_b (B := B) hk
  have hs := tS_b (B := B) hk
  unfold lnPlace
  split
  · exact lnOK_bad (by omega)
  · rename_i z
    by_cases z2 : cN_ n B k 1 1000 = 0
    · rw [if_pos z2]
      intro _
      have c := cN0.mp z2
      obtain ⟨a1, a2, a3, a4, a5⟩ := h
      have o : ∀ j, j ≠ 0 → j ≠ 20 + D 0 → upN (upN D (20 + D 0) (tV n B k)) 0 (D 0 + 1) j = D j := fun j h1 h2 => by rw [upN_o h1, upN_o h2]
      have o0 : upN (upN D (20 + D 0) (tV n B k)) 0 (D 0 + 1) 0 = D 0 + 1 := upN_e
      refine ⟨?_, by show k ≤ tE n B k; omega, he.2.1⟩
      show DOK (upN (upN D (20 + D 0) (tV n B k)) 0 (D 0 + 1))
      refine ⟨?_, ?_, fun i hi => ?_, fun a b ha hb => ?_, fun s hs => ?_⟩
      · rw [o0, o 2 (by omega) (by omega), o 6 (by omega) (by omega), o 7 (by omega) (by omega), o 8 (by omega) (by omega), o 9 (by omega) (by omega), o 10 (by omega) (by omega)]; omega
      · rw [o 3 (by omega) (by omega), o 4 (by omega) (by omega), o 5 (by omega) (by omega)]; omega
      · rw [o0] at hi
        by_cases e : i = D 0
        · rw [e, upN_o (by omega), upN_e]; omega
        · rw [o _ (by omega) (by omega)]; exact a3 i (by omega)
      · rw [o _ (by omega) (by omega), o _ (by omega) (by omega), o0]
        have := a4 a b ha hb
        exact ⟨this.1, this.2.1, fun y => by have := this.2.2 y; omega⟩
      · rw [o 2 (by omega) (by omega)] at hs
        rw [o _ (by omega) (by omega), o _ (by omega) (by omega), o _ (by omega) (by omega), o _ (by omega) (by omega)]
        exact a5 s hs
    · rw [if_neg z2]; exact lnOK_bad z2
theorem way_ok {n : Nat} {B : Nat → Nat} {k : Nat} {D : Nat → Nat} (h : DOK D) (hk : k ≤ n) : lnOK n B k (lnWay n B k D) := by
  have he := tE_b (B := B) hk
  have hs := tS_b (B := B) hk
  have he2 := tE_b (B := B) he.2.1
  have hs2 := tS_b (B := B) he.2.1
  have he3 := tE_b (B := B) he2.2.1
  have hs3 := tS_b (B := B) he2.2.1
  unfold lnWay lnWay3
  generalize tE n B (tE n B k) = k3 at *
  generalize tE n B k = k2 at *
  by_cases z1 : cN_ n B k 0 (D 0) = 0
  · rw [if_pos z1]
    by_cases z2 : cN_ n B k2 0 (D 0) = 0
    · rw [if_pos z2]
      by_cases z3 : tV n B k = tV n B k2
      · rw [if_pos z3]; exact lnOK_bad (by omega)
      · rw [if_neg z3]
        by_cases z4 : 0 < D (40 + 5 * tV n B k + tV n B k2)
        · rw [if_pos z4]; exact lnOK_bad (by omega)
        · rw [if_neg z4]
          by_cases z5 : cN_ n B k3 1 100 = 0
          · rw [if_pos z5]
            intro _
            have c1 := cN0.mp z1
            have c2 := cN0.mp z2
            have c5 := cN0.mp z5
            obtain ⟨a1, a2, a3, a4, a5⟩ := h
            refine ⟨?_, by show k ≤ tE n B k3; omega, he3.2.1⟩
            show DOK (dWay D (tV n B k) (tV n B k2) (tV n B k3))
            unfold dWay
            generalize tV n B k = a at *
            generalize tV n B k2 = b at *
            generalize tV n B k3 = v at *
            have o : ∀ j, j ≠ 1 → (j < 40 ∨ 65 ≤ j) → upN (upN (upN D (40 + 5 * a + b) v) (40 + 5 * b + a) v) 1 (D 1 + 1) j = D j := fun j h1 h2 => by rw [upN_o h1, upN_o (by omega), upN_o (by omega)]
            have w : ∀ x y, x < 5 → y < 5 → upN (upN (upN D (40 + 5 * a + b) v) (40 + 5 * b + a) v) 1 (D 1 + 1) (40 + 5 * x + y) = if (x = a ∧ y = b) ∨ (x = b ∧ y = a) then v else D (40 + 5 * x + y) := fun x y hx hy => by
              rw [upN_o (by omega)]
              by_cases q1 : x = b ∧ y = a
              · rw [if_pos (Or.inr q1), q1.1, q1.2, upN_e]
              · rw [upN_o (by omega)]
                by_cases q2 : x = a ∧ y = b
                · rw [if_pos (Or.inl q2), q2.1, q2.2, upN_e]
                · rw [if_neg (fun y => y.elim q2 q1), upN_o (by omega)]
            refine ⟨?_, ?_, fun i hi => ?_, fun x y hx hy => ?_, fun s hs => ?_⟩
            · rw [o 0 (by omega) (by omega), o 2 (by omega) (by omega), o 6 (by omega) (by omega), o 7 (by omega) (by omega), o 8 (by omega) (by omega), o 9 (by omega) (by omega), o 10 (by omega) (by omega)]; exact a1
            · rw [o 3 (by omega) (by omega), o 4 (by omega) (by omega), o 5 (by omega) (by omega)]; exact a2
            · rw [o 0 (by omega) (by omega)] at hi
              rw [o _ (by omega) (by omega)]; exact a3 i hi
            · rw [w x y hx hy, w y x hy hx, o 0 (by omega) (by omega)]
              have := a4 x y hx hy
              by_cases q : (x = a ∧ y = b) ∨ (x = b ∧ y = a)
              · rw [if_pos q, if_pos (by omega)]
                exact ⟨rfl, by omega, fun _ => by omega⟩
              · rw [if_neg q, if_neg (by omega)]; exact this
            · rw [o 2 (by omega) (by omega)] at hs
              rw [o _ (by omega) (by omega), o _ (by omega) (by omega), o _ (by omega) (by omega), o _ (by omega) (by omega)]
              exact a5 s hs
          · rw [if_neg z5]; exact lnOK_bad z5
    · rw [if_neg z2]; exact lnOK_bad z2
  · rw [if_neg z1]; exact lnOK_bad z1
theorem shut_ok {n : Nat} {B : Nat → Nat} {k0 k : Nat} {D : Nat → Nat} (h : DOK D) (hk : k ≤ n) : lnOK n B k (lnShut n B k0 k D) := by
  have he := tE_b (B := B) hk
  have hs := tS_b (B := B) hk
  have he2 := tE_b (B := B) he.2.1
  have hs2 := tS_b (B := B) he.2.1
  have he3 := tE_b (B := B) he2.2.1
  have hs3 := tS_b (B := B) he2.2.1
  have he4 := tE_b (B := B) he3.2.1
  have hs4 := tS_b (B := B) he3.2.1
  unfold lnShut lnShut4
  generalize tE n B (tE n B (tE n B k)) = k4 at *
  generalize tE n B (tE n B k) = k3 at *
  generalize tE n B k = k2 at *
  split
  · exact lnOK_bad (by omega)
  · rename_i z0
    by_cases z1 : cN_ n B k 0 (D 0) = 0
    · rw [if_pos z1]
      by_cases z2 : cN_ n B k2 0 (D 0) = 0
      · rw [if_pos z2]
        by_cases z3 : D (40 + 5 * tV n B k + tV n B k2) = 0
        · rw [if_pos z3]; exact lnOK_bad (by omega)
        · rw [if_neg z3]
          by_cases z4 : cN_ n B k3 0 1000 = 0
          · rw [if_pos z4]
            by_cases z5 : cN_ n B k4 (tV n B k3) 1000 = 0
            · rw [if_pos z5]
              intro _
              have c1 := cN0.mp z1
              have c2 := cN0.mp z2
              have c4 := cN0.mp z4
              have c5 := cN0.mp z5
              obtain ⟨a1, a2, a3, a4, a5⟩ := h
              refine ⟨?_, by show k ≤ tE n B k4; omega, he4.2.1⟩
              show DOK (dShut D (tV n B k) (tV n B k2) (tV n B k3) (tV n B k4))
              unfold dShut
              generalize tV n B k = a at *
              generalize tV n B k2 = b at *
              generalize tV n B k3 = f at *
              generalize tV n B k4 = t at *
              have ab := a4 a b (by omega) (by omega)
              generalize hF : upN (upN (upN (upN (upN D (100 + 4 * D 2) a) (101 + 4 * D 2) b) (102 + 4 * D 2) f) (103 + 4 * D 2) t) 2 (D 2 + 1) = F
              have o : ∀ j, j ≠ 2 → j < 100 + 4 * D 2 → F j = D j := fun j h1 h2 => by rw [← hF, upN_o h1, upN_o (by omega), upN_o (by omega), upN_o (by omega), upN_o (by omega)]
              have f2 : F 2 = D 2 + 1 := by rw [← hF]; exact upN_e
              have g0 : F (100 + 4 * D 2) = a := by rw [← hF, upN_o (by omega), upN_o (by omega), upN_o (by omega), upN_o (by omega), upN_e]
              have g1 : F (101 + 4 * D 2) = b := by rw [← hF, upN_o (by omega), upN_o (by omega), upN_o (by omega), upN_e]
              have g2 : F (102 + 4 * D 2) = f := by rw [← hF, upN_o (by omega), upN_o (by omega), upN_e]
              have g3 : F (103 + 4 * D 2) = t := by rw [← hF, upN_o (by omega), upN_e]
              refine ⟨?_, ?_, fun i hi => ?_, fun x y hx hy => ?_, fun s hs => ?_⟩
              · rw [f2, o 0 (by omega) (by omega), o 6 (by omega) (by omega), o 7 (by omega) (by omega), o 8 (by omega) (by omega), o 9 (by omega) (by omega), o 10 (by omega) (by omega)]; omega
              · rw [o 3 (by omega) (by omega), o 4 (by omega) (by omega), o 5 (by omega) (by omega)]; exact a2
              · rw [o 0 (by omega) (by omega)] at hi
                rw [o _ (by omega) (by omega)]; exact a3 i hi
              · rw [o _ (by omega) (by omega), o _ (by omega) (by omega), o 0 (by omega) (by omega)]; exact a4 x y hx hy
              · rw [f2] at hs
                by_cases e : s = D 2
                · rw [e, g0, g1, g2, g3]; omega
                · rw [o _ (by omega) (by omega), o _ (by omega) (by omega), o _ (by omega) (by omega), o _ (by omega) (by omega)]
                  exact a5 s (by omega)
            · rw [if_neg z5]; exact lnOK_bad z5
          · rw [if_neg z4]; exact lnOK_bad z4
      · rw [if_neg z2]; exact lnOK_bad z2
    · rw [if_neg z1]; exact lnOK_bad z1
theorem up_ok {D F : Nat → Nat} (h : DOK D) (h1 : ∀ j, (j < 3 ∨ 11 ≤ j) → F j = D j) (h2 : (F 3 ≤ 4 ∧ F 4 ≤ 4 ∧ F 5 ≤ 4 ∧ 1 ≤ F 3 + F 4 + F 5) ∧ F 6 ≤ 2 ∧ 1 ≤ F 7 ∧ F 7 ≤ 999 ∧ F 8 ≤ 1 ∧ F 9 ≤ 1 ∧ F 10 ≤ 1) : DOK F := by
  obtain ⟨a1, a2, a3, a4, a5⟩ := h
  refine ⟨?_, h2.1, fun i hi => ?_, fun x y hx hy => ?_, fun s hs => ?_⟩
  · rw [h1 0 (by omega), h1 2 (by omega)]; omega
  · rw [h1 0 (by omega)] at hi
    rw [h1 _ (by omega)]; exact a3 i hi
  · rw [h1 _ (by omega), h1 _ (by omega), h1 0 (by omega)]; exact a4 x y hx hy
  · rw [h1 2 (by omega)] at hs
    rw [h1 _ (by omega), h1 _ (by omega), h1 _ (by omega), h1 _ (by omega)]; exact a5 s hs
theorem moves_ok {n : Nat} {B : Nat → Nat} {k0 k : Nat} {D : Nat → Nat} (h : DOK D) (hk : k ≤ n) : lnOK n B k (lnMoves n B k0 k D) := by
  have he := tE_b (B := B) hk
  have hs := tS_b (B := B) hk
  have he2 := tE_b (B := B) he.2.1
  have hs2 := tS_b (B := B) he.2.1
  have he3 := tE_b (B := B) he2.2.1
  have hs3 := tS_b (B := B) he2.2.1
  unfold lnMoves lnMoves3
  generalize tE n B (tE n B k) = k3 at *
  generalize tE n B k = k2 at *
  split
  · exact lnOK_bad (by omega)
  · by_cases z1 : cN_ n B k 0 5 = 0
    · rw [if_pos z1]
      by_cases z2 : cN_ n B k2 0 5 = 0
      · rw [if_pos z2]
        by_cases z3 : cN_ n B k3 0 5 = 0
        · rw [if_pos z3]
          split
          · exact lnOK_bad (by omega)
          · rename_i z4
            intro _
            have c1 := cN0.mp z1
            have c2 := cN0.mp z2
            have c3 := cN0.mp z3
            refine ⟨?_, by show k ≤ tE n B k3; omega, he3.2.1⟩
            show DOK (dMoves D (tV n B k) (tV n B k2) (tV n B k3))
            unfold dMoves
            have h1 := h.1
            refine up_ok h (fun j hj => by rw [upN_o (by omega), upN_o (by omega), upN_o (by omega), upN_o (by omega)]) ?_
            have e3 : upN (upN (upN (upN D 3 (tV n B k)) 4 (tV n B k2)) 5 (tV n B k3)) 8 1 3 = tV n B k := rfl
            have e4 : upN (upN (upN (upN D 3 (tV n B k)) 4 (tV n B k2)) 5 (tV n B k3)) 8 1 4 = tV n B k2 := rfl
            have e5 : upN (upN (upN (upN D 3 (tV n B k)) 4 (tV n B k2)) 5 (tV n B k3)) 8 1 5 = tV n B k3 := rfl
            have e6 : upN (upN (upN (upN D 3 (tV n B k)) 4 (tV n B k2)) 5 (tV n B k3)) 8 1 6 = D 6 := rfl
            have e7 : upN (upN (upN (upN D 3 (tV n B k)) 4 (tV n B k2)) 5 (tV n B k3)) 8 1 7 = D 7 := rfl
            have e8 : upN (upN (upN (upN D 3 (tV n B k)) 4 (tV n B k2)) 5 (tV n B k3)) 8 1 8 = 1 := rfl
            have e9 : upN (upN (upN (upN D 3 (tV n B k)) 4 (tV n B k2)) 5 (tV n B k3)) 8 1 9 = D 9 := rfl
            have e10 : upN (upN (upN (upN D 3 (tV n B k)) 4 (tV n B k2)) 5 (tV n B k3)) 8 1 10 = D 10 := rfl
            rw [e3, e4, e5, e6, e7, e8, e9, e10]
            omega
        · rw [if_neg z3]; exact lnOK_bad z3
      · rw [if_neg z2]; exact lnOK_bad z2
    · rw [if_neg z1]; exact lnOK_bad z1
theorem first_ok {n : Nat} {B : Nat → Nat} {k0 k : Nat} {D : Nat → Nat} (h : DOK D) (hk : k ≤ n) : lnOK n B k (lnFirst n B k0 k D) := by
  have he := tE_b (B := B) hk
  have hs := tS_b (B := B) hk
  have h1 := h.1
  have h2 := h.2.1
  have n9 := nmI_9 (n := n) (B := B) (k := k)
  unfold lnFirst
  split
  · exact lnOK_bad (by omega)
  · split
    · exact lnOK_bad (by omega)
    · split
      · exact lnOK_bad (by omega)
      · rename_i z
        intro _
        refine ⟨?_, by show k ≤ tE n B k; omega, he.2.1⟩
        show DOK (upN (upN D 6 (nmI n B k - 6)) 9 1)
        refine up_ok h (fun j hj => by rw [upN_o (by omega), upN_o (by omega)]) ?_
        have e3 : upN (upN D 6 (nmI n B k - 6)) 9 1 3 = D 3 := rfl
        have e4 : upN (upN D 6 (nmI n B k - 6)) 9 1 4 = D 4 := rfl
        have e5 : upN (upN D 6 (nmI n B k - 6)) 9 1 5 = D 5 := rfl
        have e6 : upN (upN D 6 (nmI n B k - 6)) 9 1 6 = nmI n B k - 6 := rfl
        have e7 : upN (upN D 6 (nmI n B k - 6)) 9 1 7 = D 7 := rfl
        have e8 : upN (upN D 6 (nmI n B k - 6)) 9 1 8 = D 8 := rfl
        have e9 : upN (upN D 6 (nmI n B k - 6)) 9 1 9 = 1 := rfl
        have e10 : upN (upN D 6 (nmI n B k - 6)) 9 1 10 = D 10 := rfl
        rw [e3, e4, e5, e6, e7, e8, e9, e10]
        omega
theorem most_ok {n : Nat} {B : Nat → Nat} {k0 k : Nat} {D : Nat → Nat} (h : DOK D) (hk : k ≤ n) : lnOK n B k (lnMost n B k0 k D) := by
  have he := tE_b (B := B) hk
  have hs := tS_b (B := B) hk
  have h1 := h.1
  have h2 := h.2.1
  unfold lnMost
  split
  · exact lnOK_bad (by omega)
  · by_cases z : cN_ n B k 1 1000 = 0
    · rw [if_pos z]
      intro _
      have c := cN0.mp z
      refine ⟨?_, by show k ≤ tE n B k; omega, he.2.1⟩
      show DOK (upN (upN D 7 (tV n B k)) 10 1)
      refine up_ok h (fun j hj => by rw [upN_o (by omega), upN_o (by omega)]) ?_
      have e3 : upN (upN D 7 (tV n B k)) 10 1 3 = D 3 := rfl
      have e4 : upN (upN D 7 (tV n B k)) 10 1 4 = D 4 := rfl
      have e5 : upN (upN D 7 (tV n B k)) 10 1 5 = D 5 := rfl
      have e6 : upN (upN D 7 (tV n B k)) 10 1 6 = D 6 := rfl
      have e7 : upN (upN D 7 (tV n B k)) 10 1 7 = tV n B k := rfl
      have e8 : upN (upN D 7 (tV n B k)) 10 1 8 = D 8 := rfl
      have e9 : upN (upN D 7 (tV n B k)) 10 1 9 = D 9 := rfl
      have e10 : upN (upN D 7 (tV n B k)) 10 1 10 = 1 := rfl
      rw [e3, e4, e5, e6, e7, e8, e9, e10]
      omega
    · rw [if_neg z]; exact lnOK_bad z
theorem line_ok {n : Nat} {B : Nat → Nat} {k0 : Nat} {D : Nat → Nat} (h : DOK D) (hk : k0 ≤ n) : lnOK n B (tE n B k0) (line n B k0 D) := by
  have he := (tE_b (B := B) hk).2.1
  unfold line
  split
  · exact place_ok h he
  · split
    · exact way_ok h he
    · split
      · exact shut_ok h he
      · split
        · exact moves_ok h he
        · split
          · exact first_ok h he
          · split
            · exact most_ok h he
            · exact lnOK_bad (by omega)
