def ntB (I : hI_) (s : Int32) (b c : Nat) : Prop := if s = 1 then pcN I b ≤ pcN I c else pcN I c ≤ pcN I b
theorem ntB_rf {I : hI_} {s : Int32} {b : Nat} : ntB I s b b := by unfold ntB; split <;> exact Nat.le_refl _
theorem ntB_tr {I : hI_} {s : Int32} {a b c : Nat} (h1 : ntB I s a b) (h2 : ntB I s b c) : ntB I s a c := by
  unfold ntB at *
  by_cases z : s = 1
  · rw [if_pos z] at *; omega
  · rw [if_neg z] at *; omega
theorem btB_nt {I : hI_} {s : Int32} {c b : Nat} : (btB I s c b = true → ntB I s c b) ∧ (¬ btB I s c b = true → ntB I s b c) := by
  unfold btB ntB
  by_cases z : s = 1
  · rw [if_pos z, if_pos z, if_pos z, decide_eq_true_eq]; omega
  · rw [if_neg z, if_neg z, if_neg z, decide_eq_true_eq]; omega
theorem bs_best {I : hI_} {L : Nat → Nat} {s : Int32} : ∀ n c, c < n → ¬ L c = 0 → cK I c 2 = s → ∃ b, bsN I L s n = some b ∧ ntB I s b c
  | 0, c, h, _, _ => by omega
  | n + 1, c, h, h1, h2 => by
    have e : bsN I L s (n + 1) = bsP I L s n (bsN I L s n) := rfl
    rw [e]
    by_cases ec : c = n
    · subst ec
      have z' : ¬ (L c = 0 ∨ ¬ cK I c 2 = s) := fun y => y.elim h1 (fun q => q h2)
      cases hb : bsN I L s c with
      | none => exact ⟨c, if_neg z', ntB_rf⟩
      | some b =>
        have e3 : bsP I L s c (some b) = if btB I s c b = true then some c else some b := if_neg z'
        rw [e3]
        by_cases q : btB I s c b = true
        · rw [if_pos q]; exact ⟨c, rfl, ntB_rf⟩
        · rw [if_neg q]; exact ⟨b, rfl, btB_nt.2 q⟩
    · obtain ⟨b, hb, hn⟩ := bs_best n c (by omega) h1 h2
      rw [hb]
      by_cases z' : L n = 0 ∨ ¬ cK I n 2 = s
      · exact ⟨b, if_pos z', hn⟩
      · have e3 : bsP I L s n (some b) = if btB I s n b = true then some n else some b := if_neg z'
        rw [e3]
        by_cases q : btB I s n b = true
        · rw [if_pos q]; exact ⟨n, rfl, ntB_tr (btB_nt.1 q) hn⟩
        · rw [if_neg q]; exact ⟨b, rfl, hn⟩
theorem trF_ge {I : hI_} {n : Nat} : ∀ (f : Nat) (L : Nat → Nat) (br un : Nat), br ≤ (trF I n f L br un).1
  | 0, L, br, un => Nat.le_refl _
  | f + 1, L, br, un => by
    cases hd : trD I L n with
    | none => rw [trF_n hd]; exact Nat.le_refl _
    | some q =>
      obtain ⟨x, y⟩ := q
      rw [trF_s hd]
      exact Nat.le_trans (Nat.le_add_right _ _) (trF_ge f _ _ _)
/-- some two calls bring something -/
def pairS (I : hI_) (L : Nat → Nat) (n : Nat) : Prop := ∃ x y, x < n ∧ y < n ∧ ¬ L x = 0 ∧ ¬ L y = 0 ∧ cK I x 2 = 1 ∧ cK I y 2 = 0 ∧ pcN I x < pcN I y
theorem trD_iff {I : hI_} {L : Nat → Nat} {n : Nat} : (∃ q, trD I L n = some q) ↔ pairS I L n := by
  constructor
  · rintro ⟨⟨x, y⟩, h⟩
    obtain ⟨h1, h2, h3, hx, hy, -, lx, ly⟩ := trD_ok h
    exact ⟨x, y, hx, hy, lx, ly, (bsN_lt n x h1).2.2, (bsN_lt n y h2).2.2, h3⟩
  · rintro ⟨x, y, hx, hy, lx, ly, sx, sy, hp⟩
    obtain ⟨a, ha, na⟩ := bs_best n x hx lx sx
    obtain ⟨b, hb, nb⟩ := bs_best n y hy ly sy
    have na : pcN I a ≤ pcN I x := by unfold ntB at na; rw [if_pos rfl] at na; exact na
    have nb : pcN I y ≤ pcN I b := by unfold ntB at nb; rw [if_neg (by decide)] at nb; exact nb
    refine ⟨(a, b), ?_⟩
    unfold trD
    rw [ha, hb]
    dsimp only
    rw [if_pos (by omega)]
theorem trF_pos {I : hI_} {n f : Nat} {L : Nat → Nat} : 0 < (trF I n (f + 1) L 0 0).1 ↔ pairS I L n := by
  rw [← trD_iff]
  constructor
  · intro h
    cases hd : trD I L n with
    | none => rw [trF_n hd] at h; exact absurd h (by omega)
    | some q => exact ⟨q, rfl⟩
  · rintro ⟨⟨x, y⟩, hd⟩
    rw [trF_s hd]
    obtain ⟨-, -, h3, -, -, -, lx, ly⟩ := trD_ok hd
    have hm : 0 < min (L x) (L y) * (pcN I y - pcN I x) := Nat.mul_pos (by omega) (by omega)
    have := trF_ge (I := I) (n := n) f (trL L x y) (0 + min (L x) (L y) * (pcN I y - pcN I x)) (0 + min (L x) (L y))
    omega
theorem trF_le {I : hI_} (h : Rel I) : ∀ (f : Nat) (L : Nat → Nat) (br un : Nat), (∀ j, L j ≤ 99) → (trF I (nC I) f L br un).1 ≤ br + f * 98802
  | 0, L, br, un, _ => by show br ≤ _; omega
  | f + 1, L, br, un, hL => by
    cases hd : trD I L (nC I) with
    | none => rw [trF_n hd]; show br ≤ _; omega
    | some q =>
      obtain ⟨x, y⟩ := q
      rw [trF_s hd]
      obtain ⟨-, -, -, hx, hy, -, -, -⟩ := trD_ok hd
      have px := pc_ok h hx
      have py := pc_ok h hy
      have hm : min (L x) (L y) * (pcN I y - pcN I x) ≤ 99 * 998 := Nat.mul_le_mul (by have := hL x; omega) (by omega)
      have := trF_le h f (trL L x y) (br + min (L x) (L y) * (pcN I y - pcN I x)) (un + min (L x) (L y)) (fun j => trL_le (hL j))
      omega
theorem gnN_pos {I : hI_} (h : Rel I) {p t : Nat} {su : Int32} : (nI (gnN I p t su).1 ≤ 0) ↔ ¬ pairS I (lfN I p t su) (nC I) := by
  have hb := trF_le h 12 (lfN I p t su) 0 0 (lfN_le h)
  have hp := trF_pos (I := I) (n := nC I) (f := 11) (L := lfN I p t su)
  have e : gnN I p t su = trF I (nC I) 12 (lfN I p t su) 0 0 := rfl
  rw [e, ← hp]
  constructor
  · intro z y
    exact absurd z (nI_ge (a := 0) y (by omega))
  · intro z
    have z' : ¬ 0 < (trF I (nC I) 12 (lfN I p t su) 0 0).1 := z
    have : (trF I (nC I) 12 (lfN I p t su) 0 0).1 = 0 := by omega
    rw [this]; exact Int32.le_refl 0
