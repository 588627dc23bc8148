/-- the last open minute up to t, one up (0: none) -/
def upn (c : Nat → Bool) : Nat → Nat
  | 0 => 0
  | t + 1 => if c t then upn c t else t + 1
theorem upn_le (c : Nat → Bool) : ∀ t, upn c t ≤ t
  | 0 => Nat.le_refl 0
  | t + 1 => by
    unfold upn
    split
    · have := upn_le c t; omega
    · exact Nat.le_refl _
theorem upn_open {c : Nat → Bool} : ∀ t, 0 < upn c t → c (upn c t - 1) = false
  | 0, h => by unfold upn at h; omega
  | t + 1, h => by
    unfold upn at h ⊢
    split at h
    · rename_i hc; rw [if_pos hc]; exact upn_open t h
    · rename_i hc; rw [if_neg hc]; simpa using hc
theorem upn_shut {c : Nat → Bool} : ∀ t u, upn c t ≤ u → u < t → c u = true
  | 0, u, h1, h2 => by omega
  | t + 1, u, h1, h2 => by
    unfold upn at h1
    split at h1
    · rename_i hc
      by_cases e : u = t
      · subst e; exact hc
      · exact upn_shut t u h1 (by omega)
    · omega
/-- first open from m on is below t iff m is below the last open one's next -/
theorem gal {c : Nat → Bool} (hf : fin c) {m t : Nat} : op c m < t ↔ m < upn c t := by
  constructor
  · intro h
    rcases Nat.lt_or_ge m (upn c t) with h1 | h1
    · exact h1
    · have := upn_shut (c := c) t (op c m) (Nat.le_trans h1 (op_ge c m)) h
      rw [op_open hf] at this; cases this
  · intro h
    have h1 := upn_open (c := c) t (by omega)
    have h2 := op_le (c := c) (t := m) (u := upn c t - 1) (by omega) h1
    have h3 := upn_le c t
    omega
/-- told one up: G v = m + 1 where m is the latest minute, 0: none -/
def cocl (w : Wld) (G : Nat → Nat) : Prop := ∀ u v, 0 < w.1 u v → upn (w.2 u v) (G v - w.1 u v) ≤ G u
theorem lat_ge {w : Wld} (hw : wok w) {G : Nat → Nat} {b T : Nat} (hG : cocl w G) (hb : T + 1 ≤ G b) (hs : ∀ v, G v ≤ 10000) {a m : Nat} (h : arr w a m b ≤ T) : m < G a := by
  rcases Nat.lt_or_ge m (G a) with h1 | h1
  · exact h1
  · exfalso
    have hc : clsd w G := by
      refine ⟨hs, fun u v huv => ?_⟩
      rcases Nat.lt_or_ge (op (w.2 u v) (G u) + w.1 u v) (G v) with h2 | h2
      · have h3 : op (w.2 u v) (G u) < G v - w.1 u v := by omega
        have h4 := (gal (hw.1 u v)).mp h3
        have h5 := hG u v huv
        omega
      · exact h2
    have := arr_ge hc h1 b
    omega
/-- the latest minute (one up) at which what comes to b by T left; 0: none -/
noncomputable def lat (w : Wld) (a b T : Nat) : Nat := grt (fun x => x = 0 ∨ arr w a (x - 1) b ≤ T) (T + 1)
theorem lat_cond {w : Wld} {a b T : Nat} : lat w a b T = 0 ∨ arr w a (lat w a b T - 1) b ≤ T := grt_is (p := fun x => x = 0 ∨ arr w a (x - 1) b ≤ T) (Or.inl rfl) (T + 1)
theorem lat_le {w : Wld} {a b T : Nat} : lat w a b T ≤ T + 1 := grt_le _ _
theorem lat_iff {w : Wld} (hw : wok w) {a b T m : Nat} (hT : T < 10000) : m < lat w a b T ↔ arr w a m b ≤ T := by
  constructor
  · intro h
    rcases lat_cond (w := w) (a := a) (b := b) (T := T) with h1 | h1
    · omega
    · exact Nat.le_trans (arr_mono hw (by omega)) h1
  · intro h
    have h1 : m ≤ T := by
      rcases Nat.lt_or_ge m 10001 with h2 | h2
      · exact Nat.le_trans (arr_late (by omega)) h
      · rw [arr_never (by omega)] at h; omega
    have := grt_ge (p := fun x => x = 0 ∨ arr w a (x - 1) b ≤ T) (T + 1) (m + 1) (by omega) (Or.inr h)
    show m < grt _ _
    omega
theorem lat_cocl {w : Wld} (hw : wok w) {b T : Nat} (hT : T < 10000) : cocl w (fun v => lat w v b T) := by
  intro u v huv
  rcases Nat.eq_zero_or_pos (upn (w.2 u v) (lat w v b T - w.1 u v)) with h | h
  · rw [h]; exact Nat.zero_le _
  · have h1 : upn (w.2 u v) (lat w v b T - w.1 u v) - 1 < upn (w.2 u v) (lat w v b T - w.1 u v) := by omega
    have h2 := (gal (hw.1 u v)).mpr h1
    have h3 := arr_hop hw (a := u) (t := upn (w.2 u v) (lat w v b T - w.1 u v) - 1) huv
    have h4 : arr w u (upn (w.2 u v) (lat w v b T - w.1 u v) - 1) v < lat w v b T := by omega
    have h5 := (lat_iff hw hT).mp h4
    have h6 := Nat.le_trans (arr_via hw (u := v)) h5
    have h7 := (lat_iff hw hT).mpr h6
    simp only
    omega
/-- who ends co-closed and stayed below every co-closed one is it -/
theorem lat_eq {w : Wld} (hw : wok w) {b T : Nat} (hT : T < 10000) {G : Nat → Nat} (h1 : cocl w G) (h2 : T + 1 ≤ G b) (h0 : ∀ v, G v ≤ 10000) (h3 : ∀ F, cocl w F → T + 1 ≤ F b → ∀ v, G v ≤ F v) (v : Nat) : lat w v b T = G v := by
  have hb : T + 1 ≤ lat w b b T := by
    have : T < lat w b b T := (lat_iff hw hT).mpr arr_self
    omega
  have h4 := h3 _ (lat_cocl hw hT) hb v
  refine Nat.le_antisymm ?_ h4
  rcases Nat.eq_zero_or_pos (lat w v b T) with h | h
  · omega
  · have h5 : lat w v b T - 1 < lat w v b T := by omega
    have h6 := lat_ge hw h1 h2 h0 ((lat_iff hw hT).mp h5)
    omega
/-- how far: at most 1000 + 99 for each place that is reached earlier -/
def cntB (p : Nat → Bool) : Nat → Nat
  | 0 => 0
  | n + 1 => cntB p n + (if p n then 1 else 0)
theorem cntB_le {p q : Nat → Bool} (h : ∀ x, p x = true → q x = true) : ∀ n, cntB p n ≤ cntB q n
  | 0 => Nat.le_refl 0
  | n + 1 => by
    unfold cntB
    have := cntB_le h n
    by_cases hp : p n = true
    · rw [if_pos hp, if_pos (h n hp)]; omega
    · rw [if_neg hp]; split <;> omega
theorem cntB_lt {p q : Nat → Bool} (h : ∀ x, p x = true → q x = true) {u : Nat} (hu : p u = false) (hq : q u = true) : ∀ n, u < n → cntB p n < cntB q n
  | 0, hn => by omega
  | n + 1, hn => by
    unfold cntB
    by_cases e : u = n
    · subst e
      have := cntB_le h u
      rw [hq, hu]; simp; omega
    · have := cntB_lt h hu hq n (by omega)
      by_cases hp : p n = true
      · rw [if_pos hp, if_pos (h n hp)]; omega
      · rw [if_neg hp]; split <;> omega
theorem cntB_n {p : Nat → Bool} : ∀ n, cntB p n ≤ n
  | 0 => Nat.le_refl 0
  | n + 1 => by
    unfold cntB
    have := cntB_n (p := p) n
    split <;> omega
theorem arr_far {w : Wld} (hw : wok w) {a t : Nat} (ht : t ≤ 1000) : ∀ x v, arr w a t v = x → x < 10000 → x ≤ 1000 + 99 * cntB (fun u => decide (arr w a t u < x)) 5 := by
  intro x
  induction x using Nat.strongRecOn with
  | ind x ih =>
    intro v hv hx
    by_cases e : v = a
    · subst e
      rw [arr_own (by omega)] at hv
      omega
    · obtain ⟨u, hu, h1⟩ := arr_step hw (a := a) (t := t) (by omega) e (by rw [hv]; exact hx)
      have hge := op_ge (w.2 u v) (arr w a t u)
      have hux : arr w a t u < x := by omega
      have h2 := ih _ hux u rfl (by omega)
      have h3 := cntB_lt (p := fun y => decide (arr w a t y < arr w a t u)) (q := fun y => decide (arr w a t y < x)) (fun y hy => by simp at hy ⊢; omega) (u := u) (by simp) (by simpa using hux) 5 (hw.2.2.2.2 u v hu).1
      have h4 := op_1000 (hw.1 u v) (t := arr w a t u)
      have h5 := hw.2.1 u v
      omega
theorem arr_1500 {w : Wld} (hw : wok w) {a t v : Nat} (ht : t ≤ 1000) (h : arr w a t v < 10000) : arr w a t v ≤ 1495 := by
  have h1 := arr_far hw ht _ v rfl h
  have h2 := cntB_n (p := fun u => decide (arr w a t u < arr w a t v)) 5
  omega
/-- who is reached can be reached from: at any minute up to 1000 -/
theorem arr_nbr {w : Wld} (hw : wok w) {a t u v : Nat} (ht : t ≤ 1000) (h : arr w a t u < 10000) (hv : 0 < w.1 u v) : arr w a t v < 10000 := by
  have h1 := arr_1500 hw ht h
  have h2 := (arr_clsd hw (a := a) (t := t)).2 u v hv
  have h3 := op_1000 (hw.1 u v) (t := arr w a t u)
  have h5 := hw.2.1 u v
  omega
theorem arr_conn {w : Wld} (hw : wok w) {a b t u : Nat} (ht : t ≤ 1000) (hu : u ≤ 1000) (h : arr w a t b < 10000) : arr w b u a < 10000 := by
  apply Classical.byContradiction
  intro hn
  have hc := arr_clsd hw (a := a) (t := t)
  have h1 : clsd w (fun x => if arr w b u x < 10000 then 10000 else arr w a t x) := by
    refine ⟨fun x => ?_, fun y x hx => ?_⟩
    · dsimp only
      split
      · exact Nat.le_refl _
      · exact hc.1 x
    · dsimp only
      by_cases hy : arr w b u y < 10000
      · rw [if_pos hy, if_pos (arr_nbr hw hu hy hx)]
        exact Nat.le_trans (op_ge _ _) (Nat.le_add_right _ _)
      · have hnx : ¬ arr w b u x < 10000 := fun z => hy (arr_nbr hw hu z (by rw [hw.2.2.1]; exact hx))
        rw [if_neg hy, if_neg hnx]
        exact hc.2 y x hx
  have h2 := arr_ge (a := a) (t := t) h1 (by rw [if_neg hn]; exact arr_self) b
  have h3 : arr w b u b < 10000 := by rw [arr_own (w := w) (a := b) (t := u) (by omega)]; omega
  rw [if_pos h3] at h2
  omega
theorem arr_conn2 {w : Wld} (hw : wok w) {a b t u : Nat} (ht : t ≤ 1000) (hu : u ≤ 1000) (h : arr w a t b < 10000) : arr w a u b < 10000 := arr_conn hw (Nat.le_refl 1000) hu (arr_conn hw ht (Nat.le_refl 1000) h)
/-- from one minute to the next the way grows by more than the minute only at the beginning of a shut -/
theorem arr_next {w : Wld} (hw : wok w) {a t : Nat} (ht : t + 1 ≤ 10000) (hn : ∀ u v, 0 < w.1 u v → w.2 u v (arr w a (t + 1) u) = true → w.2 u v (arr w a (t + 1) u - 1) = false → arr w a (t + 1) u ≤ arr w a t u) (v : Nat) : arr w a (t + 1) v ≤ arr w a t v + 1 := by
  have c0 := arr_clsd hw (a := a) (t := t)
  have c1 := arr_clsd hw (a := a) (t := t + 1)
  have hm : ∀ x, arr w a t x ≤ arr w a (t + 1) x := fun x => arr_mono hw (by omega)
  have h1 : clsd w (fun x => max (arr w a t x) (arr w a (t + 1) x - 1)) := by
    refine ⟨fun x => by have := c0.1 x; have := c1.1 x; dsimp only; omega, fun u x hx => ?_⟩
    dsimp only
    have e0 := c0.2 u x hx
    have e1 := c1.2 u x hx
    have g0 := op_mono (hw.1 u x) (show arr w a t u ≤ max (arr w a t u) (arr w a (t + 1) u - 1) by omega)
    by_cases hd : arr w a (t + 1) u ≤ arr w a t u
    · have g1 := op_mono (hw.1 u x) (show arr w a (t + 1) u ≤ max (arr w a t u) (arr w a (t + 1) u - 1) by omega)
      omega
    · have em : max (arr w a t u) (arr w a (t + 1) u - 1) = arr w a (t + 1) u - 1 := by omega
      rw [em] at g0 ⊢
      have hpos : 0 < arr w a (t + 1) u := by omega
      -- op at the next is at most op here and one
      have key : op (w.2 u x) (arr w a (t + 1) u) ≤ op (w.2 u x) (arr w a (t + 1) u - 1) + 1 := by
        by_cases q : w.2 u x (arr w a (t + 1) u - 1) = true
        · have q1 := op_ge (w.2 u x) (arr w a (t + 1) u - 1)
          have q2 := op_open (hw.1 u x) (arr w a (t + 1) u - 1)
          have q3 : op (w.2 u x) (arr w a (t + 1) u - 1) ≠ arr w a (t + 1) u - 1 := fun z => by rw [z, q] at q2; cases q2
          have := op_le (c := w.2 u x) (t := arr w a (t + 1) u) (u := op (w.2 u x) (arr w a (t + 1) u - 1)) (by omega) q2
          omega
        · have q : w.2 u x (arr w a (t + 1) u - 1) = false := by simpa using q
          by_cases r : w.2 u x (arr w a (t + 1) u) = true
          · exact absurd (hn u x hx r q) hd
          · have r : w.2 u x (arr w a (t + 1) u) = false := by simpa using r
            rw [op_free (hw.1 u x) r, op_free (hw.1 u x) q]; omega
      omega
  have h2 := arr_ge (a := a) (t := t) h1 (by
    have := arr_self (w := w) (a := a) (t := t)
    have := arr_self (w := w) (a := a) (t := t + 1)
    show max _ _ ≤ t
    omega) v
  have h3 : max (arr w a t v) (arr w a (t + 1) v - 1) ≤ arr w a t v := h2
  omega
