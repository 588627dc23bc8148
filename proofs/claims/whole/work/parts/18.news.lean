/-! NEWS: the first open minute, the last one, when what leaves is where -/
/-- from t on the first minute that is not shut; n bounds the search -/
def opn (c : Nat → Bool) : Nat → Nat → Nat
  | 0, t => t
  | n + 1, t => if c t then opn c n (t + 1) else t
def op (c : Nat → Bool) (t : Nat) : Nat := opn c 1000 t
/-- nothing is shut from minute 1000 on -/
def fin (c : Nat → Bool) : Prop := ∀ t, 1000 ≤ t → c t = false
theorem opn_ge {c : Nat → Bool} : ∀ n t, t ≤ opn c n t
  | 0, t => Nat.le_refl t
  | n + 1, t => by
    unfold opn
    split
    · have := opn_ge (c := c) n (t + 1); omega
    · exact Nat.le_refl t
theorem opn_shut {c : Nat → Bool} : ∀ n t u, t ≤ u → u < opn c n t → c u = true
  | 0, t, u, h1, h2 => by unfold opn at h2; omega
  | n + 1, t, u, h1, h2 => by
    unfold opn at h2
    split at h2
    · rename_i hc
      by_cases e : t = u
      · subst e; exact hc
      · exact opn_shut n (t + 1) u (by omega) h2
    · omega
theorem opn_open {c : Nat → Bool} (hf : fin c) : ∀ n t, 1000 ≤ t + n → c (opn c n t) = false
  | 0, t, h => by unfold opn; exact hf t (by omega)
  | n + 1, t, h => by
    unfold opn
    split
    · exact opn_open hf n (t + 1) (by omega)
    · rename_i hc; simpa using hc
theorem op_ge (c : Nat → Bool) (t : Nat) : t ≤ op c t := opn_ge 1000 t
theorem op_shut {c : Nat → Bool} {t u : Nat} (h1 : t ≤ u) (h2 : u < op c t) : c u = true := opn_shut 1000 t u h1 h2
theorem op_open {c : Nat → Bool} (hf : fin c) (t : Nat) : c (op c t) = false := opn_open hf 1000 t (by omega)
theorem op_le {c : Nat → Bool} {t u : Nat} (h1 : t ≤ u) (h2 : c u = false) : op c t ≤ u := by
  rcases Nat.lt_or_ge u (op c t) with h | h
  · rw [op_shut h1 h] at h2; cases h2
  · exact h
theorem op_eq {c : Nat → Bool} (hf : fin c) {t u : Nat} (h1 : t ≤ u) (h2 : c u = false) (h3 : ∀ v, t ≤ v → v < u → c v = true) : op c t = u := by
  have h4 := op_le h1 h2
  rcases Nat.lt_or_ge (op c t) u with h | h
  · have := h3 _ (op_ge c t) h
    rw [op_open hf] at this; cases this
  · omega
theorem op_mono {c : Nat → Bool} (hf : fin c) {t u : Nat} (h : t ≤ u) : op c t ≤ op c u := op_le (Nat.le_trans h (op_ge c u)) (op_open hf u)
theorem op_free {c : Nat → Bool} (hf : fin c) {t : Nat} (h : c t = false) : op c t = t := op_eq hf (Nat.le_refl t) h (fun v h1 h2 => by omega)
theorem op_1000 {c : Nat → Bool} (hf : fin c) {t : Nat} : op c t ≤ max t 1000 := by
  rcases Nat.lt_or_ge t 1000 with h | h
  · exact Nat.le_trans (op_le (u := 1000) (by omega) (hf 1000 (by omega))) (by omega)
  · rw [op_free hf (hf t h)]; omega
/-- a world of ways: minutes of each way (0: none), when it is shut -/
abbrev Wld : Type := (Nat → Nat → Nat) × (Nat → Nat → Nat → Bool)
def wok (w : Wld) : Prop := (∀ a b, fin (w.2 a b)) ∧ (∀ a b, w.1 a b ≤ 99) ∧ (∀ a b, w.1 a b = w.1 b a) ∧ (∀ a b, w.2 a b = w.2 b a) ∧ (∀ a b, 0 < w.1 a b → a < 5 ∧ b < 5 ∧ a ≠ b)
def clsd (w : Wld) (F : Nat → Nat) : Prop := (∀ v, F v ≤ 10000) ∧ ∀ u v, 0 < w.1 u v → F v ≤ op (w.2 u v) (F u) + w.1 u v
/-- the greatest number up to n of a kind -/
noncomputable def grt (p : Nat → Prop) : Nat → Nat
  | 0 => 0
  | n + 1 => @ite Nat (p (n + 1)) (Classical.propDecidable _) (n + 1) (grt p n)
theorem grt_le (p : Nat → Prop) : ∀ n, grt p n ≤ n
  | 0 => Nat.le_refl 0
  | n + 1 => by
    unfold grt
    split
    · exact Nat.le_refl _
    · have := grt_le p n; omega
theorem grt_is {p : Nat → Prop} (h0 : p 0) : ∀ n, p (grt p n)
  | 0 => h0
  | n + 1 => by
    unfold grt
    split
    · assumption
    · exact grt_is h0 n
theorem grt_ge {p : Nat → Prop} : ∀ n x, x ≤ n → p x → x ≤ grt p n
  | 0, x, h, _ => by omega
  | n + 1, x, h, hx => by
    unfold grt
    split
    · exact h
    · rename_i hn
      by_cases e : x = n + 1
      · subst e; exact absurd hx hn
      · exact grt_ge n x (by omega) hx
/-- when what leaves a at t comes to v; 10000: never -/
noncomputable def arr (w : Wld) (a t v : Nat) : Nat := grt (fun x => ∃ F, clsd w F ∧ F a ≤ t ∧ F v = x) 10000
theorem clsd_const {w : Wld} {k : Nat} (hk : k ≤ 10000) : clsd w (fun _ => k) := ⟨fun _ => hk, fun u v _ => Nat.le_trans (op_ge _ _) (Nat.le_add_right _ _)⟩
theorem arr_is {w : Wld} {a t v : Nat} : ∃ F, clsd w F ∧ F a ≤ t ∧ F v = arr w a t v := grt_is (p := fun x => ∃ F, clsd w F ∧ F a ≤ t ∧ F v = x) ⟨fun _ => 0, clsd_const (by omega), Nat.zero_le _, rfl⟩ 10000
theorem arr_le {w : Wld} {a t v : Nat} : arr w a t v ≤ 10000 := grt_le _ _
theorem arr_ge {w : Wld} {a t : Nat} {F : Nat → Nat} (h1 : clsd w F) (h2 : F a ≤ t) (v : Nat) : F v ≤ arr w a t v := grt_ge 10000 (F v) (h1.1 v) ⟨F, h1, h2, rfl⟩
theorem arr_clsd {w : Wld} (hw : wok w) {a t : Nat} : clsd w (arr w a t) := by
  refine ⟨fun v => arr_le, fun u v h => ?_⟩
  obtain ⟨F, h1, h2, h3⟩ := arr_is (w := w) (a := a) (t := t) (v := v)
  rw [← h3]
  have h4 := op_mono (hw.1 u v) (arr_ge h1 h2 u)
  have h5 := h1.2 u v h
  omega
theorem arr_self {w : Wld} {a t : Nat} : arr w a t a ≤ t := by
  obtain ⟨F, h1, h2, h3⟩ := arr_is (w := w) (a := a) (t := t) (v := a)
  omega
theorem arr_late {w : Wld} {a t v : Nat} (h : t ≤ 10000) : t ≤ arr w a t v := arr_ge (clsd_const h) (Nat.le_refl t) v
theorem arr_own {w : Wld} {a t : Nat} (h : t ≤ 10000) : arr w a t a = t := Nat.le_antisymm arr_self (arr_late h)
theorem arr_never {w : Wld} {a t v : Nat} (h : 10000 ≤ t) : arr w a t v = 10000 := Nat.le_antisymm arr_le (arr_ge (F := fun _ => 10000) (clsd_const (Nat.le_refl _)) h v)
/-- who ends closed and stayed above every closed one is it -/
theorem arr_eq {w : Wld} {a t : Nat} {D : Nat → Nat} (h1 : clsd w D) (h2 : D a ≤ t) (h3 : ∀ F, clsd w F → F a ≤ t → ∀ v, F v ≤ D v) (v : Nat) : arr w a t v = D v := by
  obtain ⟨F, g1, g2, g3⟩ := arr_is (w := w) (a := a) (t := t) (v := v)
  exact Nat.le_antisymm (by rw [← g3]; exact h3 F g1 g2 v) (arr_ge h1 h2 v)
theorem arr_mono {w : Wld} (hw : wok w) {a t u v : Nat} (h : t ≤ u) : arr w a t v ≤ arr w a u v := arr_ge (arr_clsd hw) (Nat.le_trans arr_self h) v
/-- by way of u -/
theorem arr_via {w : Wld} (hw : wok w) {a t u v : Nat} : arr w a t v ≤ arr w u (arr w a t u) v := arr_ge (arr_clsd hw) (Nat.le_refl _) v
theorem arr_hop {w : Wld} (hw : wok w) {a t v : Nat} (h : 0 < w.1 a v) : arr w a t v ≤ op (w.2 a v) t + w.1 a v := by
  have h1 := (arr_clsd hw (a := a) (t := t)).2 a v h
  have h2 := op_mono (hw.1 a v) (arr_self (w := w) (a := a) (t := t))
  omega
/-- what comes, comes by a way -/
theorem arr_step {w : Wld} (hw : wok w) {a t v : Nat} (ht : t ≤ 10000) (hv : v ≠ a) (h : arr w a t v < 10000) : ∃ u, 0 < w.1 u v ∧ arr w a t v = op (w.2 u v) (arr w a t u) + w.1 u v := by
  apply Classical.byContradiction
  intro hn
  have hc := arr_clsd hw (a := a) (t := t)
  -- then v could be later by one
  have h1 : clsd w (fun x => if x = v then arr w a t v + 1 else arr w a t x) := by
    refine ⟨fun x => ?_, fun u x hx => ?_⟩
    · dsimp only
      by_cases e : x = v
      · rw [if_pos e]; omega
      · rw [if_neg e]; exact hc.1 x
    · dsimp only
      have h2 := hc.2 u x hx
      have huv : arr w a t u ≤ (if u = v then arr w a t v + 1 else arr w a t u) := by
        by_cases e : u = v
        · rw [if_pos e, e]; omega
        · rw [if_neg e]; omega
      have h3 := op_mono (hw.1 u x) huv
      by_cases e : x = v
      · subst e
        have hne : ¬ u = x := fun e => by subst e; exact (hw.2.2.2.2 u u hx).2.2 rfl
        rw [if_pos rfl, if_neg hne]
        have : arr w a t x ≠ op (w.2 u x) (arr w a t u) + w.1 u x := fun e => hn ⟨u, hx, e⟩
        omega
      · rw [if_neg e]; omega
  have h2 := arr_ge (a := a) (t := t) h1 (by rw [if_neg (fun e => hv e.symm)]; exact arr_self) v
  rw [if_pos rfl] at h2
  omega
