/-! THE ABSTRACT HEAP: a shape (arrays and objects by number) and what its int and long places hold -/
def gtb : List Cond := lw_tbl.filter goodWord
abbrev aC : Type := (Nat × Nat × List Nat) ⊕ (Nat × List Nat)
abbrev aH : Type := List aC × (Nat → Nat → Int32) × (Nat → Nat → Int64)
/-- the machine's side: class numbers, array classes, the first address, special values -/
abbrev aG : Type := va_G × (Nat → ClassId) × Nat × (Nat → Value)
/-- the run: the launch, the script's length and ints -/
abbrev aE : Type := Launch × Nat × (Nat → Int32)
/-- a method: name, code, locals, what it returns, kind of answer (0 none, 1 int, 2 long), parameters, room -/
abbrev aM : Type := MethodName × ByteArray × Nat × Option FieldType × Nat × Nat × Room
abbrev M_y (μ : aM) : MethodName := μ.1
abbrev M_c (μ : aM) : ByteArray := μ.2.1
abbrev M_L (μ : aM) : Nat := μ.2.2.1
abbrev M_r (μ : aM) : Option FieldType := μ.2.2.2.1
abbrev M_k (μ : aM) : Nat := μ.2.2.2.2.1
abbrev M_n (μ : aM) : Nat := μ.2.2.2.2.2.1
abbrev M_R (μ : aM) : Room := μ.2.2.2.2.2.2
abbrev g_b (g : aG) : Nat := g.2.2.1
abbrev aA (g : aG) : Nat → Prop := fun q => g.2.2.1 ≤ q
def cv (g : aG) (v : Value) : Value := match v with
  | .ref a => .ref (g.2.2.1 + a)
  | .float j => g.2.2.2 j.toNat
  | v => v
def cfv (g : aG) (h : aH) (k j code : Nat) : Value := match code with
  | 0 => .int (h.2.1 k j)
  | 1 => .long (h.2.2 k j)
  | 2 => .null
  | a + 3 => .ref (g.2.2.1 + a)
def cfs (g : aG) (h : aH) (k : Nat) (fs : List Nat) : List Value := fs.mapIdx (fun j c => cfv g h k j c)
def crv (g : aG) (c : Nat) : Option Nat := match c with
  | a + 3 => some (g.2.2.1 + a)
  | _ => none
def crf (g : aG) (rs : List Nat) : Nat → Option Nat := fun i => crv g (rs.getD i 2)
def ccell (g : aG) (h : aH) (k : Nat) (c : aC) : va_E := match c with
  | .inr (ci, fs) => .inr (ci, cfs g h k fs)
  | .inl (t, n, rs) => .inl (g.2.1 t, n, if t < 3 then .inl (h.2.1 k) else if t = 3 then .inr (.inl (h.2.2 k)) else .inr (.inr (.inr (.inr (crf g rs)))))
def cw (g : aG) (h : aH) : va_W := h.1.mapIdx (fun k c => (g.2.2.1 + k, ccell g h k c))
def aT (g : aG) : List (ClassId × FieldType) := [(g.2.1 0, .int), (g.2.1 1, .byte), (g.2.1 2, .boolean), (g.2.1 3, .long), (g.2.1 4, .object "LatePrices$Ledger"), (g.2.1 5, .object "LatePrices$Sheet")]
theorem cw_at {g : aG} {h : aH} {k : Nat} {c : aC} (hs : h.1[k]? = some c) : (cw g h)[k]? = some (g.2.2.1 + k, ccell g h k c) := by
  simp [cw, List.getElem?_mapIdx, hs]
theorem cw_D (g : aG) (h : aH) : va_D (aA g) (cw g h) := by
  refine ⟨fun i j p q hp hq e => ?_, fun k q hq => ?_⟩
  · simp only [cw, List.getElem?_mapIdx, Option.map_eq_some_iff] at hp hq
    obtain ⟨a, -, rfl⟩ := hp
    obtain ⟨b, -, rfl⟩ := hq
    simp only at e
    omega
  · simp only [cw, List.getElem?_mapIdx, Option.map_eq_some_iff] at hq
    obtain ⟨a, -, rfl⟩ := hq
    exact Nat.le_add_right _ _
theorem cfs_at {g : aG} {h : aH} {k j c : Nat} {fs : List Nat} (hf : fs[j]? = some c) : (cfs g h k fs)[j]? = some (cfv g h k j c) := by
  simp [cfs, List.getElem?_mapIdx, hf]
theorem cfs_len {g : aG} {h : aH} {k : Nat} {fs : List Nat} : (cfs g h k fs).length = fs.length := by simp [cfs]
/-- writing an int place -/
def hI (h : aH) (a i : Nat) (v : Int32) : aH := (h.1, fun b => if b = a then upd (h.2.1 a) i v else h.2.1 b, h.2.2)
def hJ (h : aH) (a i : Nat) (v : Int64) : aH := (h.1, h.2.1, fun b => if b = a then vp_updL (h.2.2 a) i v else h.2.2 b)
/-- copying so many places of one array over another's -/
def hCI (h : aH) (a b sp dp n : Nat) : aH := (h.1, fun q => if q = b then va_cpy (h.2.1 a) (h.2.1 b) sp dp n else h.2.1 q, h.2.2)
def hCJ (h : aH) (a b sp dp n : Nat) : aH := (h.1, h.2.1, fun q => if q = b then va_cpy (h.2.2 a) (h.2.2 b) sp dp n else h.2.2 q)
/-- a new cell, all 0 -/
def hN (h : aH) (c : aC) : aH := (h.1 ++ [c], fun b => if b = h.1.length then fun _ => 0 else h.2.1 b, fun b => if b = h.1.length then fun _ => 0 else h.2.2 b)
/-- a reference put into a field or an array -/
def hR (h : aH) (a j code : Nat) : aH := (h.1.modify a (fun c => match c with
  | .inr (ci, fs) => .inr (ci, fs.set j code)
  | .inl (t, n, rs) => .inl (t, n, rs.set j code)), h.2)
theorem ccell_other {g : aG} {h h' : aH} {k : Nat} (e1 : h'.2.1 k = h.2.1 k) (e2 : h'.2.2 k = h.2.2 k) (c : aC) : ccell g h' k c = ccell g h k c := by
  have e3 : ∀ j code, cfv g h' k j code = cfv g h k j code := by
    intro j code
    unfold cfv
    split
    · rw [e1]
    · rw [e2]
    · rfl
    · rfl
  unfold ccell
  split
  · simp only [cfs, e3]
  · simp only [e1, e2]
theorem cw_set {g : aG} {h h' : aH} {a : Nat} {c c' : aC} (hs : h.1[a]? = some c) (hs' : h'.1[a]? = some c') (hl : h'.1.length = h.1.length) (ho : ∀ k : Nat, k ≠ a → h'.1[k]? = h.1[k]? ∧ h'.2.1 k = h.2.1 k ∧ h'.2.2 k = h.2.2 k) {e : va_E} (he : ccell g h' a c' = e) : (cw g h).set a (g.2.2.1 + a, e) = cw g h' := by
  apply List.ext_getElem?
  intro k
  rw [List.getElem?_set]
  by_cases hk : a = k
  · subst hk
    have hlt : a < (cw g h).length := by
      have := (List.getElem?_eq_some_iff.mp hs).1
      simpa [cw] using this
    rw [if_pos rfl, if_pos hlt, cw_at hs', he]
  · rw [if_neg hk]
    obtain ⟨o1, o2, o3⟩ := ho k (fun q => hk q.symm)
    simp only [cw, List.getElem?_mapIdx, o1]
    cases h.1[k]? with
    | none => rfl
    | some x => simp only [Option.map_some, ccell_other o2 o3]
theorem hI_o {h : aH} {a i : Nat} {v : Int32} : ∀ k : Nat, k ≠ a → (hI h a i v).1[k]? = h.1[k]? ∧ (hI h a i v).2.1 k = h.2.1 k ∧ (hI h a i v).2.2 k = h.2.2 k := fun k hk => ⟨rfl, by simp [hI, hk], rfl⟩
theorem hJ_o {h : aH} {a i : Nat} {v : Int64} : ∀ k : Nat, k ≠ a → (hJ h a i v).1[k]? = h.1[k]? ∧ (hJ h a i v).2.1 k = h.2.1 k ∧ (hJ h a i v).2.2 k = h.2.2 k := fun k hk => ⟨rfl, rfl, by simp [hJ, hk]⟩
theorem hCI_o {h : aH} {a b sp dp n : Nat} : ∀ k : Nat, k ≠ b → (hCI h a b sp dp n).1[k]? = h.1[k]? ∧ (hCI h a b sp dp n).2.1 k = h.2.1 k ∧ (hCI h a b sp dp n).2.2 k = h.2.2 k := fun k hk => ⟨rfl, by simp [hCI, hk], rfl⟩
theorem hCJ_o {h : aH} {a b sp dp n : Nat} : ∀ k : Nat, k ≠ b → (hCJ h a b sp dp n).1[k]? = h.1[k]? ∧ (hCJ h a b sp dp n).2.1 k = h.2.1 k ∧ (hCJ h a b sp dp n).2.2 k = h.2.2 k := fun k hk => ⟨rfl, rfl, by simp [hCJ, hk]⟩
theorem hR_o {h : aH} {a j code : Nat} : ∀ k : Nat, k ≠ a → (hR h a j code).1[k]? = h.1[k]? ∧ (hR h a j code).2.1 k = h.2.1 k ∧ (hR h a j code).2.2 k = h.2.2 k := fun k hk => ⟨by have ha : ¬ a = k := fun q => hk q.symm; simp [hR, List.getElem?_modify, ha], rfl, rfl⟩
theorem hR_len {h : aH} {a j code : Nat} : (hR h a j code).1.length = h.1.length := by simp [hR]
theorem cw_I {g : aG} {h : aH} {a t n : Nat} {rs : List Nat} (hs : h.1[a]? = some (.inl (t, n, rs))) (ht : t < 3) : (cw g h)[a]? = some (g.2.2.1 + a, .inl (g.2.1 t, n, .inl (h.2.1 a))) := by
  rw [cw_at hs]; simp only [ccell, if_pos ht]
theorem cw_J {g : aG} {h : aH} {a n : Nat} {rs : List Nat} (hs : h.1[a]? = some (.inl (3, n, rs))) : (cw g h)[a]? = some (g.2.2.1 + a, .inl (g.2.1 3, n, .inr (.inl (h.2.2 a)))) := by
  rw [cw_at hs]; simp [ccell]
theorem cw_Q {g : aG} {h : aH} {a t n : Nat} {rs : List Nat} (hs : h.1[a]? = some (.inl (t + 4, n, rs))) : (cw g h)[a]? = some (g.2.2.1 + a, .inl (g.2.1 (t + 4), n, .inr (.inr (.inr (.inr (crf g rs)))))) := by
  rw [cw_at hs]; simp [ccell]
theorem cw_O {g : aG} {h : aH} {a ci : Nat} {fs : List Nat} (hs : h.1[a]? = some (.inr (ci, fs))) : (cw g h)[a]? = some (g.2.2.1 + a, .inr (ci, cfs g h a fs)) := cw_at hs
theorem cw_setI {g : aG} {h : aH} {a t n i : Nat} {rs : List Nat} {v : Int32} (hs : h.1[a]? = some (.inl (t, n, rs))) (ht : t < 3) : (cw g h).set a (g.2.2.1 + a, .inl (g.2.1 t, n, .inl (upd (h.2.1 a) i v))) = cw g (hI h a i v) := by
  refine cw_set hs (h' := hI h a i v) hs rfl hI_o ?_
  simp [ccell, ht, hI]
theorem cw_setJ {g : aG} {h : aH} {a n i : Nat} {rs : List Nat} {v : Int64} (hs : h.1[a]? = some (.inl (3, n, rs))) : (cw g h).set a (g.2.2.1 + a, .inl (g.2.1 3, n, .inr (.inl (vp_updL (h.2.2 a) i v)))) = cw g (hJ h a i v) := by
  refine cw_set hs (h' := hJ h a i v) hs rfl hJ_o ?_
  simp [ccell, hJ]
theorem cw_setCI {g : aG} {h : aH} {a b t n sp dp k : Nat} {rs : List Nat} (hs : h.1[b]? = some (.inl (t, n, rs))) (ht : t < 3) : (cw g h).set b (g.2.2.1 + b, .inl (g.2.1 t, n, .inl (va_cpy (h.2.1 a) (h.2.1 b) sp dp k))) = cw g (hCI h a b sp dp k) := by
  refine cw_set hs (h' := hCI h a b sp dp k) hs rfl hCI_o ?_
  simp [ccell, ht, hCI]
theorem cw_setCJ {g : aG} {h : aH} {a b n sp dp k : Nat} {rs : List Nat} (hs : h.1[b]? = some (.inl (3, n, rs))) : (cw g h).set b (g.2.2.1 + b, .inl (g.2.1 3, n, .inr (.inl (va_cpy (h.2.2 a) (h.2.2 b) sp dp k)))) = cw g (hCJ h a b sp dp k) := by
  refine cw_set hs (h' := hCJ h a b sp dp k) hs rfl hCJ_o ?_
  simp [ccell, hCJ]
theorem cw_putI {g : aG} {h : aH} {a ci j : Nat} {fs : List Nat} {v : Int32} (hs : h.1[a]? = some (.inr (ci, fs))) (hf : fs[j]? = some 0) : (cw g h).set a (g.2.2.1 + a, .inr (ci, (cfs g h a fs).set j (.int v))) = cw g (hI h a j v) := by
  refine cw_set hs (h' := hI h a j v) hs rfl hI_o ?_
  simp only [ccell]
  congr 2
  apply List.ext_getElem?
  intro k
  rw [List.getElem?_set]
  by_cases hk : j = k
  · subst hk
    have hl := (List.getElem?_eq_some_iff.mp hf).1
    rw [if_pos rfl, if_pos (by rw [cfs_len]; exact hl), cfs_at hf]
    simp [cfv, hI, upd]
  · rw [if_neg hk]
    simp only [cfs, List.getElem?_mapIdx]
    congr 1
    funext c
    unfold cfv
    have hk2 : ¬ k = j := fun q => hk q.symm
    split <;> simp [hI, upd, hk2]
theorem cw_putJ {g : aG} {h : aH} {a ci j : Nat} {fs : List Nat} {v : Int64} (hs : h.1[a]? = some (.inr (ci, fs))) (hf : fs[j]? = some 1) : (cw g h).set a (g.2.2.1 + a, .inr (ci, (cfs g h a fs).set j (.long v))) = cw g (hJ h a j v) := by
  refine cw_set hs (h' := hJ h a j v) hs rfl hJ_o ?_
  simp only [ccell]
  congr 2
  apply List.ext_getElem?
  intro k
  rw [List.getElem?_set]
  by_cases hk : j = k
  · subst hk
    have hl := (List.getElem?_eq_some_iff.mp hf).1
    rw [if_pos rfl, if_pos (by rw [cfs_len]; exact hl), cfs_at hf]
    simp [cfv, hJ, vp_updL]
  · rw [if_neg hk]
    simp only [cfs, List.getElem?_mapIdx]
    congr 1
    funext c
    unfold cfv
    have hk2 : ¬ k = j := fun q => hk q.symm
    split <;> simp [hJ, vp_updL, hk2]
theorem cw_putR {g : aG} {h : aH} {a b ci j : Nat} {fs : List Nat} (hs : h.1[a]? = some (.inr (ci, fs))) (hj : j < fs.length) : (cw g h).set a (g.2.2.1 + a, .inr (ci, (cfs g h a fs).set j (.ref (g.2.2.1 + b)))) = cw g (hR h a j (b + 3)) := by
  refine cw_set hs (h' := hR h a j (b + 3)) (c' := .inr (ci, fs.set j (b + 3))) (by simp [hR, List.getElem?_modify, hs]) hR_len hR_o ?_
  simp only [ccell]
  congr 2
  apply List.ext_getElem?
  intro k
  simp only [cfs, List.getElem?_mapIdx, List.getElem?_set]
  by_cases hk : j = k
  · subst hk
    simp [hj, cfv]
  · simp only [if_neg hk, List.getElem?_mapIdx]
    rfl
theorem cw_setR {g : aG} {h : aH} {a b t n i : Nat} {rs : List Nat} (hs : h.1[a]? = some (.inl (t + 4, n, rs))) (hi : i < rs.length) : (cw g h).set a (g.2.2.1 + a, .inl (g.2.1 (t + 4), n, .inr (.inr (.inr (.inr (va_up (crf g rs) i (some (g.2.2.1 + b)))))))) = cw g (hR h a i (b + 3)) := by
  refine cw_set hs (h' := hR h a i (b + 3)) (c' := .inl (t + 4, n, rs.set i (b + 3))) (by simp [hR, List.getElem?_modify, hs]) hR_len hR_o ?_
  have e : crf g (rs.set i (b + 3)) = va_up (crf g rs) i (some (g.2.2.1 + b)) := by
    funext q
    simp only [crf, va_up, List.getD_eq_getElem?_getD, List.getElem?_set]
    by_cases hq : i = q
    · subst hq
      simp [hi, crv]
    · rw [if_neg hq, if_neg (fun z => hq z.symm)]
  simp [ccell, e]
/-- a new cell at the end -/
theorem cw_new {g : aG} {h : aH} {c : aC} {e : va_E} (he : ccell g (hN h c) h.1.length c = e) : cw g h ++ [(g.2.2.1 + h.1.length, e)] = cw g (hN h c) := by
  apply List.ext_getElem?
  intro k
  have hl : (cw g h).length = h.1.length := by simp [cw]
  rcases Nat.lt_trichotomy k h.1.length with hk | hk | hk
  · rw [List.getElem?_append_left (by omega)]
    have e1 : (hN h c).1[k]? = h.1[k]? := by simp [hN, List.getElem?_append_left hk]
    simp only [cw, List.getElem?_mapIdx, e1]
    cases h.1[k]? with
    | none => rfl
    | some x => simp only [Option.map_some]; rw [ccell_other (h' := hN h c) (h := h) (by simp [hN, Nat.ne_of_lt hk]) (by simp [hN, Nat.ne_of_lt hk])]
  · subst hk
    rw [List.getElem?_append_right (by omega), hl, Nat.sub_self, cw_at (c := c) (by simp [hN]), he]
    rfl
  · rw [List.getElem?_eq_none (by simp [hl]; omega), List.getElem?_eq_none (by simp [cw, hN]; omega)]
