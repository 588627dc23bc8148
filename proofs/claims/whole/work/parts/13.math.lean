def jmax (x y : Int32) : Int32 := if x < y then y else x
def jmin (x y : Int32) : Int32 := if y < x then y else x
def jabs (x : Int32) : Int32 := if 0 ≤ x then x else 0 - x
def lmax (x y : Int64) : Int64 := if y < x then x else y
def mthok (R : Room) (st : List Value) (c : Nat × Nat) : Bool := Nat.ble 1 R.frames && (Nat.ble ((st.map fun v => v.category).sum + 15) R.locals && (Nat.ble c.1 R.cells && Nat.ble c.2 R.slots))
theorem mthok_spec {g : aG} (hc : ∀ j, (g.2.2.2 j).category = 1) {R : Room} {st : List Value} {c : Nat × Nat} (h : mthok R st c = true) : 1 ≤ R.frames ∧ ((st.map (cv g)).map fun v => v.category).sum + 15 ≤ R.locals ∧ c.1 ≤ R.cells ∧ c.2 ≤ R.slots := by
  rw [map_cat hc]
  simp only [mthok, Bool.and_eq_true, Nat.ble_eq] at h
  exact h
theorem w_mI : Cond.initialized "java/lang/Math" ∈ gtb := gt_1 9 rfl rfl
theorem w_mmax_s : Cond.static Lib.Math.max.name ∈ gtb := gt_1 198 rfl rfl
theorem w_mmax_c : Cond.code Lib.Math.max.name Lib.Math.max.code 2 (some .int) ∈ gtb := gt_1 199 rfl rfl
theorem V_mmax {E : aE} {μ : aM} {K : Value → aH → Prop} {pc npc idx : Nat} {L st : List Value} {h : aH} {c : Nat × Nat} {x y : Int32} (hd : Dc (M_c μ) pc (.invokestatic idx) 3 npc) (hl : Cond.methodLink (M_y μ).cls idx ⟨"java/lang/Math", "max", "(II)I"⟩ ∈ gtb) (hr : mthok (M_R μ) st c = true) (k : V E μ K npc L (.int (jmax x y) :: st) h c) : V E μ K pc L (.int y :: .int x :: st) h c := by
  obtain ⟨hdg, rfl⟩ := hd
  intro g p e s m args below meth cd H locs ls hF hW hL
  obtain ⟨r1, r2, r3, r4⟩ := mthok_spec (aX_cat (F_X hF)) hr
  exact va_mmax hF.1 hF.2.1 (hF.2.2.1.trans hL.1.symm) (F_o hF) (F_w hF _ hl) (F_w hF _ w_mmax_s) (F_w hF _ w_mI) (F_w hF _ w_mmax_c) r1 (by omega) r3 r4 hdg (k g p e s m args below meth cd H locs ls hF hW hL)
theorem w_mmin_s : Cond.static Lib.Math.min.name ∈ gtb := gt_3 134 rfl rfl
theorem w_mmin_c : Cond.code Lib.Math.min.name Lib.Math.min.code 2 (some .int) ∈ gtb := gt_3 135 rfl rfl
theorem V_mmin {E : aE} {μ : aM} {K : Value → aH → Prop} {pc npc idx : Nat} {L st : List Value} {h : aH} {c : Nat × Nat} {x y : Int32} (hd : Dc (M_c μ) pc (.invokestatic idx) 3 npc) (hl : Cond.methodLink (M_y μ).cls idx ⟨"java/lang/Math", "min", "(II)I"⟩ ∈ gtb) (hr : mthok (M_R μ) st c = true) (k : V E μ K npc L (.int (jmin x y) :: st) h c) : V E μ K pc L (.int y :: .int x :: st) h c := by
  obtain ⟨hdg, rfl⟩ := hd
  intro g p e s m args below meth cd H locs ls hF hW hL
  obtain ⟨r1, r2, r3, r4⟩ := mthok_spec (aX_cat (F_X hF)) hr
  exact va_mmin hF.1 hF.2.1 (hF.2.2.1.trans hL.1.symm) (F_o hF) (F_w hF _ hl) (F_w hF _ w_mmin_s) (F_w hF _ w_mI) (F_w hF _ w_mmin_c) r1 (by omega) r3 r4 hdg (k g p e s m args below meth cd H locs ls hF hW hL)
theorem w_mabs_s : Cond.static Lib.Math.abs.name ∈ gtb := gt_3 224 rfl rfl
theorem w_mabs_c : Cond.code Lib.Math.abs.name Lib.Math.abs.code 1 (some .int) ∈ gtb := gt_3 225 rfl rfl
theorem V_mabs {E : aE} {μ : aM} {K : Value → aH → Prop} {pc npc idx : Nat} {L st : List Value} {h : aH} {c : Nat × Nat} {x : Int32} (hd : Dc (M_c μ) pc (.invokestatic idx) 3 npc) (hl : Cond.methodLink (M_y μ).cls idx ⟨"java/lang/Math", "abs", "(I)I"⟩ ∈ gtb) (hr : mthok (M_R μ) st c = true) (k : V E μ K npc L (.int (jabs x) :: st) h c) : V E μ K pc L (.int x :: st) h c := by
  obtain ⟨hdg, rfl⟩ := hd
  intro g p e s m args below meth cd H locs ls hF hW hL
  obtain ⟨r1, r2, r3, r4⟩ := mthok_spec (aX_cat (F_X hF)) hr
  exact va_mabs hF.1 hF.2.1 (hF.2.2.1.trans hL.1.symm) (F_o hF) (F_w hF _ hl) (F_w hF _ w_mabs_s) (F_w hF _ w_mI) (F_w hF _ w_mabs_c) r1 (by omega) r3 r4 hdg (k g p e s m args below meth cd H locs ls hF hW hL)
theorem w_lmax_s : Cond.static Lib.MathLoose.max_long.x ∈ gtb := gt_4 199 rfl rfl
theorem w_lmax_c : Cond.code Lib.MathLoose.max_long.x Lib.MathLoose.max_long.code 4 (some .long) ∈ gtb := gt_4 200 rfl rfl
theorem V_lmax {E : aE} {μ : aM} {K : Value → aH → Prop} {pc npc idx : Nat} {L st : List Value} {h : aH} {c : Nat × Nat} {x y : Int64} (hd : Dc (M_c μ) pc (.invokestatic idx) 3 npc) (hl : Cond.methodLink (M_y μ).cls idx ⟨"java/lang/Math", "max", "(JJ)J"⟩ ∈ gtb) (hr : mthok (M_R μ) st c = true) (k : V E μ K npc L (.long (lmax x y) :: st) h c) : V E μ K pc L (.long y :: .long x :: st) h c := by
  obtain ⟨hdg, rfl⟩ := hd
  intro g p e s m args below meth cd H locs ls hF hW hL
  obtain ⟨r1, r2, r3, r4⟩ := mthok_spec (aX_cat (F_X hF)) hr
  exact va_mmax_long hF.1 hF.2.1 (hF.2.2.1.trans hL.1.symm) (F_o hF) (F_w hF _ hl) (F_w hF _ w_lmax_s) (F_w hF _ w_mI) (F_w hF _ w_lmax_c) r1 (by omega) r3 r4 hdg (k g p e s m args below meth cd H locs ls hF hW hL)
def labs (x : Int64) : Int64 := if 0 < x then x else -x
theorem w_labs_s : Cond.static Lib.MathLoose.abs_long.x ∈ gtb := gt_4 196 rfl rfl
theorem w_labs_c : Cond.code Lib.MathLoose.abs_long.x Lib.MathLoose.abs_long.code 2 (some .long) ∈ gtb := gt_4 197 rfl rfl
theorem V_labs {E : aE} {μ : aM} {K : Value → aH → Prop} {pc npc idx : Nat} {L st : List Value} {h : aH} {c : Nat × Nat} {x : Int64} (hd : Dc (M_c μ) pc (.invokestatic idx) 3 npc) (hl : Cond.methodLink (M_y μ).cls idx ⟨"java/lang/Math", "abs", "(J)J"⟩ ∈ gtb) (hr : mthok (M_R μ) st c = true) (k : V E μ K npc L (.long (labs x) :: st) h c) : V E μ K pc L (.long x :: st) h c := by
  obtain ⟨hdg, rfl⟩ := hd
  intro g p e s m args below meth cd H locs ls hF hW hL
  obtain ⟨r1, r2, r3, r4⟩ := mthok_spec (aX_cat (F_X hF)) hr
  exact va_mabs_long hF.1 hF.2.1 (hF.2.2.1.trans hL.1.symm) (F_o hF) (F_w hF _ hl) (F_w hF _ w_labs_s) (F_w hF _ w_mI) (F_w hF _ w_labs_c) r1 (by omega) r3 r4 hdg (k g p e s m args below meth cd H locs ls hF hW hL)
theorem U_getIx {E : aE} {μ : aM} {K : Value → aH → Prop} {pc npc idx : Nat} {L st : List Value} {c : Nat × Nat} {S : List aC} {I : hI_} {J : hJ_} {a ci j : Nat} {fs : List Nat} {x : Int32} (hd : Dc (M_c μ) pc (.getfield idx) 3 npc) (hf : FL (M_y μ).cls idx ci j) (hs : S[a]? = some (.inr (ci, fs))) (hc : fs[j]? = some 0) (hx : I a j = x) (k : V E μ K npc L (.int x :: st) (S, I, J) c) : V E μ K pc L (.ref a :: st) (S, I, J) c := U_getI hd hf hs hc (by rw [hx]; exact k)
theorem U_getJx {E : aE} {μ : aM} {K : Value → aH → Prop} {pc npc idx : Nat} {L st : List Value} {c : Nat × Nat} {S : List aC} {I : hI_} {J : hJ_} {a ci j : Nat} {fs : List Nat} {x : Int64} (hd : Dc (M_c μ) pc (.getfield idx) 3 npc) (hf : FL (M_y μ).cls idx ci j) (hs : S[a]? = some (.inr (ci, fs))) (hc : fs[j]? = some 1) (hx : J a j = x) (k : V E μ K npc L (.long x :: st) (S, I, J) c) : V E μ K pc L (.ref a :: st) (S, I, J) c := U_getJ hd hf hs hc (by rw [hx]; exact k)
theorem U_ialdx {E : aE} {μ : aM} {K : Value → aH → Prop} {pc npc : Nat} {L st : List Value} {c : Nat × Nat} {S : List aC} {I : hI_} {J : hJ_} {a n : Nat} {rs : List Nat} {i x : Int32} (hd : Dc (M_c μ) pc .iaload 1 npc) (hs : S[a]? = some (.inl (0, n, rs))) (hi : vp_in i n) (hx : I a i.toNatClampNeg = x) (k : V E μ K npc L (.int x :: st) (S, I, J) c) : V E μ K pc L (.int i :: .ref a :: st) (S, I, J) c := U_iald hd hs hi (by rw [hx]; exact k)
theorem U_baldx {E : aE} {μ : aM} {K : Value → aH → Prop} {pc npc : Nat} {L st : List Value} {c : Nat × Nat} {S : List aC} {I : hI_} {J : hJ_} {a n : Nat} {rs : List Nat} {i x : Int32} (hd : Dc (M_c μ) pc .baload 1 npc) (hs : S[a]? = some (.inl (1, n, rs))) (hi : vp_in i n) (hx : I a i.toNatClampNeg = x) (k : V E μ K npc L (.int x :: st) (S, I, J) c) : V E μ K pc L (.int i :: .ref a :: st) (S, I, J) c := U_bald hd hs hi (by rw [hx]; exact k)
theorem U_zaldx {E : aE} {μ : aM} {K : Value → aH → Prop} {pc npc : Nat} {L st : List Value} {c : Nat × Nat} {S : List aC} {I : hI_} {J : hJ_} {a n : Nat} {rs : List Nat} {i x : Int32} (hd : Dc (M_c μ) pc .baload 1 npc) (hs : S[a]? = some (.inl (2, n, rs))) (hi : vp_in i n) (hx : I a i.toNatClampNeg = x) (k : V E μ K npc L (.int x :: st) (S, I, J) c) : V E μ K pc L (.int i :: .ref a :: st) (S, I, J) c := U_zald hd hs hi (by rw [hx]; exact k)
theorem U_laldx {E : aE} {μ : aM} {K : Value → aH → Prop} {pc npc : Nat} {L st : List Value} {c : Nat × Nat} {S : List aC} {I : hI_} {J : hJ_} {a n : Nat} {rs : List Nat} {i : Int32} {x : Int64} (hd : Dc (M_c μ) pc .laload 1 npc) (hs : S[a]? = some (.inl (3, n, rs))) (hi : vp_in i n) (hx : J a i.toNatClampNeg = x) (k : V E μ K npc L (.long x :: st) (S, I, J) c) : V E μ K pc L (.int i :: .ref a :: st) (S, I, J) c := U_lald hd hs hi (by rw [hx]; exact k)
