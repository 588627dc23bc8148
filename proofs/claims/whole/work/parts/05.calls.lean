theorem u_good {C : String} {T : u_T} {N : Nat} : ∀ w ∈ u_ws C T N, goodWord w = true := by
  intro w hw
  obtain ⟨k, -, rfl⟩ := List.mem_map.mp hw
  unfold u_lay
  split <;> rfl
theorem u_inG {ci : Nat} {q : vw_C} (h : CLS[ci]? = some q) : ∀ w ∈ u_ws q.1 q.2.1 q.2.2, w ∈ gtb := fun w hw => List.mem_filter.mpr ⟨u_in h w hw, u_good w hw⟩
theorem g_mem {w : Cond} (i : Nat) (h : lw_tbl[i]? = some w) (hg : goodWord w = true) : w ∈ gtb := List.mem_filter.mpr ⟨List.mem_of_getElem? h, hg⟩
theorem g_goodIn {w : Cond} (hw : w ∈ gtb) : GoodIn gtb (w :: gtb) := by
  intro x hx
  have h1 : x ∈ gtb := by
    rcases List.mem_cons.mp hx with e | e
    · rw [e]; exact hw
    · exact e
  exact ⟨h1, good_of_word (List.mem_filter.mp h1).2⟩
/-- a field of a class, as a class file's entry names it -/
def FL (own : String) (idx ci j : Nat) : Prop := ∃ q : vw_C, CLS[ci]? = some q ∧ j < q.2.2 ∧ Cond.fieldLink own idx (q.2.1 j).1 (q.2.1 j).2.1 (q.2.1 j).2.2.1 ∈ gtb
def FP (own : String) (idx ci j : Nat) (ty : FieldType) : Prop := ∃ q : vw_C, CLS[ci]? = some q ∧ j < q.2.2 ∧ Cond.fieldLink own idx (q.2.1 j).1 (q.2.1 j).2.1 (q.2.1 j).2.2.1 ∈ gtb ∧ (q.2.1 j).2.2.2 = false ∧ parseFieldDescriptor (q.2.1 j).2.2.1 = some ty ∧ True
def FF (own : String) (idx ci j : Nat) (ty : FieldType) : Prop := ∃ q : vw_C, CLS[ci]? = some q ∧ j < q.2.2 ∧ Cond.fieldLink own idx (q.2.1 j).1 (q.2.1 j).2.1 (q.2.1 j).2.2.1 ∈ gtb ∧ (q.2.1 j).2.2.2 = true ∧ parseFieldDescriptor (q.2.1 j).2.2.1 = some ty ∧ (q.2.1 j).1 = own
/-- a type of references -/
def aRf (ty : FieldType) : Bool := match ty with
  | .object _ => true
  | .array _ => true
  | _ => false
theorem aRf_n {ty : FieldType} {a : Nat} (h : aRf ty = true) : narrow ty (.ref a) = .ref a := by
  cases ty <;> first | rfl | cases h
theorem aRf_f {ty : FieldType} {a : Nat} (h : aRf ty = true) : fits ty (.ref a) = true := by
  cases ty <;> first | rfl | cases h
/-- a method that the tables have -/
def okM (μ : aM) : Prop := plainName (M_y μ).cls = true ∧ Cond.code (M_y μ) (M_c μ) (M_L μ) (M_r μ) ∈ gtb ∧ Cond.initialized (M_y μ).cls ∈ gtb ∧ ((M_y μ).cls ≠ "java/lang/invoke/MethodHandle" ∧ (M_y μ).cls ≠ "java/lang/invoke/VarHandle" ∧ (parseMethodDescriptor (M_y μ).desc).map (fun d => d.parameters.length) = some (M_n μ))
def okV (own : String) (idx : Nat) (μ : aM) : Prop := okM μ ∧ Cond.methodLink own idx (M_y μ) ∈ gtb ∧ Cond.instanceMethod (M_y μ) ∈ gtb ∧ Cond.selects (M_y μ).cls (M_y μ) (M_y μ) ∈ gtb
def okS (own : String) (idx : Nat) (μ : aM) : Prop := okM μ ∧ Cond.methodLink own idx (M_y μ) ∈ gtb ∧ Cond.static (M_y μ) ∈ gtb
def okI (own : String) (idx : Nat) (μ : aM) : Prop := okM μ ∧ Cond.methodLink own idx (M_y μ) ∈ gtb ∧ Cond.instanceMethod (M_y μ) ∈ gtb ∧ (M_y μ).name = "<init>"
/-- the callee's room fits -/
def rmok (R : Room) (μ : aM) (c : Nat × Nat) : Bool := Nat.ble ((M_R μ).frames + 1) R.frames && (Nat.ble (8 + (M_L μ + 11) + (M_R μ).locals) R.locals && (Nat.ble (c.1 + (M_R μ).cells) R.cells && Nat.ble (c.2 + (M_R μ).slots) R.slots))
theorem rmok_spec {R : Room} {μ : aM} {c : Nat × Nat} (h : rmok R μ c = true) : ((M_R μ).frames + 1 ≤ R.frames ∧ 8 + (M_L μ + 11) + (M_R μ).locals ≤ R.locals) ∧ (c.1 + (M_R μ).cells ≤ R.cells ∧ c.2 + (M_R μ).slots ≤ R.slots) := by
  simp only [rmok, Bool.and_eq_true, Nat.ble_eq] at h
  exact ⟨⟨h.1, h.2.1⟩, h.2.2⟩
def aPre (E : aE) (g : aG) (h : aH) (U : State) : Prop := va_P g.1 CLS (cw g h) U.heap ∧ va_K g.1 CLS (aT g) U ∧ U.heap.size = g.2.2.1 + h.1.length ∧ aX E g U
/-- A METHOD'S CONTRACT: from these arguments and this heap it returns, and answer and heap are as K says -/
def Call (E : aE) (μ : aM) (avs : List Value) (h : aH) (K : Value → aH → Prop) : Prop :=
  ∀ g : aG, Met E.1 (M_y μ) (.code (M_y μ) (M_c μ) (M_L μ) (M_r μ) :: gtb) (M_R μ) (va_Pc (avs.map (cv g)) (aPre E g h)) (rQ μ K g) (M_R μ).cells (M_R μ).slots (aA g)
theorem aPre_blind {E : aE} {g : aG} {h : aH} {av : List Value} : FrameBlind (va_Pc av (aPre E g h)) := fun a U f mk q => ⟨q.1, q.2.1, va_K.moved (u := U) (U := U.calling f mk a) (Vm.Alike.refl U.vm) q.2.2.1, q.2.2.2.1, aX_calling q.2.2.2.2⟩
theorem aW_size {g : aG} {h : aH} {H : Heap} {s : State} {locs : List Loc} {c : Nat × Nat} (hW : aW g h H s locs c) (hz : H.size ≤ s.heap.size + c.1) (hb : g.2.2.1 ≤ s.heap.size) : H.size = g.2.2.1 + h.1.length := by
  obtain ⟨h1, h2, h3⟩ := hW
  have : g.2.2.1 + h.1.length ≤ H.size := by
    cases hl : h.1.length with
    | zero => have := h2.1; omega
    | succ n =>
      have hx : h.1[n]? = some (h.1[n]'(by omega)) := List.getElem?_eq_getElem _
      have := (h1 n _ (cw_at hx)).lt
      simp only at this
      omega
  omega
theorem aPre_of {E : aE} {g : aG} {μ : aM} {p : Program} {s : State} {m : MethodId} {args : Array Value} {meth : Method} {c : Code} {h : aH} {H : Heap} {locs : List Loc} {c' : Nat × Nat} (hF : aF E g μ p s m args meth c) (hW : aW g h H s locs c') (hsz : H.size = g.2.2.1 + h.1.length) (av : List Value) : ∀ U : State, U.heap = H → s.WarmedH U.vm → va_Pc av (aPre E g h) av.toArray U :=
  fun U hU hw => ⟨rfl, by rw [hU]; exact hW.1, va_K.moved hw.alike (F_k hF), by rw [hU]; exact hsz, aX_moved (F_X hF) (F_b hF) hW.2.1 hw hU⟩
theorem map_cat {g : aG} (hc : ∀ j, (g.2.2.2 j).category = 1) (st : List Value) : ((st.map (cv g)).map fun v => v.category).sum = (st.map fun v => v.category).sum := by
  rw [List.map_map]
  congr 1
  apply List.map_congr_left
  intro v _
  exact cv_cat hc v
def stW (st : List Value) : Bool := Nat.ble ((st.map fun v => v.category).sum) 8
theorem stW_spec {g : aG} (hc : ∀ j, (g.2.2.2 j).category = 1) {st : List Value} (h : stW st = true) : 2 * 0 + ((st.map (cv g)).map fun v => v.category).sum ≤ 8 := by
  rw [map_cat hc]
  simp only [stW, Nat.ble_eq] at h
  omega
def cpok (R : Room) (st : List Value) : Bool := Nat.ble 1 R.frames && Nat.ble ((st.map fun v => v.category).sum + (nativeFrameWords "java/lang/System" "arraycopy" 5 + 11)) R.locals
theorem cpok_spec {g : aG} (hc : ∀ j, (g.2.2.2 j).category = 1) {R : Room} {st : List Value} (h : cpok R st = true) : 1 ≤ R.frames ∧ ((st.map (cv g)).map fun v => v.category).sum + (nativeFrameWords "java/lang/System" "arraycopy" 5 + 11) ≤ R.locals := by
  rw [map_cat hc]
  simp only [cpok, Bool.and_eq_true, Nat.ble_eq] at h
  exact h
theorem W_size {p : Program} {l : Launch} {e : Env} {R : Room} {s : State} {m : MethodId} {args : Array Value} {below : List Frame} {meth : Method} {c : Code} {H : Heap} {locs : List Loc} {cells slots : Nat} {Q : State → Prop} {g : JFrame} (k : H.size ≤ s.heap.size + cells → W p l e R s m args below meth c H locs cells slots Q g) : W p l e R s m args below meth c H locs cells slots Q g :=
  fun T hT X => k (by rw [← hT]; exact X.heapSize) T hT X
theorem va_Run.mono {p : Program} {l : Launch} {e : Env} {R : Room} {s : State} {m : MethodId} {args : Array Value} {below : List Frame} {meth : Method} {c : Code} {H : Heap} {locs : List Loc} {cells slots mc ms : Nat} {g : JFrame} {rest : List Value} {Qa Qb : State → Outcome → State → Prop} {free : Addr → Prop} (h : va_Run p l e R s m args below meth c H locs cells slots mc ms g rest Qa free) (hq : ∀ (st : State) (oc : Outcome) (t : State), st.heap = H → Qa st oc t → Qb st oc t) : va_Run p l e R s m args below meth c H locs cells slots mc ms g rest Qb free := by
  intro T hT X
  obtain ⟨v, st₀, t, T', L, h0, X', hL, e1, e2, q, st⟩ := h T hT X
  exact ⟨v, st₀, t, T', L, h0, X', hL, e1, e2, hq _ _ _ h0 q, st⟩
theorem rQ_0 {μ : aM} {K : Value → aH → Prop} {g : aG} {a : Array Value} {s0 t : State} {oc : Outcome} {H : Heap} (hk : M_k μ = 0) (e : s0.heap = H) (h : rQ μ K g a s0 oc t) : va_Qv (fun u => K .null u ∧ H.size + (M_R μ).cells = g.2.2.1 + u.1.length) (aB g) (aA g) a s0 oc t := by
  unfold rQ at h; rw [hk] at h; subst e; exact h
theorem rQ_1 {μ : aM} {K : Value → aH → Prop} {g : aG} {a : Array Value} {s0 t : State} {oc : Outcome} {H : Heap} (hk : M_k μ = 1) (e : s0.heap = H) (h : rQ μ K g a s0 oc t) : va_Qi (fun r u => K (.int r) u ∧ H.size + (M_R μ).cells = g.2.2.1 + u.1.length) (aB g) (aA g) a s0 oc t := by
  unfold rQ at h; rw [hk] at h; subst e; exact h
theorem rQ_2 {μ : aM} {K : Value → aH → Prop} {g : aG} {a : Array Value} {s0 t : State} {oc : Outcome} {H : Heap} (hk : M_k μ = 2) (e : s0.heap = H) (h : rQ μ K g a s0 oc t) : va_Ql (fun r u => K (.long r) u ∧ H.size + (M_R μ).cells = g.2.2.1 + u.1.length) (aB g) (aA g) a s0 oc t := by
  unfold rQ at h; rw [hk] at h; subst e; exact h
theorem w_cpN : Cond.native arraycopyName ∈ gtb := g_mem 633 (by decide +kernel) rfl
theorem w_cpS : Cond.static arraycopyName ∈ gtb := g_mem 632 (by decide +kernel) rfl
theorem w_cpI : Cond.initialized "java/lang/System" ∈ gtb := g_mem 91 (by decide +kernel) rfl

section VR
variable {E : aE} {μ : aM} {K : Value → aH → Prop} {pc npc tgt : Nat} {L : List Value} {st : List Value} {h : aH} {c : Nat × Nat}
theorem V_getI {a idx ci j : Nat} {fs : List Nat} (hd : Dc (M_c μ) pc (.getfield idx) 3 npc) (hf : FL (M_y μ).cls idx ci j) (hs : h.1[a]? = some (.inr (ci, fs))) (hc : fs[j]? = some (0)) (k : V E μ K npc L (.int (h.2.1 a j) :: st) h c) : V E μ K pc L (.ref a :: st) h c := by
  obtain ⟨hdg, rfl⟩ := hd
  obtain ⟨⟨C, T, N⟩, hq, hj, hw⟩ := hf
  intro g p e s m args below meth cd H locs ls hF hW hL
  exact va_get (cl := CLS) (tys := aT g) (D := g.1) (ci := ci) (C := C) (T := T) (N := N) hF.1 hF.2.1 (F_w hF) (u_inG hq) (F_o hF) (F_k hF) hW.1 a (cw_O hs) hq j hj (F_w hF _ hw) (fun _ z => z) (cfs_at hc) hdg (k g p e s m args below meth cd H locs ls hF hW hL)
theorem V_getJ {a idx ci j : Nat} {fs : List Nat} (hd : Dc (M_c μ) pc (.getfield idx) 3 npc) (hf : FL (M_y μ).cls idx ci j) (hs : h.1[a]? = some (.inr (ci, fs))) (hc : fs[j]? = some (1)) (k : V E μ K npc L (.long (h.2.2 a j) :: st) h c) : V E μ K pc L (.ref a :: st) h c := by
  obtain ⟨hdg, rfl⟩ := hd
  obtain ⟨⟨C, T, N⟩, hq, hj, hw⟩ := hf
  intro g p e s m args below meth cd H locs ls hF hW hL
  exact va_get (cl := CLS) (tys := aT g) (D := g.1) (ci := ci) (C := C) (T := T) (N := N) hF.1 hF.2.1 (F_w hF) (u_inG hq) (F_o hF) (F_k hF) hW.1 a (cw_O hs) hq j hj (F_w hF _ hw) (fun _ z => z) (cfs_at hc) hdg (k g p e s m args below meth cd H locs ls hF hW hL)
theorem V_getR {a idx ci j b : Nat} {fs : List Nat} (hd : Dc (M_c μ) pc (.getfield idx) 3 npc) (hf : FL (M_y μ).cls idx ci j) (hs : h.1[a]? = some (.inr (ci, fs))) (hc : fs[j]? = some (b + 3)) (k : V E μ K npc L (.ref b :: st) h c) : V E μ K pc L (.ref a :: st) h c := by
  obtain ⟨hdg, rfl⟩ := hd
  obtain ⟨⟨C, T, N⟩, hq, hj, hw⟩ := hf
  intro g p e s m args below meth cd H locs ls hF hW hL
  exact va_get (cl := CLS) (tys := aT g) (D := g.1) (ci := ci) (C := C) (T := T) (N := N) hF.1 hF.2.1 (F_w hF) (u_inG hq) (F_o hF) (F_k hF) hW.1 a (cw_O hs) hq j hj (F_w hF _ hw) (fun _ z => z) (cfs_at hc) hdg (k g p e s m args below meth cd H locs ls hF hW hL)
theorem V_putI {a idx ci j : Nat} {fs : List Nat} {v : Int32} (hd : Dc (M_c μ) pc (.putfield idx) 3 npc) (hf : FP (M_y μ).cls idx ci j .int) (hs : h.1[a]? = some (.inr (ci, fs))) (hc : fs[j]? = some 0) (k : V E μ K npc L st (hI h a j v) c) : V E μ K pc L (.int v :: .ref a :: st) h c := by
  obtain ⟨hdg, rfl⟩ := hd
  obtain ⟨⟨C, T, N⟩, hq, hj, hw, hfin, hty, hdc⟩ := hf
  intro g p e s m args below meth cd H locs ls hF hW hL
  refine va_put (cl := CLS) (tys := aT g) (D := g.1) (ci := ci) (C := C) (T := T) (N := N) (A := aA g) hF.1 hF.2.1 (F_w hF) (u_inG hq) (tyOf ci) (u_ty hq) (u_nm hq) (F_o hF) (F_k hF) hW.1 (cw_D g h) hW.2.1 a (cw_O hs) hq j hj (F_w hF _ hw) (fun _ z => z) hfin hty rfl rfl (by rw [cfs_len]; exact (List.getElem?_eq_some_iff.mp hc).1) hdg (fun H1 locs1 q1 q2 q3 => ?_)
  rw [show cv g (.int v) = .int v from rfl, cw_putI hs hc] at q1
  exact k g p e s m args below meth cd H1 locs1 ls hF ⟨q1, q3, by first | exact hW.2.2 | (rw [hR_len]; exact hW.2.2)⟩ hL
theorem V_putZ {a idx ci j : Nat} {fs : List Nat} {v : Int32} (hd : Dc (M_c μ) pc (.putfield idx) 3 npc) (hf : FP (M_y μ).cls idx ci j .boolean) (hv : v = 0 ∨ v = 1) (hs : h.1[a]? = some (.inr (ci, fs))) (hc : fs[j]? = some 0) (k : V E μ K npc L st (hI h a j v) c) : V E μ K pc L (.int v :: .ref a :: st) h c := by
  obtain ⟨hdg, rfl⟩ := hd
  obtain ⟨⟨C, T, N⟩, hq, hj, hw, hfin, hty, hdc⟩ := hf
  intro g p e s m args below meth cd H locs ls hF hW hL
  refine va_put (cl := CLS) (tys := aT g) (D := g.1) (ci := ci) (C := C) (T := T) (N := N) (A := aA g) hF.1 hF.2.1 (F_w hF) (u_inG hq) (tyOf ci) (u_ty hq) (u_nm hq) (F_o hF) (F_k hF) hW.1 (cw_D g h) hW.2.1 a (cw_O hs) hq j hj (F_w hF _ hw) (fun _ z => z) hfin hty (by rcases hv with rfl | rfl <;> rfl) (by rcases hv with rfl | rfl <;> rfl) (by rw [cfs_len]; exact (List.getElem?_eq_some_iff.mp hc).1) hdg (fun H1 locs1 q1 q2 q3 => ?_)
  rw [show cv g (.int v) = .int v from rfl, cw_putI hs hc] at q1
  exact k g p e s m args below meth cd H1 locs1 ls hF ⟨q1, q3, by first | exact hW.2.2 | (rw [hR_len]; exact hW.2.2)⟩ hL
theorem V_putJ {a idx ci j : Nat} {fs : List Nat} {v : Int64} (hd : Dc (M_c μ) pc (.putfield idx) 3 npc) (hf : FP (M_y μ).cls idx ci j .long) (hs : h.1[a]? = some (.inr (ci, fs))) (hc : fs[j]? = some 1) (k : V E μ K npc L st (hJ h a j v) c) : V E μ K pc L (.long v :: .ref a :: st) h c := by
  obtain ⟨hdg, rfl⟩ := hd
  obtain ⟨⟨C, T, N⟩, hq, hj, hw, hfin, hty, hdc⟩ := hf
  intro g p e s m args below meth cd H locs ls hF hW hL
  refine va_put (cl := CLS) (tys := aT g) (D := g.1) (ci := ci) (C := C) (T := T) (N := N) (A := aA g) hF.1 hF.2.1 (F_w hF) (u_inG hq) (tyOf ci) (u_ty hq) (u_nm hq) (F_o hF) (F_k hF) hW.1 (cw_D g h) hW.2.1 a (cw_O hs) hq j hj (F_w hF _ hw) (fun _ z => z) hfin hty rfl rfl (by rw [cfs_len]; exact (List.getElem?_eq_some_iff.mp hc).1) hdg (fun H1 locs1 q1 q2 q3 => ?_)
  rw [show cv g (.long v) = .long v from rfl, cw_putJ hs hc] at q1
  exact k g p e s m args below meth cd H1 locs1 ls hF ⟨q1, q3, by first | exact hW.2.2 | (rw [hR_len]; exact hW.2.2)⟩ hL
theorem V_putFI {a idx ci j : Nat} {fs : List Nat} {v : Int32} (hd : Dc (M_c μ) pc (.putfield idx) 3 npc) (hf : FF (M_y μ).cls idx ci j .int) (hin : (M_y μ).name = "<init>") (hs : h.1[a]? = some (.inr (ci, fs))) (hc : fs[j]? = some 0) (k : V E μ K npc L st (hI h a j v) c) : V E μ K pc L (.int v :: .ref a :: st) h c := by
  obtain ⟨hdg, rfl⟩ := hd
  obtain ⟨⟨C, T, N⟩, hq, hj, hw, hfin, hty, hdc⟩ := hf
  intro g p e s m args below meth cd H locs ls hF hW hL
  refine va_putF (cl := CLS) (tys := aT g) (D := g.1) (ci := ci) (C := C) (T := T) (N := N) (A := aA g) hF.1 hF.2.1 (F_w hF) (u_inG hq) (tyOf ci) (u_ty hq) (u_nm hq) (F_o hF) (F_k hF) hW.1 (cw_D g h) hW.2.1 a (cw_O hs) hq j hj (F_w hF _ hw) (fun _ z => z) hfin (hF.2.2.2.2.2.1.trans hin) hdc hty rfl rfl (by rw [cfs_len]; exact (List.getElem?_eq_some_iff.mp hc).1) hdg (fun H1 locs1 q1 q2 q3 => ?_)
  rw [show cv g (.int v) = .int v from rfl, cw_putI hs hc] at q1
  exact k g p e s m args below meth cd H1 locs1 ls hF ⟨q1, q3, by first | exact hW.2.2 | (rw [hR_len]; exact hW.2.2)⟩ hL
theorem V_putFR {a idx ci j w : Nat} {ty : FieldType} {fs : List Nat} {v : Nat} (hd : Dc (M_c μ) pc (.putfield idx) 3 npc) (hf : FF (M_y μ).cls idx ci j ty) (hin : (M_y μ).name = "<init>") (ht : aRf ty = true) (hs : h.1[a]? = some (.inr (ci, fs))) (hc : fs[j]? = some w) (k : V E μ K npc L st (hR h a j (v + 3)) c) : V E μ K pc L (.ref v :: .ref a :: st) h c := by
  obtain ⟨hdg, rfl⟩ := hd
  obtain ⟨⟨C, T, N⟩, hq, hj, hw, hfin, hty, hdc⟩ := hf
  intro g p e s m args below meth cd H locs ls hF hW hL
  refine va_putF (cl := CLS) (tys := aT g) (D := g.1) (ci := ci) (C := C) (T := T) (N := N) (A := aA g) hF.1 hF.2.1 (F_w hF) (u_inG hq) (tyOf ci) (u_ty hq) (u_nm hq) (F_o hF) (F_k hF) hW.1 (cw_D g h) hW.2.1 a (cw_O hs) hq j hj (F_w hF _ hw) (fun _ z => z) hfin (hF.2.2.2.2.2.1.trans hin) hdc hty (aRf_n ht) (aRf_f ht) (by rw [cfs_len]; exact (List.getElem?_eq_some_iff.mp hc).1) hdg (fun H1 locs1 q1 q2 q3 => ?_)
  rw [show cv g (.ref v) = .ref (g.2.2.1 + v) from rfl, cw_putR hs (List.getElem?_eq_some_iff.mp hc).1] at q1
  exact k g p e s m args below meth cd H1 locs1 ls hF ⟨q1, q3, by first | exact hW.2.2 | (rw [hR_len]; exact hW.2.2)⟩ hL
theorem V_iald {a n : Nat} {rs : List Nat} {i : Int32} (hd : Dc (M_c μ) pc .iaload 1 npc) (hs : h.1[a]? = some (.inl (0, n, rs))) (hi : vp_in i n) (k : V E μ K npc L (.int (h.2.1 a i.toNatClampNeg) :: st) h c) : V E μ K pc L (.int i :: .ref a :: st) h c := by
  obtain ⟨hdg, rfl⟩ := hd
  intro g p e s m args below meth cd H locs ls hF hW hL
  exact va_iald hF.1 hF.2.1 (F_k hF) hW.1 a 0 (cw_I hs (by decide)) rfl hi hdg (k g p e s m args below meth cd H locs ls hF hW hL)
theorem V_bald {a n : Nat} {rs : List Nat} {i : Int32} (hd : Dc (M_c μ) pc .baload 1 npc) (hs : h.1[a]? = some (.inl (1, n, rs))) (hi : vp_in i n) (k : V E μ K npc L (.int (h.2.1 a i.toNatClampNeg) :: st) h c) : V E μ K pc L (.int i :: .ref a :: st) h c := by
  obtain ⟨hdg, rfl⟩ := hd
  intro g p e s m args below meth cd H locs ls hF hW hL
  exact va_bald hF.1 hF.2.1 (F_k hF) hW.1 a 1 (cw_I hs (by decide)) rfl hi hdg (k g p e s m args below meth cd H locs ls hF hW hL)
theorem V_zald {a n : Nat} {rs : List Nat} {i : Int32} (hd : Dc (M_c μ) pc .baload 1 npc) (hs : h.1[a]? = some (.inl (2, n, rs))) (hi : vp_in i n) (k : V E μ K npc L (.int (h.2.1 a i.toNatClampNeg) :: st) h c) : V E μ K pc L (.int i :: .ref a :: st) h c := by
  obtain ⟨hdg, rfl⟩ := hd
  intro g p e s m args below meth cd H locs ls hF hW hL
  exact va_zald hF.1 hF.2.1 (F_k hF) hW.1 a 2 (cw_I hs (by decide)) rfl hi hdg (k g p e s m args below meth cd H locs ls hF hW hL)
theorem V_lald {a n : Nat} {rs : List Nat} {i : Int32} (hd : Dc (M_c μ) pc .laload 1 npc) (hs : h.1[a]? = some (.inl (3, n, rs))) (hi : vp_in i n) (k : V E μ K npc L (.long (h.2.2 a i.toNatClampNeg) :: st) h c) : V E μ K pc L (.int i :: .ref a :: st) h c := by
  obtain ⟨hdg, rfl⟩ := hd
  intro g p e s m args below meth cd H locs ls hF hW hL
  exact va_lald hF.1 hF.2.1 (F_k hF) hW.1 a 3 (cw_J hs) rfl hi hdg (k g p e s m args below meth cd H locs ls hF hW hL)
theorem V_aald0 {a n b : Nat} {rs : List Nat} {i : Int32} (hd : Dc (M_c μ) pc .aaload 1 npc) (hs : h.1[a]? = some (.inl (4, n, rs))) (hi : vp_in i n) (hc : rs.getD i.toNatClampNeg 2 = b + 3) (k : V E μ K npc L (.ref b :: st) h c) : V E μ K pc L (.int i :: .ref a :: st) h c := by
  obtain ⟨hdg, rfl⟩ := hd
  intro g p e s m args below meth cd H locs ls hF hW hL
  refine va_aldq hF.1 hF.2.1 (F_k hF) hW.1 a 4 (cw_Q (t := 0) hs) rfl hi hdg ?_
  have h1 : va_rf (crf g rs i.toNatClampNeg) = .ref (g.2.2.1 + b) := by simp only [crf, hc]; rfl
  rw [h1]
  exact k g p e s m args below meth cd H locs ls hF hW hL
theorem V_aast0 {a n b ci : Nat} {rs fs : List Nat} {i : Int32} (hd : Dc (M_c μ) pc .aastore 1 npc) (hs : h.1[a]? = some (.inl (4, n, rs))) (hb : h.1[b]? = some (.inr (ci, fs))) (hci : CLS[ci]? = some (RX1, TX1, 5)) (hi : vp_in i n) (hr : i.toNatClampNeg < rs.length) (k : V E μ K npc L st (hR h a i.toNatClampNeg (b + 3)) c) : V E μ K pc L (.ref b :: .int i :: .ref a :: st) h c := by
  obtain ⟨hdg, rfl⟩ := hd
  intro g p e s m args below meth cd H locs ls hF hW hL
  refine va_astq (A := aA g) hF.1 hF.2.1 (F_k hF) hW.1 (cw_D g h) hW.2.1 a 4 b ci (cw_Q (t := 0) hs) rfl (cw_O hb) hci hi hdg (fun H1 locs1 q1 q2 q3 => ?_)
  rw [cw_setR hs hr] at q1
  exact k g p e s m args below meth cd H1 locs1 ls hF ⟨q1, q3, by rw [hR_len]; exact hW.2.2⟩ hL
theorem V_aald1 {a n b : Nat} {rs : List Nat} {i : Int32} (hd : Dc (M_c μ) pc .aaload 1 npc) (hs : h.1[a]? = some (.inl (5, n, rs))) (hi : vp_in i n) (hc : rs.getD i.toNatClampNeg 2 = b + 3) (k : V E μ K npc L (.ref b :: st) h c) : V E μ K pc L (.int i :: .ref a :: st) h c := by
  obtain ⟨hdg, rfl⟩ := hd
  intro g p e s m args below meth cd H locs ls hF hW hL
  refine va_aldq hF.1 hF.2.1 (F_k hF) hW.1 a 5 (cw_Q (t := 1) hs) rfl hi hdg ?_
  have h1 : va_rf (crf g rs i.toNatClampNeg) = .ref (g.2.2.1 + b) := by simp only [crf, hc]; rfl
  rw [h1]
  exact k g p e s m args below meth cd H locs ls hF hW hL
theorem V_aast1 {a n b ci : Nat} {rs fs : List Nat} {i : Int32} (hd : Dc (M_c μ) pc .aastore 1 npc) (hs : h.1[a]? = some (.inl (5, n, rs))) (hb : h.1[b]? = some (.inr (ci, fs))) (hci : CLS[ci]? = some (RX6, TX6, 3)) (hi : vp_in i n) (hr : i.toNatClampNeg < rs.length) (k : V E μ K npc L st (hR h a i.toNatClampNeg (b + 3)) c) : V E μ K pc L (.ref b :: .int i :: .ref a :: st) h c := by
  obtain ⟨hdg, rfl⟩ := hd
  intro g p e s m args below meth cd H locs ls hF hW hL
  refine va_astq (A := aA g) hF.1 hF.2.1 (F_k hF) hW.1 (cw_D g h) hW.2.1 a 5 b ci (cw_Q (t := 1) hs) rfl (cw_O hb) hci hi hdg (fun H1 locs1 q1 q2 q3 => ?_)
  rw [cw_setR hs hr] at q1
  exact k g p e s m args below meth cd H1 locs1 ls hF ⟨q1, q3, by rw [hR_len]; exact hW.2.2⟩ hL
theorem V_iast {a n : Nat} {rs : List Nat} {i v : Int32} (hd : Dc (M_c μ) pc .iastore 1 npc) (hs : h.1[a]? = some (.inl (0, n, rs))) (hi : vp_in i n) (k : V E μ K npc L st (hI h a i.toNatClampNeg (v)) c) : V E μ K pc L (.int v :: .int i :: .ref a :: st) h c := by
  obtain ⟨hdg, rfl⟩ := hd
  intro g p e s m args below meth cd H locs ls hF hW hL
  refine va_iast (A := aA g) hF.1 hF.2.1 (F_k hF) hW.1 (cw_D g h) hW.2.1 a 0 (cw_I hs (by decide)) rfl hi hdg (fun H1 locs1 q1 q2 q3 => ?_)
  rw [cw_setI hs (by decide)] at q1
  exact k g p e s m args below meth cd H1 locs1 ls hF ⟨q1, q3, hW.2.2⟩ hL
theorem V_bast {a n : Nat} {rs : List Nat} {i v : Int32} (hd : Dc (M_c μ) pc .bastore 1 npc) (hs : h.1[a]? = some (.inl (1, n, rs))) (hi : vp_in i n) (k : V E μ K npc L st (hI h a i.toNatClampNeg (vp_nar .byte v)) c) : V E μ K pc L (.int v :: .int i :: .ref a :: st) h c := by
  obtain ⟨hdg, rfl⟩ := hd
  intro g p e s m args below meth cd H locs ls hF hW hL
  refine va_bast (A := aA g) hF.1 hF.2.1 (F_k hF) hW.1 (cw_D g h) hW.2.1 a 1 (cw_I hs (by decide)) rfl hi hdg (fun H1 locs1 q1 q2 q3 => ?_)
  rw [cw_setI hs (by decide)] at q1
  exact k g p e s m args below meth cd H1 locs1 ls hF ⟨q1, q3, hW.2.2⟩ hL
theorem V_zast {a n : Nat} {rs : List Nat} {i v : Int32} (hd : Dc (M_c μ) pc .bastore 1 npc) (hs : h.1[a]? = some (.inl (2, n, rs))) (hi : vp_in i n) (k : V E μ K npc L st (hI h a i.toNatClampNeg (vp_nar .boolean v)) c) : V E μ K pc L (.int v :: .int i :: .ref a :: st) h c := by
  obtain ⟨hdg, rfl⟩ := hd
  intro g p e s m args below meth cd H locs ls hF hW hL
  refine va_zast (A := aA g) hF.1 hF.2.1 (F_k hF) hW.1 (cw_D g h) hW.2.1 a 2 (cw_I hs (by decide)) rfl hi hdg (fun H1 locs1 q1 q2 q3 => ?_)
  rw [cw_setI hs (by decide)] at q1
  exact k g p e s m args below meth cd H1 locs1 ls hF ⟨q1, q3, hW.2.2⟩ hL
theorem V_last {a n : Nat} {rs : List Nat} {i : Int32} {v : Int64} (hd : Dc (M_c μ) pc .lastore 1 npc) (hs : h.1[a]? = some (.inl (3, n, rs))) (hi : vp_in i n) (k : V E μ K npc L st (hJ h a i.toNatClampNeg v) c) : V E μ K pc L (.long v :: .int i :: .ref a :: st) h c := by
  obtain ⟨hdg, rfl⟩ := hd
  intro g p e s m args below meth cd H locs ls hF hW hL
  refine va_last (A := aA g) hF.1 hF.2.1 (F_k hF) hW.1 (cw_D g h) hW.2.1 a 3 (cw_J hs) rfl hi hdg (fun H1 locs1 q1 q2 q3 => ?_)
  rw [cw_setJ hs] at q1
  exact k g p e s m args below meth cd H1 locs1 ls hF ⟨q1, q3, hW.2.2⟩ hL
theorem V_alen {a t n : Nat} {rs : List Nat} {v : Int32} (hd : Dc (M_c μ) pc .arraylength 1 npc) (hs : h.1[a]? = some (.inl (t, n, rs))) (ht : t < 6) (hv : Int32.ofNat n = v) (k : V E μ K npc L (.int v :: st) h c) : V E μ K pc L (.ref a :: st) h c := by
  obtain ⟨hdg, rfl⟩ := hd
  intro g p e s m args below meth cd H locs ls hF hW hL
  obtain ⟨ty, hty⟩ : ∃ ty, (aT g)[t]? = some (g.2.1 t, ty) := by
    match t, ht with
    | 0, _ => exact ⟨_, rfl⟩
    | 1, _ => exact ⟨_, rfl⟩
    | 2, _ => exact ⟨_, rfl⟩
    | 3, _ => exact ⟨_, rfl⟩
    | 4, _ => exact ⟨_, rfl⟩
    | 5, _ => exact ⟨_, rfl⟩
  exact va_alen hF.1 hF.2.1 (F_k hF) hW.1 a t (cw_at hs) hty hv hdg (k g p e s m args below meth cd H locs ls hF hW hL)
theorem V_copyI {a b idx n0 n1 : Nat} {r0 r1 : List Nat} {sp dp n : Int32} (hd : Dc (M_c μ) pc (.invokestatic idx) 3 npc) (hl : Cond.methodLink (M_y μ).cls idx arraycopyName ∈ gtb) (hs0 : h.1[a]? = some (.inl (0, n0, r0))) (hs1 : h.1[b]? = some (.inl (0, n1, r1))) (h1 : ¬ sp < 0) (h2 : ¬ dp < 0) (h3 : ¬ n < 0) (h4 : sp.toNatClampNeg + n.toNatClampNeg ≤ n0) (h5 : dp.toNatClampNeg + n.toNatClampNeg ≤ n1) (hr : cpok (M_R μ) st = true) (k : V E μ K npc L st (hCI h a b sp.toNatClampNeg dp.toNatClampNeg n.toNatClampNeg) c) : V E μ K pc L (.int n :: .int dp :: .ref b :: .int sp :: .ref a :: st) h c := by
  obtain ⟨hdg, rfl⟩ := hd
  intro g p e s m args below meth cd H locs ls hF hW hL
  obtain ⟨r1, r2⟩ := cpok_spec (aX_cat (F_X hF)) hr
  refine va_copyi (A := aA g) hF.1 hF.2.1 (hF.2.2.1.trans hL.1.symm) (F_o hF) (F_w hF _ hl) (F_w hF _ w_cpN) (F_w hF _ w_cpS) (F_w hF _ w_cpI) (F_k hF) hW.1 (cw_D g h) hW.2.1 a b 0 0 (cw_I hs0 (by decide)) (cw_I hs1 (by decide)) rfl rfl rfl h1 h2 h3 h4 h5 (fun _ _ => rfl) r1 r2 hdg (fun H1 locs1 q1 q2 q3 => ?_)
  rw [cw_setCI hs1 (by decide)] at q1
  exact k g p e s m args below meth cd H1 locs1 ls hF ⟨q1, q3, hW.2.2⟩ hL
theorem V_copyJ {a b idx n0 n1 : Nat} {r0 r1 : List Nat} {sp dp n : Int32} (hd : Dc (M_c μ) pc (.invokestatic idx) 3 npc) (hl : Cond.methodLink (M_y μ).cls idx arraycopyName ∈ gtb) (hs0 : h.1[a]? = some (.inl (3, n0, r0))) (hs1 : h.1[b]? = some (.inl (3, n1, r1))) (h1 : ¬ sp < 0) (h2 : ¬ dp < 0) (h3 : ¬ n < 0) (h4 : sp.toNatClampNeg + n.toNatClampNeg ≤ n0) (h5 : dp.toNatClampNeg + n.toNatClampNeg ≤ n1) (hr : cpok (M_R μ) st = true) (k : V E μ K npc L st (hCJ h a b sp.toNatClampNeg dp.toNatClampNeg n.toNatClampNeg) c) : V E μ K pc L (.int n :: .int dp :: .ref b :: .int sp :: .ref a :: st) h c := by
  obtain ⟨hdg, rfl⟩ := hd
  intro g p e s m args below meth cd H locs ls hF hW hL
  obtain ⟨r1, r2⟩ := cpok_spec (aX_cat (F_X hF)) hr
  refine va_copyl (A := aA g) hF.1 hF.2.1 (hF.2.2.1.trans hL.1.symm) (F_o hF) (F_w hF _ hl) (F_w hF _ w_cpN) (F_w hF _ w_cpS) (F_w hF _ w_cpI) (F_k hF) hW.1 (cw_D g h) hW.2.1 a b 3 3 (cw_J hs0) (cw_J hs1) rfl rfl rfl h1 h2 h3 h4 h5 (fun _ _ => rfl) r1 r2 hdg (fun H1 locs1 q1 q2 q3 => ?_)
  rw [cw_setCJ hs1] at q1
  exact k g p e s m args below meth cd H1 locs1 ls hF ⟨q1, q3, hW.2.2⟩ hL

theorem V_callV0 {idx : Nat} {μ2 : aM} {a : Nat} (As : List Value) (hd : Dc (M_c μ) pc (.invokevirtual idx) 3 npc) (ok : okV (M_y μ).cls idx μ2) {ci : Nat} {fs : List Nat} (hs : h.1[a]? = some (.inr (ci, fs))) (hci : (CLS[ci]?).map (fun q => q.1) = some (M_y μ2).cls) (hk : M_k μ2 = 0) (hr : rmok (M_R μ) μ2 c = true) (hn : As.length = M_n μ2) (hst : stW st = true) (k : Call E μ2 (.ref a :: As) h (fun r h2 => V E μ K npc L st h2 (c.1 + (M_R μ2).cells, c.2 + (M_R μ2).slots))) : V E μ K pc L (As.reverse ++ .ref a :: st) h c := by
  obtain ⟨hdg, rfl⟩ := hd
  have hr := rmok_spec hr
  intro g p e s m args below meth cd H locs ls hF hW hL
  refine W_size (fun hz => ?_)
  have hsz := aW_size hW hz (F_b hF)
  have hM := k g
  have hrun := va_runV (S := ⟨hF.1, hF.2.1, hF.2.2.1, F_o hF, F_w hF⟩) (b := g.2.2.1 + a) (C := (M_y μ2).cls) (As := (As.map (cv g))) (rest := st.map (cv g)) (g := F0 m pc ls ((As.reverse ++ .ref a :: st).map (cv g))) (locs := locs) (below := below) (meth := meth) (e := e) (R := M_R μ) (cells := c.1) (slots := c.2) (H := H) hM
    (⟨callB_of (M_n μ2) (F_w hF) (g_goodIn ok.1.2.1) rfl rfl rfl (F_w hF _ ok.1.2.2.1) (F_w hF _ ok.2.1) ok.1.2.2.2 hr.1, F_w hF _ ok.2.2.1, F_w hF _ ok.2.2.2⟩)
    ⟨aPre_blind, by
      obtain ⟨q, hq1, hq2⟩ := Option.map_eq_some_iff.mp hci
      have := va_recv (F_k hF) hW.1 hq1 (cw_O hs)
      rw [hq2] at this
      exact this, aPre_of hF hW hsz ((.ref a :: As).map (cv g))⟩ rfl (by rw [List.length_map]; exact hn) hL.1 (by simp [cv]) (stW_spec (aX_cat (F_X hF)) hst) hdg hr.2
  refine va_callv (hrun.mono (fun s0 oc t e1 hq => rQ_0 hk e1 hq)) hW.2.1 (fun q _ z => z) (fun q z => z) (fun u t H1 locs1 q1 q2 q3 q4 q5 q6 q7 => ?_)
  subst q1
  exact q3.1 g p e s m args below meth cd t.heap locs1 ls hF ⟨q4, q7, by have := q3.2; have := hW.2.2; show s.heap.size + (c.1 + (M_R μ2).cells) = _; omega⟩ hL
theorem V_callV1 {idx : Nat} {μ2 : aM} {a : Nat} (As : List Value) (hd : Dc (M_c μ) pc (.invokevirtual idx) 3 npc) (ok : okV (M_y μ).cls idx μ2) {ci : Nat} {fs : List Nat} (hs : h.1[a]? = some (.inr (ci, fs))) (hci : (CLS[ci]?).map (fun q => q.1) = some (M_y μ2).cls) (hk : M_k μ2 = 1) (hr : rmok (M_R μ) μ2 c = true) (hn : As.length = M_n μ2) (hst : stW st = true) (k : Call E μ2 (.ref a :: As) h (fun r h2 => V E μ K npc L (r :: st) h2 (c.1 + (M_R μ2).cells, c.2 + (M_R μ2).slots))) : V E μ K pc L (As.reverse ++ .ref a :: st) h c := by
  obtain ⟨hdg, rfl⟩ := hd
  have hr := rmok_spec hr
  intro g p e s m args below meth cd H locs ls hF hW hL
  refine W_size (fun hz => ?_)
  have hsz := aW_size hW hz (F_b hF)
  have hM := k g
  have hrun := va_runV (S := ⟨hF.1, hF.2.1, hF.2.2.1, F_o hF, F_w hF⟩) (b := g.2.2.1 + a) (C := (M_y μ2).cls) (As := (As.map (cv g))) (rest := st.map (cv g)) (g := F0 m pc ls ((As.reverse ++ .ref a :: st).map (cv g))) (locs := locs) (below := below) (meth := meth) (e := e) (R := M_R μ) (cells := c.1) (slots := c.2) (H := H) hM
    (⟨callB_of (M_n μ2) (F_w hF) (g_goodIn ok.1.2.1) rfl rfl rfl (F_w hF _ ok.1.2.2.1) (F_w hF _ ok.2.1) ok.1.2.2.2 hr.1, F_w hF _ ok.2.2.1, F_w hF _ ok.2.2.2⟩)
    ⟨aPre_blind, by
      obtain ⟨q, hq1, hq2⟩ := Option.map_eq_some_iff.mp hci
      have := va_recv (F_k hF) hW.1 hq1 (cw_O hs)
      rw [hq2] at this
      exact this, aPre_of hF hW hsz ((.ref a :: As).map (cv g))⟩ rfl (by rw [List.length_map]; exact hn) hL.1 (by simp [cv]) (stW_spec (aX_cat (F_X hF)) hst) hdg hr.2
  refine va_calli (hrun.mono (fun s0 oc t e1 hq => rQ_1 hk e1 hq)) hW.2.1 (fun q _ z => z) (fun q z => z) (fun r u t H1 locs1 q1 q2 q3 q4 q5 q6 q7 => ?_)
  subst q1
  exact q3.1 g p e s m args below meth cd t.heap locs1 ls hF ⟨q4, q7, by have := q3.2; have := hW.2.2; show s.heap.size + (c.1 + (M_R μ2).cells) = _; omega⟩ hL
theorem V_callV2 {idx : Nat} {μ2 : aM} {a : Nat} (As : List Value) (hd : Dc (M_c μ) pc (.invokevirtual idx) 3 npc) (ok : okV (M_y μ).cls idx μ2) {ci : Nat} {fs : List Nat} (hs : h.1[a]? = some (.inr (ci, fs))) (hci : (CLS[ci]?).map (fun q => q.1) = some (M_y μ2).cls) (hk : M_k μ2 = 2) (hr : rmok (M_R μ) μ2 c = true) (hn : As.length = M_n μ2) (hst : stW st = true) (k : Call E μ2 (.ref a :: As) h (fun r h2 => V E μ K npc L (r :: st) h2 (c.1 + (M_R μ2).cells, c.2 + (M_R μ2).slots))) : V E μ K pc L (As.reverse ++ .ref a :: st) h c := by
  obtain ⟨hdg, rfl⟩ := hd
  have hr := rmok_spec hr
  intro g p e s m args below meth cd H locs ls hF hW hL
  refine W_size (fun hz => ?_)
  have hsz := aW_size hW hz (F_b hF)
  have hM := k g
  have hrun := va_runV (S := ⟨hF.1, hF.2.1, hF.2.2.1, F_o hF, F_w hF⟩) (b := g.2.2.1 + a) (C := (M_y μ2).cls) (As := (As.map (cv g))) (rest := st.map (cv g)) (g := F0 m pc ls ((As.reverse ++ .ref a :: st).map (cv g))) (locs := locs) (below := below) (meth := meth) (e := e) (R := M_R μ) (cells := c.1) (slots := c.2) (H := H) hM
    (⟨callB_of (M_n μ2) (F_w hF) (g_goodIn ok.1.2.1) rfl rfl rfl (F_w hF _ ok.1.2.2.1) (F_w hF _ ok.2.1) ok.1.2.2.2 hr.1, F_w hF _ ok.2.2.1, F_w hF _ ok.2.2.2⟩)
    ⟨aPre_blind, by
      obtain ⟨q, hq1, hq2⟩ := Option.map_eq_some_iff.mp hci
      have := va_recv (F_k hF) hW.1 hq1 (cw_O hs)
      rw [hq2] at this
      exact this, aPre_of hF hW hsz ((.ref a :: As).map (cv g))⟩ rfl (by rw [List.length_map]; exact hn) hL.1 (by simp [cv]) (stW_spec (aX_cat (F_X hF)) hst) hdg hr.2
  refine va_calll (hrun.mono (fun s0 oc t e1 hq => rQ_2 hk e1 hq)) hW.2.1 (fun q _ z => z) (fun q z => z) (fun r u t H1 locs1 q1 q2 q3 q4 q5 q6 q7 => ?_)
  subst q1
  exact q3.1 g p e s m args below meth cd t.heap locs1 ls hF ⟨q4, q7, by have := q3.2; have := hW.2.2; show s.heap.size + (c.1 + (M_R μ2).cells) = _; omega⟩ hL
theorem V_callS0 {idx : Nat} {μ2 : aM} (As : List Value) (hd : Dc (M_c μ) pc (.invokestatic idx) 3 npc) (ok : okS (M_y μ).cls idx μ2) (hk : M_k μ2 = 0) (hr : rmok (M_R μ) μ2 c = true) (hn : As.length = M_n μ2) (hst : stW st = true) (k : Call E μ2 (As) h (fun r h2 => V E μ K npc L st h2 (c.1 + (M_R μ2).cells, c.2 + (M_R μ2).slots))) : V E μ K pc L (As.reverse ++ st) h c := by
  obtain ⟨hdg, rfl⟩ := hd
  have hr := rmok_spec hr
  intro g p e s m args below meth cd H locs ls hF hW hL
  refine W_size (fun hz => ?_)
  have hsz := aW_size hW hz (F_b hF)
  have hM := k g
  have hrun := va_runS (S := ⟨hF.1, hF.2.1, hF.2.2.1, F_o hF, F_w hF⟩) (As := (As.map (cv g))) (rest := st.map (cv g)) (g := F0 m pc ls ((As.reverse ++ st).map (cv g))) (locs := locs) (below := below) (meth := meth) (e := e) (R := M_R μ) (cells := c.1) (slots := c.2) (H := H) hM
    (⟨callB_of (M_n μ2) (F_w hF) (g_goodIn ok.1.2.1) rfl rfl rfl (F_w hF _ ok.1.2.2.1) (F_w hF _ ok.2.1) ok.1.2.2.2 hr.1, F_w hF _ ok.2.2⟩)
    ⟨aPre_blind, aPre_of hF hW hsz (As.map (cv g))⟩ rfl (by rw [List.length_map]; exact hn) hL.1 (by simp [cv]) (stW_spec (aX_cat (F_X hF)) hst) hdg hr.2
  refine va_callv (hrun.mono (fun s0 oc t e1 hq => rQ_0 hk e1 hq)) hW.2.1 (fun q _ z => z) (fun q z => z) (fun u t H1 locs1 q1 q2 q3 q4 q5 q6 q7 => ?_)
  subst q1
  exact q3.1 g p e s m args below meth cd t.heap locs1 ls hF ⟨q4, q7, by have := q3.2; have := hW.2.2; show s.heap.size + (c.1 + (M_R μ2).cells) = _; omega⟩ hL
theorem V_callS1 {idx : Nat} {μ2 : aM} (As : List Value) (hd : Dc (M_c μ) pc (.invokestatic idx) 3 npc) (ok : okS (M_y μ).cls idx μ2) (hk : M_k μ2 = 1) (hr : rmok (M_R μ) μ2 c = true) (hn : As.length = M_n μ2) (hst : stW st = true) (k : Call E μ2 (As) h (fun r h2 => V E μ K npc L (r :: st) h2 (c.1 + (M_R μ2).cells, c.2 + (M_R μ2).slots))) : V E μ K pc L (As.reverse ++ st) h c := by
  obtain ⟨hdg, rfl⟩ := hd
  have hr := rmok_spec hr
  intro g p e s m args below meth cd H locs ls hF hW hL
  refine W_size (fun hz => ?_)
  have hsz := aW_size hW hz (F_b hF)
  have hM := k g
  have hrun := va_runS (S := ⟨hF.1, hF.2.1, hF.2.2.1, F_o hF, F_w hF⟩) (As := (As.map (cv g))) (rest := st.map (cv g)) (g := F0 m pc ls ((As.reverse ++ st).map (cv g))) (locs := locs) (below := below) (meth := meth) (e := e) (R := M_R μ) (cells := c.1) (slots := c.2) (H := H) hM
    (⟨callB_of (M_n μ2) (F_w hF) (g_goodIn ok.1.2.1) rfl rfl rfl (F_w hF _ ok.1.2.2.1) (F_w hF _ ok.2.1) ok.1.2.2.2 hr.1, F_w hF _ ok.2.2⟩)
    ⟨aPre_blind, aPre_of hF hW hsz (As.map (cv g))⟩ rfl (by rw [List.length_map]; exact hn) hL.1 (by simp [cv]) (stW_spec (aX_cat (F_X hF)) hst) hdg hr.2
  refine va_calli (hrun.mono (fun s0 oc t e1 hq => rQ_1 hk e1 hq)) hW.2.1 (fun q _ z => z) (fun q z => z) (fun r u t H1 locs1 q1 q2 q3 q4 q5 q6 q7 => ?_)
  subst q1
  exact q3.1 g p e s m args below meth cd t.heap locs1 ls hF ⟨q4, q7, by have := q3.2; have := hW.2.2; show s.heap.size + (c.1 + (M_R μ2).cells) = _; omega⟩ hL
theorem V_callS2 {idx : Nat} {μ2 : aM} (As : List Value) (hd : Dc (M_c μ) pc (.invokestatic idx) 3 npc) (ok : okS (M_y μ).cls idx μ2) (hk : M_k μ2 = 2) (hr : rmok (M_R μ) μ2 c = true) (hn : As.length = M_n μ2) (hst : stW st = true) (k : Call E μ2 (As) h (fun r h2 => V E μ K npc L (r :: st) h2 (c.1 + (M_R μ2).cells, c.2 + (M_R μ2).slots))) : V E μ K pc L (As.reverse ++ st) h c := by
  obtain ⟨hdg, rfl⟩ := hd
  have hr := rmok_spec hr
  intro g p e s m args below meth cd H locs ls hF hW hL
  refine W_size (fun hz => ?_)
  have hsz := aW_size hW hz (F_b hF)
  have hM := k g
  have hrun := va_runS (S := ⟨hF.1, hF.2.1, hF.2.2.1, F_o hF, F_w hF⟩) (As := (As.map (cv g))) (rest := st.map (cv g)) (g := F0 m pc ls ((As.reverse ++ st).map (cv g))) (locs := locs) (below := below) (meth := meth) (e := e) (R := M_R μ) (cells := c.1) (slots := c.2) (H := H) hM
    (⟨callB_of (M_n μ2) (F_w hF) (g_goodIn ok.1.2.1) rfl rfl rfl (F_w hF _ ok.1.2.2.1) (F_w hF _ ok.2.1) ok.1.2.2.2 hr.1, F_w hF _ ok.2.2⟩)
    ⟨aPre_blind, aPre_of hF hW hsz (As.map (cv g))⟩ rfl (by rw [List.length_map]; exact hn) hL.1 (by simp [cv]) (stW_spec (aX_cat (F_X hF)) hst) hdg hr.2
  refine va_calll (hrun.mono (fun s0 oc t e1 hq => rQ_2 hk e1 hq)) hW.2.1 (fun q _ z => z) (fun q z => z) (fun r u t H1 locs1 q1 q2 q3 q4 q5 q6 q7 => ?_)
  subst q1
  exact q3.1 g p e s m args below meth cd t.heap locs1 ls hF ⟨q4, q7, by have := q3.2; have := hW.2.2; show s.heap.size + (c.1 + (M_R μ2).cells) = _; omega⟩ hL
theorem V_callI0 {idx : Nat} {μ2 : aM} {a : Nat} (As : List Value) (hd : Dc (M_c μ) pc (.invokespecial idx) 3 npc) (ok : okI (M_y μ).cls idx μ2) (hret : M_r μ2 = none) (hk : M_k μ2 = 0) (hr : rmok (M_R μ) μ2 c = true) (hn : As.length = M_n μ2) (hst : stW st = true) (k : Call E μ2 (.ref a :: As) h (fun r h2 => V E μ K npc L st h2 (c.1 + (M_R μ2).cells, c.2 + (M_R μ2).slots))) : V E μ K pc L (As.reverse ++ .ref a :: st) h c := by
  obtain ⟨hdg, rfl⟩ := hd
  have hr := rmok_spec hr
  intro g p e s m args below meth cd H locs ls hF hW hL
  refine W_size (fun hz => ?_)
  have hsz := aW_size hW hz (F_b hF)
  have hM := k g
  have hrun := va_runI (S := ⟨hF.1, hF.2.1, hF.2.2.1, F_o hF, F_w hF⟩) (b := g.2.2.1 + a) (As := (As.map (cv g))) (rest := st.map (cv g)) (g := F0 m pc ls ((As.reverse ++ .ref a :: st).map (cv g))) (locs := locs) (below := below) (meth := meth) (e := e) (R := M_R μ) (cells := c.1) (slots := c.2) (H := H) hM
    (⟨callB_of (M_n μ2) (F_w hF) (g_goodIn ok.1.2.1) (by rw [hret]) rfl rfl (F_w hF _ ok.1.2.2.1) (F_w hF _ ok.2.1) ok.1.2.2.2 hr.1, ok.2.2.2, F_w hF _ ok.2.2.1⟩)
    ⟨aPre_blind, aPre_of hF hW hsz ((.ref a :: As).map (cv g))⟩ rfl (by rw [List.length_map]; exact hn) hL.1 (by simp [cv]) (stW_spec (aX_cat (F_X hF)) hst) hdg hr.2
  refine va_callv (hrun.mono (fun s0 oc t e1 hq => rQ_0 hk e1 hq)) hW.2.1 (fun q _ z => z) (fun q z => z) (fun u t H1 locs1 q1 q2 q3 q4 q5 q6 q7 => ?_)
  subst q1
  exact q3.1 g p e s m args below meth cd t.heap locs1 ls hF ⟨q4, q7, by have := q3.2; have := hW.2.2; show s.heap.size + (c.1 + (M_R μ2).cells) = _; omega⟩ hL
end VR
