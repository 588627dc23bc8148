theorem Met_mono {l : Launch} {y : MethodName} {ws : List Cond} {rm : Room} {Pc : Array Value → State → Prop} {Qc Qd : Array Value → State → Outcome → State → Prop} {mc ms : Nat} {free : Addr → Prop} (h : Met l y ws rm Pc Qc mc ms free) (hq : ∀ a s o t, Qc a s o t → Qd a s o t) : Met l y ws rm Pc Qd mc ms free := by
  intro p e h1 h2 h3 s m args below h4 h5 h6 h7
  obtain ⟨n, o, a1, a2, a3, a4, a5⟩ := h p e h1 h2 h3 s m args below h4 h5 h6 h7
  exact ⟨n, o, a1, a2, a3, hq _ _ _ _ a4, a5⟩
theorem rQ_mono {μ : aM} {K K2 : Value → aH → Prop} {g : aG} {a : Array Value} {s t : State} {oc : Outcome} (hk : ∀ r h, K r h → K2 r h) (h : rQ μ K g a s oc t) : rQ μ K2 g a s oc t := by
  unfold rQ at h ⊢
  split at h
  · obtain ⟨⟨u, h1, h2, h3⟩, h4⟩ := h
    exact ⟨⟨u, h1, ⟨hk _ _ h2.1, h2.2⟩, h3⟩, h4⟩
  · obtain ⟨⟨r, u, h1, h2, h3⟩, h4⟩ := h
    exact ⟨⟨r, u, h1, ⟨hk _ _ h2.1, h2.2⟩, h3⟩, h4⟩
  · obtain ⟨⟨r, u, h1, h2, h3⟩, h4⟩ := h
    exact ⟨⟨r, u, h1, ⟨hk _ _ h2.1, h2.2⟩, h3⟩, h4⟩
theorem Call_mono {E : aE} {μ : aM} {avs : List Value} {h : aH} {K K2 : Value → aH → Prop} (c : Call E μ avs h K) (hk : ∀ r h, K r h → K2 r h) : Call E μ avs h K2 := fun g => Met_mono (c g) (fun _ _ _ _ q => rQ_mono hk q)
/-- the locals at a method's entry -/
def aEnt : List Value → List Value
  | [] => []
  | v :: t => if v.category = 2 then v :: .retAddr 0 :: aEnt t else v :: aEnt t
theorem aEnt_len {g : aG} (hc : ∀ j, (g.2.2.2 j).category = 1) : ∀ vs : List Value, (lg_sl (vs.map (cv g))).length = (aEnt vs).length
  | [] => rfl
  | v :: t => by
    have ih := aEnt_len hc t
    simp only [lg_sl, List.map_cons, List.flatMap_cons, List.length_append, aEnt, cv_cat hc] at ih ⊢
    by_cases h : v.category = 2
    · simp only [h, if_true, List.length_cons, List.length_nil, ih]; omega
    · simp only [h, if_false, List.length_cons, List.length_nil, ih]; omega
theorem aEnt_at {g : aG} (hc : ∀ j, (g.2.2.2 j).category = 1) : ∀ (vs : List Value) (i : Nat) (v : Value), (aEnt vs)[i]? = some v → isJ v = false → (lg_sl (vs.map (cv g)))[i]? = some (.val (cv g v))
  | [], i, v, h, _ => by simp [aEnt] at h
  | w :: t, i, v, h, hj => by
    have ih := aEnt_at hc t
    simp only [lg_sl, List.map_cons, List.flatMap_cons, aEnt, cv_cat hc] at ih h ⊢
    by_cases hw : w.category = 2
    · simp only [hw, if_true] at h ⊢
      match i, h with
      | 0, h => simp at h; subst h; rfl
      | 1, h => simp at h; subst h; cases hj
      | i + 2, h => simp at h; simpa using ih i v h hj
    · simp only [hw, if_false] at h ⊢
      match i, h with
      | 0, h => simp at h; subst h; rfl
      | i + 1, h => simp at h; simpa using ih i v h hj
theorem aL_entry {E : aE} {g : aG} {s : State} (hX : aX E g s) {avs L : List Value} {n : Nat} (hl : aEnt avs ++ List.replicate (n - (aEnt avs).length) (.retAddr 0) = L) (hn : Nat.ble (aEnt avs).length n = true) : aL g L ((lg_sl (avs.map (cv g)) ++ List.replicate (n - (lg_sl (avs.map (cv g))).length) Slot.unset).toArray) n := by
  have hc := aX_cat hX
  have hn := Nat.le_of_ble_eq_true hn
  obtain ⟨h1, h2, -⟩ := lv_entry (avs.map (cv g)) (n := n) (by rw [aEnt_len hc]; exact hn)
  refine ⟨h1, h2, fun i v hv hj => ?_⟩
  subst hl
  rw [List.getElem?_toArray]
  by_cases hi : i < (aEnt avs).length
  · rw [List.getElem?_append_left hi] at hv
    rw [List.getElem?_append_left (by rw [aEnt_len hc]; exact hi)]
    exact aEnt_at hc avs i v hv hj
  · rw [List.getElem?_append_right (by omega), List.getElem?_replicate] at hv
    split at hv
    · cases hv; cases hj
    · cases hv
/-- a contract out of a walk from the entry -/
theorem Call_of {E : aE} {μ : aM} {avs L : List Value} {h : aH} {K : Value → aH → Prop} (hy : plainName (M_y μ).cls = true) (hl : aEnt avs ++ List.replicate (M_L μ - (aEnt avs).length) (.retAddr 0) = L) (hn : Nat.ble (aEnt avs).length (M_L μ) = true) (k : V E μ K 0 L [] h (0, 0)) : Call E μ avs h K := by
  intro g
  refine Met.ofW (cc := M_c μ) (maxL := M_L μ) (ret := M_r μ) hy rfl ?_
  intro p e s m args below meth c s₁ B hml hv
  obtain ⟨rfl, hP, hK, hsz, hX⟩ := hv
  rw [lg_entry_eq]
  have hts := atoms_spec (ws := Cond.code (M_y μ) (M_c μ) (M_L μ) (M_r μ) :: gtb) B.pre
  exact k g p e s m _ below meth c s.heap [] _ ⟨B.exec, B.bytes, hml, B.returns, B.notSynchronized, (name_of_methodNamed B.named B.method).1, findClass_of_methodNamed B.named, fun w hw => hts w (List.mem_cons_of_mem _ hw), hK, by omega, hX⟩ ⟨hP, va_S.rf, by simpa using hsz⟩ (aL_entry hX hl hn)
section VR
variable {E : aE} {μ : aM} {K : Value → aH → Prop} {pc npc tgt : Nat} {L : List Value} {st : List Value} {h : aH} {c : Nat × Nat}
theorem V_iret {v : Int32} (hd : decode (M_c μ) pc = .ok (.ireturn, 1)) (hr : ∃ ty, M_r μ = some ty ∧ narrow ty (.int v) = .int v) (hk : M_k μ = 1) (hc : c = ((M_R μ).cells, (M_R μ).slots)) (k : K (.int v) h) : V E μ K pc L [.int v] h c := by
  subst hc
  obtain ⟨ty, hr1, hr2⟩ := hr
  intro g p e s m args below meth cd H locs ls hF hW hL
  refine W.zret hF.1 hF.2.1 (hF.2.2.2.1.trans hr1) hr2 (fun t ht hw => ?_) (fun q hq => hW.2.1.2.2 q hq) hd hF.2.2.2.2.1
  unfold rQ
  rw [hk]
  exact ⟨⟨v, h, rfl, ⟨k, hW.2.2⟩, by rw [← ht] at hW; exact hW.1⟩, hW.2.1.F ht⟩
theorem V_lret {v : Int64} (hd : decode (M_c μ) pc = .ok (.lreturn, 1)) (hr : M_r μ = some .long) (hk : M_k μ = 2) (hc : c = ((M_R μ).cells, (M_R μ).slots)) (k : K (.long v) h) : V E μ K pc L [.long v] h c := by
  subst hc
  intro g p e s m args below meth cd H locs ls hF hW hL
  refine W.lret hF.1 hF.2.1 (hF.2.2.2.1.trans hr) (fun t ht hw => ?_) (fun q hq => hW.2.1.2.2 q hq) hd hF.2.2.2.2.1
  unfold rQ
  rw [hk]
  exact ⟨⟨v, h, rfl, ⟨k, hW.2.2⟩, by rw [← ht] at hW; exact hW.1⟩, hW.2.1.F ht⟩
theorem V_vret (hd : decode (M_c μ) pc = .ok (.return_, 1)) (hr : M_r μ = none) (hk : M_k μ = 0) (hc : c = ((M_R μ).cells, (M_R μ).slots)) (k : K .null h) : V E μ K pc L [] h c := by
  subst hc
  intro g p e s m args below meth cd H locs ls hF hW hL
  refine W.vret hF.1 hF.2.1 (hF.2.2.2.1.trans hr) (fun t ht hw => ?_) (fun q hq => hW.2.1.2.2 q hq) hd hF.2.2.2.2.1
  unfold rQ
  rw [hk]
  exact ⟨⟨h, rfl, ⟨k, hW.2.2⟩, by rw [← ht] at hW; exact hW.1⟩, hW.2.1.F ht⟩
/-- fewer locals known -/
def lsub : List Value → List Value → Bool
  | [], _ => true
  | v :: t, [] => isJ v && lsub t []
  | v :: t, w :: u => (isJ v || (v == w)) && lsub t u
theorem V_wk {L2 : List Value} (hs : ∀ (i : Nat) (v : Value), L2[i]? = some v → isJ v = false → L[i]? = some v) (k : V E μ K pc L2 st h c) : V E μ K pc L st h c := by
  intro g p e s m args below meth cd H locs ls hF hW hL
  exact k g p e s m args below meth cd H locs ls hF hW ⟨hL.1, hL.2.1, fun i v h1 h2 => hL.2.2 i v (hs i v h1 h2) h2⟩
theorem wk_nil {L : List Value} : ∀ (i : Nat) (v : Value), ([] : List Value)[i]? = some v → isJ v = false → L[i]? = some v := fun i v h => by simp at h
theorem wk_eq {v : Value} {L2 L : List Value} (h : ∀ (i : Nat) (v : Value), L2[i]? = some v → isJ v = false → L[i]? = some v) : ∀ (i : Nat) (w : Value), (v :: L2)[i]? = some w → isJ w = false → (v :: L)[i]? = some w := fun i w h1 h2 => by
  cases i with
  | zero => simpa using h1
  | succ i => simpa using h i w (by simpa using h1) h2
theorem wk_j {n : Nat} {v : Value} {L2 L : List Value} (h : ∀ (i : Nat) (v : Value), L2[i]? = some v → isJ v = false → L[i]? = some v) : ∀ (i : Nat) (w : Value), (.retAddr n :: L2)[i]? = some w → isJ w = false → (v :: L)[i]? = some w := fun i w h1 h2 => by
  cases i with
  | zero => simp at h1; subst h1; cases h2
  | succ i => simpa using h i w (by simpa using h1) h2
/-- Object's constructor -/
def oiok (R : Room) (st : List Value) : Bool := Nat.ble 1 R.frames && Nat.ble ((st.map fun v => v.category).sum + 12) R.locals
theorem w_oI : Cond.instanceMethod Lib.objectInit ∈ gtb := g_mem 98 (by decide +kernel) rfl
theorem w_oC : Cond.code Lib.objectInit ⟨#[0xb1]⟩ 1 none ∈ gtb := g_mem 99 (by decide +kernel) rfl
theorem V_oinit {a idx : Nat} (hd : Dc (M_c μ) pc (.invokespecial idx) 3 npc) (hl : Cond.methodLink (M_y μ).cls idx Lib.objectInit ∈ gtb) (hr : oiok (M_R μ) st = true) (k : V E μ K npc L st h c) : V E μ K pc L (.ref a :: st) h c := by
  obtain ⟨hdg, rfl⟩ := hd
  intro g p e s m args below meth cd H locs ls hF hW hL
  simp only [oiok, Bool.and_eq_true, Nat.ble_eq] at hr
  refine W.objInit (a := g.2.2.1 + a) (rest := st.map (cv g)) hF.1 hF.2.1 (F_o hF) (F_w hF _ hl) (F_w hF _ w_oI) (F_w hF _ w_oC) rfl (hL.1.trans hF.2.2.1.symm) (by simp [cv]) hdg hr.1 ?_ (k g p e s m args below meth cd H locs ls hF hW hL)
  rw [map_cat (aX_cat (F_X hF))]
  simpa using hr.2
theorem new_addr {g : aG} {h : aH} {H H1 : Heap} {s : State} {locs : List Loc} {c : Nat × Nat} {q : Nat} {e : va_E} (hW : aW g h H s locs c) (hz : H1.size ≤ s.heap.size + (c.1 + 1)) (hP : va_P g.1 CLS (cw g h ++ [(q, e)]) H1) (hD : va_D (aA g) (cw g h ++ [(q, e)])) : q = g.2.2.1 + h.1.length := by
  have hl : (cw g h).length = h.1.length := by simp [cw]
  have h0 : (cw g h ++ [(q, e)])[h.1.length]? = some (q, e) := by rw [List.getElem?_append_right (by omega), hl, Nat.sub_self]; rfl
  have h1 : g.2.2.1 ≤ q := hD.2 _ _ h0
  have h2 : q < H1.size := (hP _ _ h0).lt
  have h3 := hW.2.2
  rcases Nat.lt_or_ge q (g.2.2.1 + h.1.length) with h4 | h4
  · have hx : h.1[q - g.2.2.1]? = some (h.1[q - g.2.2.1]'(by omega)) := List.getElem?_eq_getElem _
    have h5 := cw_at (g := g) hx
    have h6 : (cw g h ++ [(q, e)])[q - g.2.2.1]? = some (g.2.2.1 + (q - g.2.2.1), ccell g h (q - g.2.2.1) (h.1[q - g.2.2.1]'(by omega))) := by
      rw [List.getElem?_append_left (by omega)]; exact h5
    have := hD.1 _ _ _ _ h6 h0 (by simp only; omega)
    omega
  · omega
/-- a class's fields at their birth -/
def bfs (ci n : Nat) : List Nat := (List.range n).map (fun j => match tyOf ci j with
  | .long => 1
  | .int => 0
  | .boolean => 0
  | _ => 2)
def bok (ci n : Nat) : Prop := ∀ j, j < n → ∀ (g : aG) (h : aH) (k : Nat), h.2.1 k j = 0 → h.2.2 k j = 0 → defaultValue (tyOf ci j) = vp_V (cfs g h k (bfs ci n)) j
theorem V_new {idx ci n : Nat} {C : String} {T : u_T} (hd : Dc (M_c μ) pc (.new idx) 3 npc) (hc : CLS[ci]? = some (C, T, n)) (hl : Cond.classLink (M_y μ).cls idx C ∈ gtb) (hi : Cond.instantiable C n ∈ gtb) (hn : Cond.initialized C ∈ gtb) (hb : bok ci n) (hr : (Nat.ble (c.1 + 1) (M_R μ).cells && Nat.ble (c.2 + n) (M_R μ).slots) = true) (k : V E μ K npc L (.ref h.1.length :: st) (hN h (.inr (ci, bfs ci n))) (c.1 + 1, c.2 + n)) : V E μ K pc L st h c := by
  obtain ⟨hdg, rfl⟩ := hd
  simp only [Bool.and_eq_true, Nat.ble_eq] at hr
  intro g p e s m args below meth cd H locs ls hF hW hL
  refine va_new (cl := CLS) (tys := aT g) (D := g.1) (A := aA g) (fs := cfs g (hN h (.inr (ci, bfs ci n))) h.1.length (bfs ci n)) hF.1 hF.2.1 (F_w hF) (u_inG hc) (tyOf ci) (u_ty hc) (F_o hF) (F_w hF _ hl) (F_w hF _ hi) (F_w hF _ hn) (F_k hF) hW.1 (cw_D g h) hW.2.1 (fun q hq => Nat.le_trans (F_b hF) hq) hc (fun j hj => hb j hj g _ _ (by simp [hN]) (by simp [hN])) hr.1 hr.2 hdg (fun q H1 q1 q2 q3 => ?_)
  refine W_size (fun hz => ?_)
  have hq := new_addr (locs := locs) hW hz q1 q2
  subst hq
  rw [cw_new (c := .inr (ci, bfs ci n)) (e := .inr (ci, cfs g (hN h (.inr (ci, bfs ci n))) h.1.length (bfs ci n))) rfl] at q1
  exact k g p e s m args below meth cd H1 locs ls hF ⟨q1, q3, by have := hW.2.2; simp only [hN, List.length_append, List.length_cons, List.length_nil]; omega⟩ hL
theorem arr_id {U : State} {a b : ClassId} {ty : FieldType} (ha : va_RA U a ty) (hb : va_RA U b ty) : a = b := by
  cases ty with
  | object C =>
    obtain ⟨_, _, -, -, -, h1⟩ := ha
    obtain ⟨_, _, -, -, -, h2⟩ := hb
    rw [h1] at h2
    exact Option.some.inj h2
  | _ =>
    have h1 : U.vm.findClass _ = some a := ha
    have h2 : U.vm.findClass _ = some b := hb
    rw [h1] at h2
    exact Option.some.inj h2
theorem w_arr0 : Cond.arrayClass .int ∈ gtb := g_mem 206 (by decide +kernel) rfl
theorem V_newI {n : Int32} {N : Nat} (hd : Dc (M_c μ) pc (.newarray .int) 2 npc) (hn : ¬ n < 0) (hz : n.toNatClampNeg = N) (hb : N * componentBytes .int ≤ 536870912) (hr : (Nat.ble (c.1 + 1) (M_R μ).cells && Nat.ble (c.2 + N) (M_R μ).slots) = true) (k : V E μ K npc L (.ref h.1.length :: st) (hN h (.inl (0, N, []))) (c.1 + 1, c.2 + N)) : V E μ K pc L (.int n :: st) h c := by
  obtain ⟨hdg, rfl⟩ := hd
  simp only [Bool.and_eq_true, Nat.ble_eq] at hr
  intro g p e s m args below meth cd H locs ls hF hW hL
  refine va_newa (cl := CLS) (tys := aT g) (D := g.1) (A := aA g) (atype := .int) (ty := .int) (a0 := (N, .inl (fun _ => 0))) hF.1 hF.2.1 (F_w hF _ w_arr0) rfl (F_k hF) hW.1 (cw_D g h) hW.2.1 (fun q hq => Nat.le_trans (F_b hF) hq) (fun cA => rfl) hn hz hb hr.1 hr.2 hdg (fun q cA H1 q0 q1 q2 q3 => ?_)
  refine W_size (fun hz2 => ?_)
  have hq := new_addr (locs := locs) hW hz2 q1 q2
  subst hq
  have hid : cA = g.2.1 0 := arr_id (q0.2 6 (cA, .int) rfl).2 (q0.2 0 (g.2.1 0, .int) rfl).2
  subst hid
  rw [cw_new (c := .inl (0, N, [])) (by simp [ccell, hN]; try rfl)] at q1
  exact k g p e s m args below meth cd H1 locs ls hF ⟨q1, q3, by have := hW.2.2; simp only [hN, List.length_append, List.length_cons, List.length_nil]; omega⟩ hL
theorem w_arr1 : Cond.arrayClass .byte ∈ gtb := g_mem 130 (by decide +kernel) rfl
theorem V_newB {n : Int32} {N : Nat} (hd : Dc (M_c μ) pc (.newarray .byte) 2 npc) (hn : ¬ n < 0) (hz : n.toNatClampNeg = N) (hb : N * componentBytes .byte ≤ 536870912) (hr : (Nat.ble (c.1 + 1) (M_R μ).cells && Nat.ble (c.2 + N) (M_R μ).slots) = true) (k : V E μ K npc L (.ref h.1.length :: st) (hN h (.inl (1, N, []))) (c.1 + 1, c.2 + N)) : V E μ K pc L (.int n :: st) h c := by
  obtain ⟨hdg, rfl⟩ := hd
  simp only [Bool.and_eq_true, Nat.ble_eq] at hr
  intro g p e s m args below meth cd H locs ls hF hW hL
  refine va_newa (cl := CLS) (tys := aT g) (D := g.1) (A := aA g) (atype := .byte) (ty := .byte) (a0 := (N, .inl (fun _ => 0))) hF.1 hF.2.1 (F_w hF _ w_arr1) rfl (F_k hF) hW.1 (cw_D g h) hW.2.1 (fun q hq => Nat.le_trans (F_b hF) hq) (fun cA => rfl) hn hz hb hr.1 hr.2 hdg (fun q cA H1 q0 q1 q2 q3 => ?_)
  refine W_size (fun hz2 => ?_)
  have hq := new_addr (locs := locs) hW hz2 q1 q2
  subst hq
  have hid : cA = g.2.1 1 := arr_id (q0.2 6 (cA, .byte) rfl).2 (q0.2 1 (g.2.1 1, .byte) rfl).2
  subst hid
  rw [cw_new (c := .inl (1, N, [])) (by simp [ccell, hN]; try rfl)] at q1
  exact k g p e s m args below meth cd H1 locs ls hF ⟨q1, q3, by have := hW.2.2; simp only [hN, List.length_append, List.length_cons, List.length_nil]; omega⟩ hL
theorem w_arr2 : Cond.arrayClass .boolean ∈ gtb := g_mem 1205 (by decide +kernel) rfl
theorem V_newZ {n : Int32} {N : Nat} (hd : Dc (M_c μ) pc (.newarray .boolean) 2 npc) (hn : ¬ n < 0) (hz : n.toNatClampNeg = N) (hb : N * componentBytes .boolean ≤ 536870912) (hr : (Nat.ble (c.1 + 1) (M_R μ).cells && Nat.ble (c.2 + N) (M_R μ).slots) = true) (k : V E μ K npc L (.ref h.1.length :: st) (hN h (.inl (2, N, []))) (c.1 + 1, c.2 + N)) : V E μ K pc L (.int n :: st) h c := by
  obtain ⟨hdg, rfl⟩ := hd
  simp only [Bool.and_eq_true, Nat.ble_eq] at hr
  intro g p e s m args below meth cd H locs ls hF hW hL
  refine va_newa (cl := CLS) (tys := aT g) (D := g.1) (A := aA g) (atype := .boolean) (ty := .boolean) (a0 := (N, .inl (fun _ => 0))) hF.1 hF.2.1 (F_w hF _ w_arr2) rfl (F_k hF) hW.1 (cw_D g h) hW.2.1 (fun q hq => Nat.le_trans (F_b hF) hq) (fun cA => rfl) hn hz hb hr.1 hr.2 hdg (fun q cA H1 q0 q1 q2 q3 => ?_)
  refine W_size (fun hz2 => ?_)
  have hq := new_addr (locs := locs) hW hz2 q1 q2
  subst hq
  have hid : cA = g.2.1 2 := arr_id (q0.2 6 (cA, .boolean) rfl).2 (q0.2 2 (g.2.1 2, .boolean) rfl).2
  subst hid
  rw [cw_new (c := .inl (2, N, [])) (by simp [ccell, hN]; try rfl)] at q1
  exact k g p e s m args below meth cd H1 locs ls hF ⟨q1, q3, by have := hW.2.2; simp only [hN, List.length_append, List.length_cons, List.length_nil]; omega⟩ hL
theorem w_arr3 : Cond.arrayClass .long ∈ gtb := g_mem 421 (by decide +kernel) rfl
theorem V_newJ {n : Int32} {N : Nat} (hd : Dc (M_c μ) pc (.newarray .long) 2 npc) (hn : ¬ n < 0) (hz : n.toNatClampNeg = N) (hb : N * componentBytes .long ≤ 536870912) (hr : (Nat.ble (c.1 + 1) (M_R μ).cells && Nat.ble (c.2 + N) (M_R μ).slots) = true) (k : V E μ K npc L (.ref h.1.length :: st) (hN h (.inl (3, N, []))) (c.1 + 1, c.2 + N)) : V E μ K pc L (.int n :: st) h c := by
  obtain ⟨hdg, rfl⟩ := hd
  simp only [Bool.and_eq_true, Nat.ble_eq] at hr
  intro g p e s m args below meth cd H locs ls hF hW hL
  refine va_newa (cl := CLS) (tys := aT g) (D := g.1) (A := aA g) (atype := .long) (ty := .long) (a0 := (N, .inr (.inl (fun _ => 0)))) hF.1 hF.2.1 (F_w hF _ w_arr3) rfl (F_k hF) hW.1 (cw_D g h) hW.2.1 (fun q hq => Nat.le_trans (F_b hF) hq) (fun cA => rfl) hn hz hb hr.1 hr.2 hdg (fun q cA H1 q0 q1 q2 q3 => ?_)
  refine W_size (fun hz2 => ?_)
  have hq := new_addr (locs := locs) hW hz2 q1 q2
  subst hq
  have hid : cA = g.2.1 3 := arr_id (q0.2 6 (cA, .long) rfl).2 (q0.2 3 (g.2.1 3, .long) rfl).2
  subst hid
  rw [cw_new (c := .inl (3, N, [])) (by simp [ccell, hN]; try rfl)] at q1
  exact k g p e s m args below meth cd H1 locs ls hF ⟨q1, q3, by have := hW.2.2; simp only [hN, List.length_append, List.length_cons, List.length_nil]; omega⟩ hL
theorem V_newR4 {n : Int32} {N idx : Nat} (hd : Dc (M_c μ) pc (.anewarray idx) 3 npc) (hl : Cond.classLink (M_y μ).cls idx "LatePrices$Ledger" ∈ gtb) (hn : ¬ n < 0) (hz : n.toNatClampNeg = N) (hb : N * 4 ≤ 536870912) (hr : (Nat.ble (c.1 + 1) (M_R μ).cells && Nat.ble (c.2 + N) (M_R μ).slots) = true) (k : V E μ K npc L (.ref h.1.length :: st) (hN h (.inl (4, N, List.replicate N 2))) (c.1 + 1, c.2 + N)) : V E μ K pc L (.int n :: st) h c := by
  obtain ⟨hdg, rfl⟩ := hd
  simp only [Bool.and_eq_true, Nat.ble_eq] at hr
  intro g p e s m args below meth cd H locs ls hF hW hL
  obtain ⟨-, -, -, -, hl4, hl5, -⟩ := F_X hF
  refine va_newq (cl := CLS) (tys := aT g) (D := g.1) (A := aA g) (C := "LatePrices$Ledger") hF.1 hF.2.1 (F_o hF) (F_w hF _ hl) hl4 (F_k hF) hW.1 (cw_D g h) hW.2.1 (fun q hq => Nat.le_trans (F_b hF) hq) hn hz hb hr.1 hr.2 hdg (fun q cA H1 q0 q1 q2 q3 => ?_)
  refine W_size (fun hz2 => ?_)
  have hq := new_addr (locs := locs) hW hz2 q1 q2
  subst hq
  have hid : cA = g.2.1 4 := arr_id (q0.2 6 (cA, .object "LatePrices$Ledger") rfl).2 (q0.2 4 (g.2.1 4, .object "LatePrices$Ledger") rfl).2
  subst hid
  have hcr : crf g (List.replicate N 2) = fun _ => none := by
    funext i
    simp only [crf, List.getD_eq_getElem?_getD, List.getElem?_replicate]
    split <;> rfl
  rw [cw_new (c := .inl (4, N, List.replicate N 2)) (by simp [ccell, hcr])] at q1
  exact k g p e s m args below meth cd H1 locs ls hF ⟨q1, q3, by have := hW.2.2; simp only [hN, List.length_append, List.length_cons, List.length_nil]; omega⟩ hL
theorem V_newR5 {n : Int32} {N idx : Nat} (hd : Dc (M_c μ) pc (.anewarray idx) 3 npc) (hl : Cond.classLink (M_y μ).cls idx "LatePrices$Sheet" ∈ gtb) (hn : ¬ n < 0) (hz : n.toNatClampNeg = N) (hb : N * 4 ≤ 536870912) (hr : (Nat.ble (c.1 + 1) (M_R μ).cells && Nat.ble (c.2 + N) (M_R μ).slots) = true) (k : V E μ K npc L (.ref h.1.length :: st) (hN h (.inl (5, N, List.replicate N 2))) (c.1 + 1, c.2 + N)) : V E μ K pc L (.int n :: st) h c := by
  obtain ⟨hdg, rfl⟩ := hd
  simp only [Bool.and_eq_true, Nat.ble_eq] at hr
  intro g p e s m args below meth cd H locs ls hF hW hL
  obtain ⟨-, -, -, -, hl4, hl5, -⟩ := F_X hF
  refine va_newq (cl := CLS) (tys := aT g) (D := g.1) (A := aA g) (C := "LatePrices$Sheet") hF.1 hF.2.1 (F_o hF) (F_w hF _ hl) hl5 (F_k hF) hW.1 (cw_D g h) hW.2.1 (fun q hq => Nat.le_trans (F_b hF) hq) hn hz hb hr.1 hr.2 hdg (fun q cA H1 q0 q1 q2 q3 => ?_)
  refine W_size (fun hz2 => ?_)
  have hq := new_addr (locs := locs) hW hz2 q1 q2
  subst hq
  have hid : cA = g.2.1 5 := arr_id (q0.2 6 (cA, .object "LatePrices$Sheet") rfl).2 (q0.2 5 (g.2.1 5, .object "LatePrices$Sheet") rfl).2
  subst hid
  have hcr : crf g (List.replicate N 2) = fun _ => none := by
    funext i
    simp only [crf, List.getD_eq_getElem?_getD, List.getElem?_replicate]
    split <;> rfl
  rw [cw_new (c := .inl (5, N, List.replicate N 2)) (by simp [ccell, hcr])] at q1
  exact k g p e s m args below meth cd H1 locs ls hF ⟨q1, q3, by have := hW.2.2; simp only [hN, List.length_append, List.length_cons, List.length_nil]; omega⟩ hL
theorem V_callN0 {μ2 : aM} {a : Nat} (As : List Value) (hd : Dc (M_c μ) pc (.invokespecial 9) 3 npc) (hcl : (M_y μ).cls = "LatePrices") (hy2 : M_y μ2 = ⟨"LatePrices$Tape", "<init>", "()V"⟩) (ok : okM μ2) (hin : Cond.instanceMethod (M_y μ2) ∈ gtb) (hret : M_r μ2 = none) (hk : M_k μ2 = 0) (hr : rmok (M_R μ) μ2 c = true) (hn : As.length = M_n μ2) (hst : stW st = true) (k : Call E μ2 (.ref a :: As) h (fun r h2 => V E μ K npc L st h2 (c.1 + (M_R μ2).cells, c.2 + (M_R μ2).slots))) : V E μ K pc L (As.reverse ++ .ref a :: st) h c := by
  obtain ⟨hdg, rfl⟩ := hd
  have hr := rmok_spec hr
  intro g p e s m args below meth cd H locs ls hF hW hL
  refine W_size (fun hz => ?_)
  have hsz := aW_size hW hz (F_b hF)
  have hM := k g
  obtain ⟨-, -, -, -, -, -, hn0, hn1, -⟩ := F_X hF
  have hNw : va_Nw (.methodLinkNest (M_y μ).cls 9 (M_y μ2) "LatePrices") s := by rw [hcl, hy2]; exact hn0
  have hrun := va_runIN (S := ⟨hF.1, hF.2.1, hF.2.2.1, F_o hF, F_w hF⟩) (b := g.2.2.1 + a) (As := (As.map (cv g))) (rest := st.map (cv g)) (g := F0 m pc ls ((As.reverse ++ .ref a :: st).map (cv g))) (locs := locs) (below := below) (meth := meth) (e := e) (R := M_R μ) (cells := c.1) (slots := c.2) (H := H) hM
    (⟨va_cnB (M_n μ2) (F_w hF) (g_goodIn ok.2.1) (by rw [hret]) rfl rfl hNw (F_w hF _ ok.2.2.1) ok.2.2.2 hr.1, by rw [hy2], F_w hF _ hin⟩)
    ⟨aPre_blind, aPre_of hF hW hsz ((.ref a :: As).map (cv g))⟩ rfl (by rw [List.length_map]; exact hn) hL.1 (by simp [cv]) (stW_spec (aX_cat (F_X hF)) hst) hdg hr.2
  refine va_callv (hrun.mono (fun s0 oc t e1 hq => rQ_0 hk e1 hq)) hW.2.1 (fun q _ z => z) (fun q z => z) (fun u t H1 locs1 q1 q2 q3 q4 q5 q6 q7 => ?_)
  subst q1
  exact q3.1 g p e s m args below meth cd t.heap locs1 ls hF ⟨q4, q7, by have := q3.2; have := hW.2.2; show s.heap.size + (c.1 + (M_R μ2).cells) = _; omega⟩ hL
theorem V_callN1 {μ2 : aM} {a : Nat} (As : List Value) (hd : Dc (M_c μ) pc (.invokespecial 95) 3 npc) (hcl : (M_y μ).cls = "LatePrices") (hy2 : M_y μ2 = ⟨"LatePrices$Sheet", "<init>", "()V"⟩) (ok : okM μ2) (hin : Cond.instanceMethod (M_y μ2) ∈ gtb) (hret : M_r μ2 = none) (hk : M_k μ2 = 0) (hr : rmok (M_R μ) μ2 c = true) (hn : As.length = M_n μ2) (hst : stW st = true) (k : Call E μ2 (.ref a :: As) h (fun r h2 => V E μ K npc L st h2 (c.1 + (M_R μ2).cells, c.2 + (M_R μ2).slots))) : V E μ K pc L (As.reverse ++ .ref a :: st) h c := by
  obtain ⟨hdg, rfl⟩ := hd
  have hr := rmok_spec hr
  intro g p e s m args below meth cd H locs ls hF hW hL
  refine W_size (fun hz => ?_)
  have hsz := aW_size hW hz (F_b hF)
  have hM := k g
  obtain ⟨-, -, -, -, -, -, hn0, hn1, -⟩ := F_X hF
  have hNw : va_Nw (.methodLinkNest (M_y μ).cls 95 (M_y μ2) "LatePrices") s := by rw [hcl, hy2]; exact hn1
  have hrun := va_runIN (S := ⟨hF.1, hF.2.1, hF.2.2.1, F_o hF, F_w hF⟩) (b := g.2.2.1 + a) (As := (As.map (cv g))) (rest := st.map (cv g)) (g := F0 m pc ls ((As.reverse ++ .ref a :: st).map (cv g))) (locs := locs) (below := below) (meth := meth) (e := e) (R := M_R μ) (cells := c.1) (slots := c.2) (H := H) hM
    (⟨va_cnB (M_n μ2) (F_w hF) (g_goodIn ok.2.1) (by rw [hret]) rfl rfl hNw (F_w hF _ ok.2.2.1) ok.2.2.2 hr.1, by rw [hy2], F_w hF _ hin⟩)
    ⟨aPre_blind, aPre_of hF hW hsz ((.ref a :: As).map (cv g))⟩ rfl (by rw [List.length_map]; exact hn) hL.1 (by simp [cv]) (stW_spec (aX_cat (F_X hF)) hst) hdg hr.2
  refine va_callv (hrun.mono (fun s0 oc t e1 hq => rQ_0 hk e1 hq)) hW.2.1 (fun q _ z => z) (fun q z => z) (fun u t H1 locs1 q1 q2 q3 q4 q5 q6 q7 => ?_)
  subst q1
  exact q3.1 g p e s m args below meth cd t.heap locs1 ls hF ⟨q4, q7, by have := q3.2; have := hW.2.2; show s.heap.size + (c.1 + (M_R μ2).cells) = _; omega⟩ hL
theorem V_ldcS {j : UInt32} {idx : Nat} (hd : Dc (M_c μ) pc (.ldc idx) 2 npc) (hcl : (M_y μ).cls = "LatePrices$Reader") (hj : j.toNat < 9) (hi : sIdx.getD j.toNat 0 = idx) (k : V E μ K npc L (.float j :: st) h c) : V E μ K pc L st h c := by
  obtain ⟨hdg, rfl⟩ := hd
  intro g p e s m args below meth cd H locs ls hF hW hL
  obtain ⟨⟨adK, adV, h1, h2, h3⟩, -⟩ := F_X hF
  have h4 := h3 _ hj
  rw [hi] at h4
  refine va_ldcS hF.1 hF.2.1 (by rw [← hcl]; exact F_o hF) h4 hdg ?_
  have h5 := k g p e s m args below meth cd H locs ls hF hW hL
  rw [List.map_cons, show cv g (.float j) = .ref (adK j.toNat) from (h1 _ hj).1] at h5
  exact h5
theorem sp16 {j : UInt32} (hj : j.toNat < 9) : (j + 16).toNat = 16 + j.toNat := by
  rw [UInt32.toNat_add]
  show (j.toNat + 16) % 2 ^ 32 = _
  omega
theorem V_getSv {j : UInt32} {idx : Nat} (hd : Dc (M_c μ) pc (.getfield idx) 3 npc) (hf : Cond.fieldLink (M_y μ).cls idx "java/lang/String" "value" "[B" ∈ gtb) (hj : j.toNat < 9) (k : V E μ K npc L (.float (j + 16) :: st) h c) : V E μ K pc L (.float j :: st) h c := by
  obtain ⟨hdg, rfl⟩ := hd
  intro g p e s m args below meth cd H locs ls hF hW hL
  obtain ⟨⟨adK, adV, h1, h2, h3⟩, -⟩ := F_X hF
  have h5 := k g p e s m args below meth cd H locs ls hF hW hL
  rw [List.map_cons, show cv g (.float (j + 16)) = .ref (adV j.toNat) from by rw [← (h1 _ hj).2, ← sp16 hj]; rfl] at h5
  rw [List.map_cons, show cv g (.float j) = .ref (adK j.toNat) from (h1 _ hj).1]
  exact vk_getf hF.1 hF.2.1 (h2.1 _ hj).2.2.1 hW.2.1 (F_o hF) (F_w hF _ hf) (fun _ z => z) hdg h5
theorem V_getSc {j : UInt32} {idx : Nat} (hd : Dc (M_c μ) pc (.getfield idx) 3 npc) (hf : Cond.fieldLink (M_y μ).cls idx "java/lang/String" "coder" "B" ∈ gtb) (hj : j.toNat < 9) (k : V E μ K npc L (.int 0 :: st) h c) : V E μ K pc L (.float j :: st) h c := by
  obtain ⟨hdg, rfl⟩ := hd
  intro g p e s m args below meth cd H locs ls hF hW hL
  obtain ⟨⟨adK, adV, h1, h2, h3⟩, -⟩ := F_X hF
  have h5 := k g p e s m args below meth cd H locs ls hF hW hL
  rw [List.map_cons, show cv g (.float j) = .ref (adK j.toNat) from (h1 _ hj).1]
  exact vk_getf hF.1 hF.2.1 (h2.1 _ hj).2.1 hW.2.1 (F_o hF) (F_w hF _ hf) (fun _ z => z) hdg h5
theorem V_lenS {j : UInt32} {v : Int32} (hd : Dc (M_c μ) pc .arraylength 1 npc) (hj : j.toNat < 9) (hv : Int32.ofNat (sLen.getD j.toNat 0) = v) (k : V E μ K npc L (.int v :: st) h c) : V E μ K pc L (.float (j + 16) :: st) h c := by
  obtain ⟨hdg, rfl⟩ := hd
  intro g p e s m args below meth cd H locs ls hF hW hL
  obtain ⟨⟨adK, adV, h1, h2, h3⟩, -⟩ := F_X hF
  have h5 := k g p e s m args below meth cd H locs ls hF hW hL
  rw [List.map_cons, show cv g (.float (j + 16)) = .ref (adV j.toNat) from by rw [← (h1 _ hj).2, ← sp16 hj]; rfl]
  exact va_tlen hF.1 hF.2.1 (h2.1 _ hj).2.2.2 hW.2.1 hv hdg h5
theorem V_baldS {j : UInt32} {i v : Int32} (hd : Dc (M_c μ) pc .baload 1 npc) (hj : j.toNat < 9) (hi : vp_in i (sLen.getD j.toNat 0)) (hv : (sByt.getD j.toNat []).getD i.toNatClampNeg 0 = v) (k : V E μ K npc L (.int v :: st) h c) : V E μ K pc L (.int i :: .float (j + 16) :: st) h c := by
  obtain ⟨hdg, rfl⟩ := hd
  intro g p e s m args below meth cd H locs ls hF hW hL
  obtain ⟨⟨adK, adV, h1, h2, h3⟩, -⟩ := F_X hF
  have h5 := k g p e s m args below meth cd H locs ls hF hW hL
  rw [List.map_cons, List.map_cons, show cv g (.float (j + 16)) = .ref (adV j.toNat) from by rw [← (h1 _ hj).2, ← sp16 hj]; rfl]
  exact va_tb hF.1 hF.2.1 (h2.1 _ hj).2.2.2 hW.2.1 hi (by rw [hv]; rfl) hdg h5
theorem V_getC {idx : Nat} (hd : Dc (M_c μ) pc (.getstatic idx) 3 npc) (hf : Cond.fieldLink (M_y μ).cls idx "java/lang/String" "COMPACT_STRINGS" "Z" ∈ gtb) (k : V E μ K npc L (.int 1 :: st) h c) : V E μ K pc L st h c := by
  obtain ⟨hdg, rfl⟩ := hd
  intro g p e s m args below meth cd H locs ls hF hW hL
  obtain ⟨-, hz, -⟩ := F_X hF
  exact va_gets hF.1 hF.2.1 hz hW.2.1 (F_o hF) (F_w hF _ hf) (fun _ z => z) hdg (k g p e s m args below meth cd H locs ls hF hW hL)
theorem V_getF {idx : Nat} (hd : Dc (M_c μ) pc (.getstatic idx) 3 npc) (hf : Cond.fieldLink (M_y μ).cls idx "jdk/internal/util/Preconditions" "SIOOBE_FORMATTER" "Ljava/util/function/BiFunction;" ∈ gtb) (k : V E μ K npc L (.float 33 :: st) h c) : V E μ K pc L st h c := by
  obtain ⟨hdg, rfl⟩ := hd
  intro g p e s m args below meth cd H locs ls hF hW hL
  obtain ⟨-, -, hz, -⟩ := F_X hF
  exact va_gets hF.1 hF.2.1 hz hW.2.1 (F_o hF) (F_w hF _ hf) (fun _ z => z) hdg (k g p e s m args below meth cd H locs ls hF hW hL)
theorem V_sld {i : Int32} (hd : Dc (M_c μ) pc .iaload 1 npc) (hi : vp_in i E.2.1) (k : V E μ K npc L (.int (E.2.2 i.toNatClampNeg) :: st) h c) : V E μ K pc L (.int i :: .float 32 :: st) h c := by
  obtain ⟨hdg, rfl⟩ := hd
  intro g p e s m args below meth cd H locs ls hF hW hL
  obtain ⟨-, -, -, ⟨b, h6, h7, h8⟩, -⟩ := F_X hF
  rw [List.map_cons, List.map_cons, show cv g (.float 32) = .ref b from h6]
  exact va_sld (A := aA g) hF.1 hF.2.1 h8 (by have := F_b hF; omega) (by show ¬ g.2.2.1 ≤ b; omega) hW.2.1 hi hdg (k g p e s m args below meth cd H locs ls hF hW hL)
theorem V_slen (hd : Dc (M_c μ) pc .arraylength 1 npc) (k : V E μ K npc L (.int (Int32.ofNat E.2.1) :: st) h c) : V E μ K pc L (.float 32 :: st) h c := by
  obtain ⟨hdg, rfl⟩ := hd
  intro g p e s m args below meth cd H locs ls hF hW hL
  obtain ⟨-, -, -, ⟨b, h6, h7, h8⟩, -⟩ := F_X hF
  rw [List.map_cons, show cv g (.float 32) = .ref b from h6]
  exact va_slen (A := aA g) hF.1 hF.2.1 h8 (by have := F_b hF; omega) (by show ¬ g.2.2.1 ≤ b; omega) hW.2.1 hdg (k g p e s m args below meth cd H locs ls hF hW hL)
theorem V_callVs {idx : Nat} {μ2 : aM} {j : UInt32} (As : List Value) (hd : Dc (M_c μ) pc (.invokevirtual idx) 3 npc) (ok : okV (M_y μ).cls idx μ2) (hcl : (M_y μ2).cls = "java/lang/String") (hj : j.toNat < 9) (hk : M_k μ2 = 1) (hr : rmok (M_R μ) μ2 c = true) (hn : As.length = M_n μ2) (hst : stW st = true) (k : Call E μ2 (.float j :: As) h (fun r h2 => V E μ K npc L (r :: st) h2 (c.1 + (M_R μ2).cells, c.2 + (M_R μ2).slots))) : V E μ K pc L (As.reverse ++ .float j :: st) h c := by
  obtain ⟨hdg, rfl⟩ := hd
  have hr := rmok_spec hr
  intro g p e s m args below meth cd H locs ls hF hW hL
  refine W_size (fun hz => ?_)
  have hsz := aW_size hW hz (F_b hF)
  have hM := k g
  obtain ⟨⟨adK, adV, h1, h2, h3⟩, -⟩ := F_X hF
  have hcj : cv g (.float j) = .ref (adK j.toNat) := (h1 _ hj).1
  have hrun := va_runV (S := ⟨hF.1, hF.2.1, hF.2.2.1, F_o hF, F_w hF⟩) (b := adK j.toNat) (C := (M_y μ2).cls) (As := (As.map (cv g))) (rest := st.map (cv g)) (g := F0 m pc ls ((As.reverse ++ .float j :: st).map (cv g))) (locs := locs) (below := below) (meth := meth) (e := e) (R := M_R μ) (cells := c.1) (slots := c.2) (H := H) hM
    (⟨callB_of (M_n μ2) (F_w hF) (g_goodIn ok.1.2.1) rfl rfl rfl (F_w hF _ ok.1.2.2.1) (F_w hF _ ok.2.1) ok.1.2.2.2 hr.1, F_w hF _ ok.2.2.1, F_w hF _ ok.2.2.2⟩)
    ⟨aPre_blind, by rw [hcl]; exact vk_recv h2 hj hW.2.1, by
      have := aPre_of hF hW hsz ((.float j :: As).map (cv g))
      rw [List.map_cons, hcj] at this ⊢
      exact this⟩ rfl (by rw [List.length_map]; exact hn) hL.1 (by simp [hcj]) (stW_spec (aX_cat (F_X hF)) hst) hdg hr.2
  refine va_calli (hrun.mono (fun s0 oc t e1 hq => rQ_1 hk e1 hq)) hW.2.1 (fun q _ z => z) (fun q z => z) (fun r u t H1 locs1 q1 q2 q3 q4 q5 q6 q7 => ?_)
  subst q1
  exact q3.1 g p e s m args below meth cd t.heap locs1 ls hF ⟨q4, q7, by have := q3.2; have := hW.2.2; show s.heap.size + (c.1 + (M_R μ2).cells) = _; omega⟩ hL
theorem V_popS {j : UInt32} (hd : Dc (M_c μ) pc .pop 1 npc) (k : V E μ K npc L st h c) : V E μ K pc L (.int j.toInt32 :: st) h c := V_popI hd k
theorem V_tabOut {dflt lo hi : Int} {offs : Array Int} {len : Nat} {x : Int32} (hd : decode (M_c μ) pc = .ok (.tableswitch dflt lo hi offs, len)) (ht : (pc : Int) + dflt = (tgt : Int)) (hx : x.toInt < lo ∨ hi < x.toInt) (k : V E μ K tgt L st h c) : V E μ K pc L (.int x :: st) h c := by
  intro g p e s m args below meth cd H locs ls hF hW hL
  exact lv_tableOut hF.1 hF.2.1 hd hx ht (k g p e s m args below meth cd H locs ls hF hW hL)
theorem V_tabIn {dflt lo hi off : Int} {offs : Array Int} {len : Nat} {x : Int32} (hd : decode (M_c μ) pc = .ok (.tableswitch dflt lo hi offs, len)) (h1 : ¬ x.toInt < lo) (h2 : ¬ hi < x.toInt) (ho : offs[(x.toInt - lo).toNat]? = some off) (ht : (pc : Int) + off = (tgt : Int)) (k : V E μ K tgt L st h c) : V E μ K pc L (.int x :: st) h c := by
  intro g p e s m args below meth cd H locs ls hF hW hL
  exact lv_tableIn hF.1 hF.2.1 hd h1 h2 ho ht (k g p e s m args below meth cd H locs ls hF hW hL)
theorem V_look {dflt off : Int} {ps : Array (Int × Int)} {len : Nat} {x : Int32} (hd : decode (M_c μ) pc = .ok (.lookupswitch dflt ps, len)) (hp : (ps.toList.zip (ps.toList.drop 1)).all (fun (a, next) => a.1 < next.1) = true) (ho : Op.lookupswitch.offset ps.toList dflt x.toInt = off) (ht : (pc : Int) + off = (tgt : Int)) (k : V E μ K tgt L st h c) : V E μ K pc L (.int x :: st) h c := by
  intro g p e s m args below meth cd H locs ls hF hW hL
  exact lv_lookup hF.1 hF.2.1 hd hp ho ht (k g p e s m args below meth cd H locs ls hF hW hL)
end VR
