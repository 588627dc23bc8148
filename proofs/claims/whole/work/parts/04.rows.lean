def sIdx : List Nat := [69, 78, 83, 88, 93, 142, 147, 149, 98]
def sTxt : List String := ["place", "way", "shut", "moves", "first", "sent", "near", "number", "most"]
def sLen : List Nat := [5, 3, 4, 5, 5, 4, 4, 6, 4]
def sByt : List (List Int32) := [[112, 108, 97, 99, 101], [119, 97, 121], [115, 104, 117, 116], [109, 111, 118, 101, 115], [102, 105, 114, 115, 116], [115, 101, 110, 116], [110, 101, 97, 114], [110, 117, 109, 98, 101, 114], [109, 111, 115, 116]]
def wNest0 : Cond := .methodLinkNest "LatePrices" 9 ⟨"LatePrices$Tape", "<init>", "()V"⟩ "LatePrices"
def wNest1 : Cond := .methodLinkNest "LatePrices" 95 ⟨"LatePrices$Sheet", "<init>", "()V"⟩ "LatePrices"
/-- what lies below the first address: the nine texts, two statics, the script; words that a call hands on in another way -/
def aX (E : aE) (g : aG) (U : State) : Prop :=
  (∃ adK adV : Nat → Nat, (∀ j, j < 9 → g.2.2.2 j = .ref (adK j) ∧ g.2.2.2 (16 + j) = .ref (adV j)) ∧ vk_S 9 sLen sByt adK adV (aA g) U U.heap ∧ ∀ j, j < 9 → vk_R "LatePrices$Reader" (sIdx.getD j 0) (sTxt.getD j "") (adK j) U)
  ∧ va_Z "java/lang/String" "COMPACT_STRINGS" "Z" (.int 1) (aA g) U U.heap
  ∧ va_Z "jdk/internal/util/Preconditions" "SIOOBE_FORMATTER" "Ljava/util/function/BiFunction;" (g.2.2.2 33) (aA g) U U.heap
  ∧ (∃ b : Nat, g.2.2.2 32 = .ref b ∧ b < g.2.2.1 ∧ va_X b E.2.1 E.2.2 U U.heap)
  ∧ va_AO "LatePrices$Ledger" U ∧ va_AO "LatePrices$Sheet" U ∧ va_Nw wNest0 U ∧ va_Nw wNest1 U ∧ ∀ j, (g.2.2.2 j).category = 1
theorem aX_moved {E : aE} {g : aG} {s U : State} {H : Heap} {locs : List Loc} (h : aX E g s) (hb : g.2.2.1 ≤ s.heap.size) (hS : va_S (aA g) s.heap H locs) (hW : s.WarmedH U.vm) (hU : U.heap = H) : aX E g U := by
  subst hU
  obtain ⟨⟨adK, adV, h1, h2, h3⟩, h4, h5, ⟨b, h6, h7, h8⟩, h9, h10, h11, h12, h13⟩ := h
  have hk : ∀ a : Nat, a < s.heap.size → ¬ aA g a → U.heap[a]? = s.heap[a]? := fun a q1 q2 => hS.2.1 a q1 q2
  refine ⟨⟨adK, adV, h1, (h2.kept hk).moved hW.alike, fun j hj => (h3 j hj).warm hW⟩, (h4.kept hk).moved hW.alike, (h5.kept hk).moved hW.alike, ⟨b, h6, h7, (h8.kept (hk b (by omega) (by show ¬ g.2.2.1 ≤ b; omega))).moved hW.alike⟩, h9.moved hW.alike, h10.moved hW.alike, va_Nw.warmM hW h11, va_Nw.warmM hW h12, h13⟩
theorem aX_calling {E : aE} {g : aG} {U : State} {f : JFrame} {mk : MethodId} {a : Array Value} (h : aX E g U) : aX E g (U.calling f mk a) := by
  obtain ⟨⟨adK, adV, h1, h2, h3⟩, h4, h5, ⟨b, h6, h7, h8⟩, h9, h10, h11, h12, h13⟩ := h
  have e : U.vm.Alike (U.calling f mk a).vm := Vm.Alike.refl U.vm
  refine ⟨⟨adK, adV, h1, h2.moved e, fun j hj => (h3 j hj).same rfl⟩, h4.moved e, h5.moved e, ⟨b, h6, h7, h8.moved e⟩, h9.moved e, h10.moved e, va_Nw.same rfl rfl h11, va_Nw.same rfl rfl h12, h13⟩
def aF (E : aE) (g : aG) (μ : aM) (p : Program) (s : State) (m : MethodId) (args : Array Value) (meth : Method) (c : Code) : Prop :=
  p.tables.exec = Jvm.exec ∧ c.code = M_c μ ∧ c.maxLocals = M_L μ ∧ meth.sig.returnType = M_r μ ∧ meth.locks = false ∧ meth.name = (M_y μ).name ∧ s.vm.findClass (M_y μ).cls = some m.cls ∧ (∀ w ∈ gtb, w.before args s = true) ∧ va_K g.1 CLS (aT g) s ∧ g.2.2.1 ≤ s.heap.size ∧ aX E g s
def aW (g : aG) (h : aH) (H : Heap) (s : State) (locs : List Loc) (c : Nat × Nat) : Prop := va_P g.1 CLS (cw g h) H ∧ va_S (aA g) s.heap H locs ∧ s.heap.size + c.1 = g.2.2.1 + h.1.length
def isJ (v : Value) : Bool := match v with
  | .retAddr _ => true
  | .double _ => true
  | _ => false
def aL (g : aG) (L : List Value) (ls : Array Slot) (nL : Nat) : Prop := ls.size = nL ∧ lv_wf ls ∧ ∀ (i : Nat) (v : Value), L[i]? = some v → isJ v = false → ls[i]? = some (.val (cv g v))
def aLl (g : aG) (L : List Value) : List (Nat × Value) := (List.range L.length).filterMap (fun i => (L[i]?).bind (fun v => if isJ v then none else some (i, cv g v)))
theorem aLl_mem {g : aG} {L : List Value} {q : Nat × Value} : q ∈ aLl g L ↔ ∃ v, L[q.1]? = some v ∧ isJ v = false ∧ q.2 = cv g v := by
  unfold aLl
  rw [List.mem_filterMap]
  constructor
  · rintro ⟨i, hi, h⟩
    cases hv : L[i]? with
    | none => rw [hv] at h; cases h
    | some v =>
      rw [hv] at h
      simp only [Option.bind_some] at h
      split at h
      · cases h
      · rename_i hj
        cases h
        exact ⟨v, hv, by simpa using hj, rfl⟩
  · rintro ⟨v, h1, h2, h3⟩
    refine ⟨q.1, List.mem_range.mpr (List.getElem?_eq_some_iff.mp h1).1, ?_⟩
    rw [h1]
    simp only [Option.bind_some, h2]
    rw [← h3]
    rfl
theorem aL_has {g : aG} {L : List Value} {ls : Array Slot} {nL : Nat} (h : aL g L ls nL) : lv_has ls nL (aLl g L) := by
  refine ⟨h.1, h.2.1, fun q hq => ?_⟩
  obtain ⟨v, h1, h2, h3⟩ := aLl_mem.mp hq
  rw [h3]
  exact h.2.2 q.1 v h1 h2
theorem aL_idx {g : aG} {L : List Value} {i : Nat} {v : Value} (hl : L[i]? = some v) (hj : isJ v = false) : ∃ q : Nat, (aLl g L)[q]? = some (i, cv g v) := by
  have : (i, cv g v) ∈ aLl g L := aLl_mem.mpr ⟨v, hl, hj, rfl⟩
  exact List.getElem?_of_mem this
/-- a long ahead of a place that is written is gone -/
def kl (L : List Value) (i : Nat) : List Value := match i with
  | 0 => L
  | j + 1 => match L[j]? with
    | some (.long _) => L.set j (.retAddr 0)
    | _ => L
def aset1 (L : List Value) (i : Nat) (v : Value) : List Value := (kl L i).set i v
def aset2 (L : List Value) (i : Nat) (v : Value) : List Value := ((kl L i).set i v).set (i + 1) (.retAddr 0)
theorem kl_at {L : List Value} {i j : Nat} {v : Value} (h : (kl L i)[j]? = some v) (hv : isJ v = false) : L[j]? = some v ∧ ¬ (j + 1 = i ∧ ∃ x, v = .long x) := by
  unfold kl at h
  split at h
  · exact ⟨h, by omega⟩
  · rename_i k
    split at h
    · rename_i x hx
      rw [List.getElem?_set] at h
      split at h
      · rename_i e
        subst e
        split at h
        · cases h; cases hv
        · cases h
      · rename_i e
        exact ⟨h, fun q => e (by omega)⟩
    · rename_i hn
      refine ⟨h, fun q => ?_⟩
      obtain ⟨q1, x, rfl⟩ := q
      have : j = k := by omega
      subst this
      exact hn x h
theorem F_w {E : aE} {g : aG} {μ : aM} {p : Program} {s : State} {m : MethodId} {args : Array Value} {meth : Method} {c : Code} (h : aF E g μ p s m args meth c) : ∀ w ∈ gtb, w.before args s = true := h.2.2.2.2.2.2.2.1
theorem F_o {E : aE} {g : aG} {μ : aM} {p : Program} {s : State} {m : MethodId} {args : Array Value} {meth : Method} {c : Code} (h : aF E g μ p s m args meth c) : s.vm.findClass (M_y μ).cls = some m.cls := h.2.2.2.2.2.2.1
theorem F_k {E : aE} {g : aG} {μ : aM} {p : Program} {s : State} {m : MethodId} {args : Array Value} {meth : Method} {c : Code} (h : aF E g μ p s m args meth c) : va_K g.1 CLS (aT g) s := h.2.2.2.2.2.2.2.2.1
theorem F_b {E : aE} {g : aG} {μ : aM} {p : Program} {s : State} {m : MethodId} {args : Array Value} {meth : Method} {c : Code} (h : aF E g μ p s m args meth c) : g.2.2.1 ≤ s.heap.size := h.2.2.2.2.2.2.2.2.2.1
theorem F_X {E : aE} {g : aG} {μ : aM} {p : Program} {s : State} {m : MethodId} {args : Array Value} {meth : Method} {c : Code} (h : aF E g μ p s m args meth c) : aX E g s := h.2.2.2.2.2.2.2.2.2.2
theorem aX_cat {E : aE} {g : aG} {U : State} (h : aX E g U) : ∀ j, (g.2.2.2 j).category = 1 := h.2.2.2.2.2.2.2.2
theorem cv_cat {g : aG} (hc : ∀ j, (g.2.2.2 j).category = 1) (v : Value) : (cv g v).category = v.category := by
  cases v <;> first | rfl | exact hc _
theorem aL_set1 {g : aG} {L : List Value} {ls' : Array Slot} {nL i : Nat} {v : Value} (hc : ∀ j, (g.2.2.2 j).category = 1) (h : lv_has ls' nL ((i, cv g v) :: (aLl g L).filter (fun q => !(q.1 == i) && !(q.1 + 1 == i && q.2.category == 2)))) : aL g (aset1 L i v) ls' nL := by
  refine ⟨h.1, h.2.1, fun j w hw hj => ?_⟩
  refine h.2.2 (j, cv g w) ?_
  unfold aset1 at hw
  rw [List.getElem?_set] at hw
  by_cases e : i = j
  · subst e
    rw [if_pos rfl] at hw
    split at hw
    · cases hw; exact List.mem_cons_self
    · cases hw
  · rw [if_neg e] at hw
    obtain ⟨h1, h2⟩ := kl_at hw hj
    refine List.mem_cons_of_mem _ (List.mem_filter.mpr ⟨aLl_mem.mpr ⟨w, h1, hj, rfl⟩, ?_⟩)
    have e2 : ¬ j = i := fun q => e q.symm
    by_cases e3 : j + 1 = i
    · have : ¬ (cv g w).category = 2 := by
        rw [cv_cat hc]
        intro q
        cases w <;> simp [Value.category] at q
        · exact h2 ⟨e3, _, rfl⟩
        · cases hj
      simp [e2, this]
    · simp [e2, e3]
theorem aL_set2 {g : aG} {L : List Value} {ls' : Array Slot} {nL i : Nat} {v : Value} (hc : ∀ j, (g.2.2.2 j).category = 1) (h : lv_has ls' nL ((i, cv g v) :: (aLl g L).filter (fun q => !(q.1 == i) && (!(q.1 == i + 1) && !(q.1 + 1 == i && q.2.category == 2))))) : aL g (aset2 L i v) ls' nL := by
  refine ⟨h.1, h.2.1, fun j w hw hj => ?_⟩
  refine h.2.2 (j, cv g w) ?_
  unfold aset2 at hw
  rw [List.getElem?_set] at hw
  by_cases e0 : i + 1 = j
  · subst e0
    rw [if_pos rfl] at hw
    split at hw
    · cases hw; cases hj
    · cases hw
  rw [if_neg e0, List.getElem?_set] at hw
  by_cases e : i = j
  · subst e
    rw [if_pos rfl] at hw
    split at hw
    · cases hw; exact List.mem_cons_self
    · cases hw
  · rw [if_neg e] at hw
    obtain ⟨h1, h2⟩ := kl_at hw hj
    refine List.mem_cons_of_mem _ (List.mem_filter.mpr ⟨aLl_mem.mpr ⟨w, h1, hj, rfl⟩, ?_⟩)
    have e2 : ¬ j = i := fun q => e q.symm
    have e4 : ¬ j = i + 1 := fun q => e0 q.symm
    by_cases e3 : j + 1 = i
    · have : ¬ (cv g w).category = 2 := by
        rw [cv_cat hc]
        intro q
        cases w <;> simp [Value.category] at q
        · exact h2 ⟨e3, _, rfl⟩
        · cases hj
      simp [e2, e4, this]
    · simp [e2, e3, e4]
def aSp (j : UInt32) : Prop := j.toNat < 9 ∨ (16 ≤ j.toNat ∧ j.toNat < 25) ∨ j.toNat = 32
theorem aSp_ref {E : aE} {g : aG} {s : State} {j : UInt32} (h : aX E g s) (hj : aSp j) : ∃ b, g.2.2.2 j.toNat = .ref b := by
  obtain ⟨⟨adK, adV, h1, -⟩, -, -, ⟨b, h6, -⟩, -⟩ := h
  rcases hj with hj | ⟨ha, hb⟩ | hj
  · exact ⟨_, (h1 _ hj).1⟩
  · have := (h1 (j.toNat - 16) (by omega)).2
    rw [show 16 + (j.toNat - 16) = j.toNat by omega] at this
    exact ⟨_, this⟩
  · rw [hj]; exact ⟨b, h6⟩
def aB (g : aG) (h : aH) (t : State) : Prop := va_P g.1 CLS (cw g h) t.heap
/-- how many cells a method has made: it and the heap agree -/
def aZ (μ : aM) (g : aG) (st : State) (u : aH) : Prop := st.heap.size + (M_R μ).cells = g.2.2.1 + u.1.length
def rQ (μ : aM) (K : Value → aH → Prop) (g : aG) : Array Value → State → Outcome → State → Prop := fun a st oc t => match M_k μ with
  | 0 => va_Qv (fun u => K .null u ∧ aZ μ g st u) (aB g) (aA g) a st oc t
  | 1 => va_Qi (fun r u => K (.int r) u ∧ aZ μ g st u) (aB g) (aA g) a st oc t
  | _ => va_Ql (fun r u => K (.long r) u ∧ aZ μ g st u) (aB g) (aA g) a st oc t
/-- THE JUDGEMENT: from here the method returns, and answer and heap are as K says -/
def V (E : aE) (μ : aM) (K : Value → aH → Prop) (pc : Nat) (L st : List Value) (h : aH) (c : Nat × Nat) : Prop :=
  ∀ (g : aG) (p : Program) (e : Env) (s : State) (m : MethodId) (args : Array Value) (below : List Frame) (meth : Method) (cd : Code) (H : Heap) (locs : List Loc) (ls : Array Slot),
    aF E g μ p s m args meth cd → aW g h H s locs c → aL g L ls (M_L μ) →
    W p E.1 e (M_R μ) s m args below meth cd H locs c.1 c.2 (MQ below (rQ μ K g) args s (M_R μ).cells (M_R μ).slots (aA g)) (F0 m pc ls (st.map (cv g)))
def Dc (cc : ByteArray) (pc : Nat) (i : Instr) (n npc : Nat) : Prop := decode cc pc = .ok (i, n) ∧ pc + n = npc
def Dj (cc : ByteArray) (pc : Nat) (i : Instr) (n npc : Nat) (off : Int) (tgt : Nat) : Prop := decode cc pc = .ok (i, n) ∧ pc + n = npc ∧ (pc : Int) + off = (tgt : Int)

section VR
variable {E : aE} {μ : aM} {K : Value → aH → Prop} {pc npc tgt : Nat} {L : List Value} {st : List Value} {h : aH} {c : Nat × Nat}
theorem V_iload {i : Nat} {x : Int32} (hd : Dc (M_c μ) pc (.iload i) 2 npc) (hl : L[i]? = some (.int x)) (k : V E μ K npc L (.int x :: st) h c) : V E μ K pc L (st) h c := by
  obtain ⟨hdg, rfl⟩ := hd
  intro g p e s m args below meth cd H locs ls hF hW hL
  exact lv_iload hF.1 hF.2.1 hdg (hL.2.2 i _ hl rfl) (k g p e s m args below meth cd H locs ls hF hW hL)
theorem V_iload_n {i : Fin 4} {x : Int32} (hd : Dc (M_c μ) pc (.iload_n i) 1 npc) (hl : L[i.1]? = some (.int x)) (k : V E μ K npc L (.int x :: st) h c) : V E μ K pc L (st) h c := by
  obtain ⟨hdg, rfl⟩ := hd
  intro g p e s m args below meth cd H locs ls hF hW hL
  exact lv_iload_n hF.1 hF.2.1 hdg rfl (hL.2.2 i.1 _ hl rfl) (k g p e s m args below meth cd H locs ls hF hW hL)
theorem V_aload {i : Nat} {x : Nat} (hd : Dc (M_c μ) pc (.aload i) 2 npc) (hl : L[i]? = some (.ref x)) (k : V E μ K npc L (.ref x :: st) h c) : V E μ K pc L (st) h c := by
  obtain ⟨hdg, rfl⟩ := hd
  intro g p e s m args below meth cd H locs ls hF hW hL
  exact lv_aload hF.1 hF.2.1 hdg (hL.2.2 i _ hl rfl) (k g p e s m args below meth cd H locs ls hF hW hL)
theorem V_aload_n {i : Fin 4} {x : Nat} (hd : Dc (M_c μ) pc (.aload_n i) 1 npc) (hl : L[i.1]? = some (.ref x)) (k : V E μ K npc L (.ref x :: st) h c) : V E μ K pc L (st) h c := by
  obtain ⟨hdg, rfl⟩ := hd
  intro g p e s m args below meth cd H locs ls hF hW hL
  exact lv_aload_n hF.1 hF.2.1 hdg rfl (hL.2.2 i.1 _ hl rfl) (k g p e s m args below meth cd H locs ls hF hW hL)
theorem V_lload {i : Nat} {x : Int64} (hd : Dc (M_c μ) pc (.lload i) 2 npc) (hl : L[i]? = some (.long x)) (k : V E μ K npc L (.long x :: st) h c) : V E μ K pc L (st) h c := by
  obtain ⟨hdg, rfl⟩ := hd
  intro g p e s m args below meth cd H locs ls hF hW hL
  exact lv_lload hF.1 hF.2.1 hdg (hL.2.2 i _ hl rfl) (k g p e s m args below meth cd H locs ls hF hW hL)
theorem V_lload_n {i : Fin 4} {x : Int64} (hd : Dc (M_c μ) pc (.lload_n i) 1 npc) (hl : L[i.1]? = some (.long x)) (k : V E μ K npc L (.long x :: st) h c) : V E μ K pc L (st) h c := by
  obtain ⟨hdg, rfl⟩ := hd
  intro g p e s m args below meth cd H locs ls hF hW hL
  exact lv_lload_n hF.1 hF.2.1 hdg rfl (hL.2.2 i.1 _ hl rfl) (k g p e s m args below meth cd H locs ls hF hW hL)
theorem V_aloadS_n {i : Fin 4} {j : UInt32} (hd : Dc (M_c μ) pc (.aload_n i) 1 npc) (hj : aSp j) (hl : L[i.1]? = some (.float j)) (k : V E μ K npc L (.float j :: st) h c) : V E μ K pc L st h c := by
  obtain ⟨hdg, rfl⟩ := hd
  intro g p e s m args below meth cd H locs ls hF hW hL
  obtain ⟨b, hb⟩ := aSp_ref (F_X hF) hj
  have h1 := hL.2.2 i.1 _ hl rfl
  rw [show cv g (.float j) = .ref b from hb] at h1
  refine lv_aload_n hF.1 hF.2.1 hdg rfl h1 ?_
  have h2 := k g p e s m args below meth cd H locs ls hF hW hL
  rw [List.map_cons, show cv g (.float j) = .ref b from hb] at h2
  exact h2
theorem V_istore {i : Nat} {x : Int32} (hd : Dc (M_c μ) pc (.istore i) 2 npc) (hn : i < M_L μ) (k : V E μ K npc (aset1 L i (.int x)) st h c) : V E μ K pc L (.int x :: st) h c := by
  obtain ⟨hdg, rfl⟩ := hd
  intro g p e s m args below meth cd H locs ls hF hW hL
  exact lv_istore hF.1 hF.2.1 hdg (aL_has hL) hn rfl (fun ls' hl' => k g p e s m args below meth cd H locs ls' hF hW (aL_set1 (aX_cat (F_X hF)) hl'))
theorem V_istore_n {i : Fin 4} {x : Int32} (hd : Dc (M_c μ) pc (.istore_n i) 1 npc) (hn : i.1 < M_L μ) (k : V E μ K npc (aset1 L i.1 (.int x)) st h c) : V E μ K pc L (.int x :: st) h c := by
  obtain ⟨hdg, rfl⟩ := hd
  intro g p e s m args below meth cd H locs ls hF hW hL
  exact lv_istore_n hF.1 hF.2.1 hdg rfl (aL_has hL) hn rfl (fun ls' hl' => k g p e s m args below meth cd H locs ls' hF hW (aL_set1 (aX_cat (F_X hF)) hl'))
theorem V_astore {i : Nat} {x : Nat} (hd : Dc (M_c μ) pc (.astore i) 2 npc) (hn : i < M_L μ) (k : V E μ K npc (aset1 L i (.ref x)) st h c) : V E μ K pc L (.ref x :: st) h c := by
  obtain ⟨hdg, rfl⟩ := hd
  intro g p e s m args below meth cd H locs ls hF hW hL
  exact lv_astore hF.1 hF.2.1 hdg (aL_has hL) hn rfl (fun ls' hl' => k g p e s m args below meth cd H locs ls' hF hW (aL_set1 (aX_cat (F_X hF)) hl'))
theorem V_astore_n {i : Fin 4} {x : Nat} (hd : Dc (M_c μ) pc (.astore_n i) 1 npc) (hn : i.1 < M_L μ) (k : V E μ K npc (aset1 L i.1 (.ref x)) st h c) : V E μ K pc L (.ref x :: st) h c := by
  obtain ⟨hdg, rfl⟩ := hd
  intro g p e s m args below meth cd H locs ls hF hW hL
  exact lv_astore_n hF.1 hF.2.1 hdg rfl (aL_has hL) hn rfl (fun ls' hl' => k g p e s m args below meth cd H locs ls' hF hW (aL_set1 (aX_cat (F_X hF)) hl'))
theorem V_lstore {i : Nat} {x : Int64} (hd : Dc (M_c μ) pc (.lstore i) 2 npc) (hn : i + 1 < M_L μ) (k : V E μ K npc (aset2 L i (.long x)) st h c) : V E μ K pc L (.long x :: st) h c := by
  obtain ⟨hdg, rfl⟩ := hd
  intro g p e s m args below meth cd H locs ls hF hW hL
  exact lv_lstore hF.1 hF.2.1 hdg (aL_has hL) hn rfl (fun ls' hl' => k g p e s m args below meth cd H locs ls' hF hW (aL_set2 (aX_cat (F_X hF)) hl'))
theorem V_lstore_n {i : Fin 4} {x : Int64} (hd : Dc (M_c μ) pc (.lstore_n i) 1 npc) (hn : i.1 + 1 < M_L μ) (k : V E μ K npc (aset2 L i.1 (.long x)) st h c) : V E μ K pc L (.long x :: st) h c := by
  obtain ⟨hdg, rfl⟩ := hd
  intro g p e s m args below meth cd H locs ls hF hW hL
  exact lv_lstore_n hF.1 hF.2.1 hdg rfl (aL_has hL) hn rfl (fun ls' hl' => k g p e s m args below meth cd H locs ls' hF hW (aL_set2 (aX_cat (F_X hF)) hl'))
theorem V_iinc {i : Nat} {z : Int} {x v : Int32} (hd : Dc (M_c μ) pc (.iinc i z) 3 npc) (hn : i < M_L μ) (hl : L[i]? = some (.int x)) (hv : x + Int32.ofInt z = v) (k : V E μ K npc (aset1 L i (.int v)) st h c) : V E μ K pc L st h c := by
  obtain ⟨hdg, rfl⟩ := hd
  intro g p e s m args below meth cd H locs ls hF hW hL
  obtain ⟨q, hq⟩ := aL_idx (g := g) hl rfl
  exact lv_iinc (k := q) hF.1 hF.2.1 hdg (aL_has hL) hq hv hn rfl (fun ls' hl' => k g p e s m args below meth cd H locs ls' hF hW (aL_set1 (aX_cat (F_X hF)) hl'))
theorem V_iconst {z : Int} {v : Int32} (hd : Dc (M_c μ) pc (.iconst z) 1 npc) (hv : Int32.ofInt z = v) (k : V E μ K npc L (.int v :: st) h c) : V E μ K pc L (st) h c := by
  obtain ⟨hdg, rfl⟩ := hd
  intro g p e s m args below meth cd H locs ls hF hW hL
  exact lv_iconst hF.1 hF.2.1 hdg hv (k g p e s m args below meth cd H locs ls hF hW hL)
theorem V_lconst {z : Fin 2} {v : Int64} (hd : Dc (M_c μ) pc (.lconst z) 1 npc) (hv : Int64.ofNat (z : Nat) = v) (k : V E μ K npc L (.long v :: st) h c) : V E μ K pc L (st) h c := by
  obtain ⟨hdg, rfl⟩ := hd
  intro g p e s m args below meth cd H locs ls hF hW hL
  exact lv_lconst hF.1 hF.2.1 hdg hv (k g p e s m args below meth cd H locs ls hF hW hL)
theorem V_bipush {z : Int} {v : Int32} (hd : Dc (M_c μ) pc (.bipush z) 2 npc) (hv : (Int8.ofInt z).toInt32 = v) (k : V E μ K npc L (.int v :: st) h c) : V E μ K pc L (st) h c := by
  obtain ⟨hdg, rfl⟩ := hd
  intro g p e s m args below meth cd H locs ls hF hW hL
  exact lv_bipush hF.1 hF.2.1 hdg hv (k g p e s m args below meth cd H locs ls hF hW hL)
theorem V_sipush {z : Int} {v : Int32} (hd : Dc (M_c μ) pc (.sipush z) 3 npc) (hv : (Int16.ofInt z).toInt32 = v) (k : V E μ K npc L (.int v :: st) h c) : V E μ K pc L (st) h c := by
  obtain ⟨hdg, rfl⟩ := hd
  intro g p e s m args below meth cd H locs ls hF hW hL
  exact lv_sipush hF.1 hF.2.1 hdg hv (k g p e s m args below meth cd H locs ls hF hW hL)
theorem V_ldc {i : Nat} {v : Int32} (hd : Dc (M_c μ) pc (.ldc i) 2 npc) (hw : Cond.constant (M_y μ).cls i v ∈ gtb) (k : V E μ K npc L (.int v :: st) h c) : V E μ K pc L (st) h c := by
  obtain ⟨hdg, rfl⟩ := hd
  intro g p e s m args below meth cd H locs ls hF hW hL
  exact lv_ldc hF.1 hF.2.1 (F_o hF) (F_w hF _ hw) hdg (k g p e s m args below meth cd H locs ls hF hW hL)
theorem V_ldc_w {i : Nat} {v : Int32} (hd : Dc (M_c μ) pc (.ldc_w i) 3 npc) (hw : Cond.constant (M_y μ).cls i v ∈ gtb) (k : V E μ K npc L (.int v :: st) h c) : V E μ K pc L (st) h c := by
  obtain ⟨hdg, rfl⟩ := hd
  intro g p e s m args below meth cd H locs ls hF hW hL
  exact lv_ldcw hF.1 hF.2.1 (F_o hF) (F_w hF _ hw) hdg (k g p e s m args below meth cd H locs ls hF hW hL)
theorem V_ldc2_w {i : Nat} {v : Int64} (hd : Dc (M_c μ) pc (.ldc2_w i) 3 npc) (hw : Cond.constantLong (M_y μ).cls i v ∈ gtb) (k : V E μ K npc L (.long v :: st) h c) : V E μ K pc L (st) h c := by
  obtain ⟨hdg, rfl⟩ := hd
  intro g p e s m args below meth cd H locs ls hF hW hL
  exact lv_ldc2 hF.1 hF.2.1 (F_o hF) (F_w hF _ hw) hdg (k g p e s m args below meth cd H locs ls hF hW hL)
theorem V_dupI {x : Int32} (hd : Dc (M_c μ) pc (.dup) 1 npc) (k : V E μ K npc L (.int x :: .int x :: st) h c) : V E μ K pc L (.int x :: st) h c := by
  obtain ⟨hdg, rfl⟩ := hd
  intro g p e s m args below meth cd H locs ls hF hW hL
  exact lv_dup hF.1 hF.2.1 hdg rfl (k g p e s m args below meth cd H locs ls hF hW hL)
theorem V_dupR {x : Nat} (hd : Dc (M_c μ) pc (.dup) 1 npc) (k : V E μ K npc L (.ref x :: .ref x :: st) h c) : V E μ K pc L (.ref x :: st) h c := by
  obtain ⟨hdg, rfl⟩ := hd
  intro g p e s m args below meth cd H locs ls hF hW hL
  exact lv_dup hF.1 hF.2.1 hdg rfl (k g p e s m args below meth cd H locs ls hF hW hL)
theorem V_dup2 {x : Int32} {y : Nat} (hd : Dc (M_c μ) pc (.dup2) 1 npc) (k : V E μ K npc L (.int x :: .ref y :: .int x :: .ref y :: st) h c) : V E μ K pc L (.int x :: .ref y :: st) h c := by
  obtain ⟨hdg, rfl⟩ := hd
  intro g p e s m args below meth cd H locs ls hF hW hL
  exact lv_dup2_11 hF.1 hF.2.1 hdg rfl rfl (k g p e s m args below meth cd H locs ls hF hW hL)
theorem V_popI {x : Int32} (hd : Dc (M_c μ) pc (.pop) 1 npc) (k : V E μ K npc L (st) h c) : V E μ K pc L (.int x :: st) h c := by
  obtain ⟨hdg, rfl⟩ := hd
  intro g p e s m args below meth cd H locs ls hF hW hL
  exact lv_pop hF.1 hF.2.1 hdg rfl (k g p e s m args below meth cd H locs ls hF hW hL)
theorem V_iadd {x y : Int32} (hd : Dc (M_c μ) pc (.iadd) 1 npc) (k : V E μ K npc L (.int (x + y) :: st) h c) : V E μ K pc L (.int y :: .int x :: st) h c := by
  obtain ⟨hdg, rfl⟩ := hd
  intro g p e s m args below meth cd H locs ls hF hW hL
  exact lv_iadd hF.1 hF.2.1 hdg (k g p e s m args below meth cd H locs ls hF hW hL)
theorem V_isub {x y : Int32} (hd : Dc (M_c μ) pc (.isub) 1 npc) (k : V E μ K npc L (.int (x - y) :: st) h c) : V E μ K pc L (.int y :: .int x :: st) h c := by
  obtain ⟨hdg, rfl⟩ := hd
  intro g p e s m args below meth cd H locs ls hF hW hL
  exact lv_isub hF.1 hF.2.1 hdg (k g p e s m args below meth cd H locs ls hF hW hL)
theorem V_imul {x y : Int32} (hd : Dc (M_c μ) pc (.imul) 1 npc) (k : V E μ K npc L (.int (x * y) :: st) h c) : V E μ K pc L (.int y :: .int x :: st) h c := by
  obtain ⟨hdg, rfl⟩ := hd
  intro g p e s m args below meth cd H locs ls hF hW hL
  exact lv_imul hF.1 hF.2.1 hdg (k g p e s m args below meth cd H locs ls hF hW hL)
theorem V_iand {x y : Int32} (hd : Dc (M_c μ) pc (.iand) 1 npc) (k : V E μ K npc L (.int (x &&& y) :: st) h c) : V E μ K pc L (.int y :: .int x :: st) h c := by
  obtain ⟨hdg, rfl⟩ := hd
  intro g p e s m args below meth cd H locs ls hF hW hL
  exact lv_iand hF.1 hF.2.1 hdg (k g p e s m args below meth cd H locs ls hF hW hL)
theorem V_ior {x y : Int32} (hd : Dc (M_c μ) pc (.ior) 1 npc) (k : V E μ K npc L (.int (x ||| y) :: st) h c) : V E μ K pc L (.int y :: .int x :: st) h c := by
  obtain ⟨hdg, rfl⟩ := hd
  intro g p e s m args below meth cd H locs ls hF hW hL
  exact lv_ior hF.1 hF.2.1 hdg (k g p e s m args below meth cd H locs ls hF hW hL)
theorem V_ishl {x y : Int32} (hd : Dc (M_c μ) pc (.ishl) 1 npc) (k : V E μ K npc L (.int (x <<< (y &&& 31)) :: st) h c) : V E μ K pc L (.int y :: .int x :: st) h c := by
  obtain ⟨hdg, rfl⟩ := hd
  intro g p e s m args below meth cd H locs ls hF hW hL
  exact lv_ishl hF.1 hF.2.1 hdg (k g p e s m args below meth cd H locs ls hF hW hL)
theorem V_ishr {x y : Int32} (hd : Dc (M_c μ) pc (.ishr) 1 npc) (k : V E μ K npc L (.int (x >>> (y &&& 31)) :: st) h c) : V E μ K pc L (.int y :: .int x :: st) h c := by
  obtain ⟨hdg, rfl⟩ := hd
  intro g p e s m args below meth cd H locs ls hF hW hL
  exact lv_ishr hF.1 hF.2.1 hdg (k g p e s m args below meth cd H locs ls hF hW hL)
theorem V_idiv {x y : Int32} (hd : Dc (M_c μ) pc (.idiv) 1 npc) (hne : ¬ y = 0) (k : V E μ K npc L (.int (x / y) :: st) h c) : V E μ K pc L (.int y :: .int x :: st) h c := by
  obtain ⟨hdg, rfl⟩ := hd
  intro g p e s m args below meth cd H locs ls hF hW hL
  exact lv_idiv hF.1 hF.2.1 hdg hne (k g p e s m args below meth cd H locs ls hF hW hL)
theorem V_irem {x y : Int32} (hd : Dc (M_c μ) pc (.irem) 1 npc) (hne : ¬ y = 0) (k : V E μ K npc L (.int (x - x / y * y) :: st) h c) : V E μ K pc L (.int y :: .int x :: st) h c := by
  obtain ⟨hdg, rfl⟩ := hd
  intro g p e s m args below meth cd H locs ls hF hW hL
  exact lv_irem hF.1 hF.2.1 hdg hne (k g p e s m args below meth cd H locs ls hF hW hL)
theorem V_ladd {x y : Int64} (hd : Dc (M_c μ) pc (.ladd) 1 npc) (k : V E μ K npc L (.long (x + y) :: st) h c) : V E μ K pc L (.long y :: .long x :: st) h c := by
  obtain ⟨hdg, rfl⟩ := hd
  intro g p e s m args below meth cd H locs ls hF hW hL
  exact lv_ladd hF.1 hF.2.1 hdg (k g p e s m args below meth cd H locs ls hF hW hL)
theorem V_lsub {x y : Int64} (hd : Dc (M_c μ) pc (.lsub) 1 npc) (k : V E μ K npc L (.long (x - y) :: st) h c) : V E μ K pc L (.long y :: .long x :: st) h c := by
  obtain ⟨hdg, rfl⟩ := hd
  intro g p e s m args below meth cd H locs ls hF hW hL
  exact lv_lsub hF.1 hF.2.1 hdg (k g p e s m args below meth cd H locs ls hF hW hL)
theorem V_lmul {x y : Int64} (hd : Dc (M_c μ) pc (.lmul) 1 npc) (k : V E μ K npc L (.long (x * y) :: st) h c) : V E μ K pc L (.long y :: .long x :: st) h c := by
  obtain ⟨hdg, rfl⟩ := hd
  intro g p e s m args below meth cd H locs ls hF hW hL
  exact lv_lmul hF.1 hF.2.1 hdg (k g p e s m args below meth cd H locs ls hF hW hL)
theorem V_land {x y : Int64} (hd : Dc (M_c μ) pc (.land) 1 npc) (k : V E μ K npc L (.long (x &&& y) :: st) h c) : V E μ K pc L (.long y :: .long x :: st) h c := by
  obtain ⟨hdg, rfl⟩ := hd
  intro g p e s m args below meth cd H locs ls hF hW hL
  exact lv_land hF.1 hF.2.1 hdg (k g p e s m args below meth cd H locs ls hF hW hL)
theorem V_lor {x y : Int64} (hd : Dc (M_c μ) pc (.lor) 1 npc) (k : V E μ K npc L (.long (x ||| y) :: st) h c) : V E μ K pc L (.long y :: .long x :: st) h c := by
  obtain ⟨hdg, rfl⟩ := hd
  intro g p e s m args below meth cd H locs ls hF hW hL
  exact lv_lor hF.1 hF.2.1 hdg (k g p e s m args below meth cd H locs ls hF hW hL)
theorem V_ldiv {x y : Int64} (hd : Dc (M_c μ) pc (.ldiv) 1 npc) (hne : ¬ y = 0) (k : V E μ K npc L (.long (x / y) :: st) h c) : V E μ K pc L (.long y :: .long x :: st) h c := by
  obtain ⟨hdg, rfl⟩ := hd
  intro g p e s m args below meth cd H locs ls hF hW hL
  exact lv_ldiv hF.1 hF.2.1 hdg hne (k g p e s m args below meth cd H locs ls hF hW hL)
theorem V_lrem {x y : Int64} (hd : Dc (M_c μ) pc (.lrem) 1 npc) (hne : ¬ y = 0) (k : V E μ K npc L (.long (x - x / y * y) :: st) h c) : V E μ K pc L (.long y :: .long x :: st) h c := by
  obtain ⟨hdg, rfl⟩ := hd
  intro g p e s m args below meth cd H locs ls hF hW hL
  exact lv_lrem hF.1 hF.2.1 hdg hne (k g p e s m args below meth cd H locs ls hF hW hL)
theorem V_ineg {x : Int32} (hd : Dc (M_c μ) pc (.ineg) 1 npc) (k : V E μ K npc L (.int (-x) :: st) h c) : V E μ K pc L (.int x :: st) h c := by
  obtain ⟨hdg, rfl⟩ := hd
  intro g p e s m args below meth cd H locs ls hF hW hL
  exact lv_ineg hF.1 hF.2.1 hdg (k g p e s m args below meth cd H locs ls hF hW hL)
theorem V_lneg {x : Int64} (hd : Dc (M_c μ) pc (.lneg) 1 npc) (k : V E μ K npc L (.long (-x) :: st) h c) : V E μ K pc L (.long x :: st) h c := by
  obtain ⟨hdg, rfl⟩ := hd
  intro g p e s m args below meth cd H locs ls hF hW hL
  exact lv_lneg hF.1 hF.2.1 hdg (k g p e s m args below meth cd H locs ls hF hW hL)
theorem V_lshl {x : Int64} {y : Int32} (hd : Dc (M_c μ) pc (.lshl) 1 npc) (k : V E μ K npc L (.long (x <<< (y.toInt64 &&& 63)) :: st) h c) : V E μ K pc L (.int y :: .long x :: st) h c := by
  obtain ⟨hdg, rfl⟩ := hd
  intro g p e s m args below meth cd H locs ls hF hW hL
  exact lv_lshl hF.1 hF.2.1 hdg rfl (k g p e s m args below meth cd H locs ls hF hW hL)
theorem V_lshr {x : Int64} {y : Int32} (hd : Dc (M_c μ) pc (.lshr) 1 npc) (k : V E μ K npc L (.long (x >>> (y.toInt64 &&& 63)) :: st) h c) : V E μ K pc L (.int y :: .long x :: st) h c := by
  obtain ⟨hdg, rfl⟩ := hd
  intro g p e s m args below meth cd H locs ls hF hW hL
  exact lv_lshr hF.1 hF.2.1 hdg rfl (k g p e s m args below meth cd H locs ls hF hW hL)
theorem V_lushr {x : Int64} {y : Int32} (hd : Dc (M_c μ) pc (.lushr) 1 npc) (k : V E μ K npc L (.long ((x.toUInt64 >>> (y.toInt64.toUInt64 &&& Int64.toUInt64 63)).toInt64) :: st) h c) : V E μ K pc L (.int y :: .long x :: st) h c := by
  obtain ⟨hdg, rfl⟩ := hd
  intro g p e s m args below meth cd H locs ls hF hW hL
  exact lv_lushr hF.1 hF.2.1 hdg rfl (k g p e s m args below meth cd H locs ls hF hW hL)
theorem V_i2l {x : Int32} (hd : Dc (M_c μ) pc (.i2l) 1 npc) (k : V E μ K npc L (.long x.toInt64 :: st) h c) : V E μ K pc L (.int x :: st) h c := by
  obtain ⟨hdg, rfl⟩ := hd
  intro g p e s m args below meth cd H locs ls hF hW hL
  exact lv_i2l hF.1 hF.2.1 hdg rfl (k g p e s m args below meth cd H locs ls hF hW hL)
theorem V_l2i {x : Int64} (hd : Dc (M_c μ) pc (.l2i) 1 npc) (k : V E μ K npc L (.int x.toInt32 :: st) h c) : V E μ K pc L (.long x :: st) h c := by
  obtain ⟨hdg, rfl⟩ := hd
  intro g p e s m args below meth cd H locs ls hF hW hL
  exact lv_l2i hF.1 hF.2.1 hdg rfl (k g p e s m args below meth cd H locs ls hF hW hL)
theorem V_i2b {x : Int32} (hd : Dc (M_c μ) pc (.i2b) 1 npc) (k : V E μ K npc L (.int x.toInt8.toInt32 :: st) h c) : V E μ K pc L (.int x :: st) h c := by
  obtain ⟨hdg, rfl⟩ := hd
  intro g p e s m args below meth cd H locs ls hF hW hL
  exact lv_i2b hF.1 hF.2.1 hdg rfl (k g p e s m args below meth cd H locs ls hF hW hL)
theorem V_i2s {x : Int32} (hd : Dc (M_c μ) pc (.i2s) 1 npc) (k : V E μ K npc L (.int x.toInt16.toInt32 :: st) h c) : V E μ K pc L (.int x :: st) h c := by
  obtain ⟨hdg, rfl⟩ := hd
  intro g p e s m args below meth cd H locs ls hF hW hL
  exact lv_i2s hF.1 hF.2.1 hdg rfl (k g p e s m args below meth cd H locs ls hF hW hL)
theorem V_i2c {x : Int32} (hd : Dc (M_c μ) pc (.i2c) 1 npc) (k : V E μ K npc L (.int (x.toUInt32 % 65536).toInt32 :: st) h c) : V E μ K pc L (.int x :: st) h c := by
  obtain ⟨hdg, rfl⟩ := hd
  intro g p e s m args below meth cd H locs ls hF hW hL
  exact lv_i2c hF.1 hF.2.1 hdg rfl (k g p e s m args below meth cd H locs ls hF hW hL)
theorem V_lcmp {x y : Int64} (hd : Dc (M_c μ) pc (.lcmp) 1 npc) (k : V E μ K npc L (.int (lg_cmp x y) :: st) h c) : V E μ K pc L (.long y :: .long x :: st) h c := by
  obtain ⟨hdg, rfl⟩ := hd
  intro g p e s m args below meth cd H locs ls hF hW hL
  exact W.lcmp hF.1 hF.2.1 hdg (k g p e s m args below meth cd H locs ls hF hW hL)
theorem V_goto {off : Int} (hd : Dj (M_c μ) pc (.goto off) 3 npc off tgt) (k : V E μ K tgt L st h c) : V E μ K pc L st h c := by
  obtain ⟨hdg, rfl, ht⟩ := hd
  intro g p e s m args below meth cd H locs ls hF hW hL
  exact lv_goto hF.1 hF.2.1 hdg ht (k g p e s m args below meth cd H locs ls hF hW hL)
theorem V_if_eq {off : Int} {x : Int32} (hd : Dj (M_c μ) pc (.ifCond .eq off) 3 npc off tgt) (kt : x = 0 → V E μ K tgt L st h c) (kf : ¬ x = 0 → V E μ K npc L st h c) : V E μ K pc L (.int x :: st) h c := by
  obtain ⟨hdg, rfl, ht⟩ := hd
  intro g p e s m args below meth cd H locs ls hF hW hL
  exact lv_if_eq hF.1 hF.2.1 hdg ht (fun q => kt q g p e s m args below meth cd H locs ls hF hW hL) (fun q => kf q g p e s m args below meth cd H locs ls hF hW hL)
theorem V_if_ne {off : Int} {x : Int32} (hd : Dj (M_c μ) pc (.ifCond .ne off) 3 npc off tgt) (kt : ¬ x = 0 → V E μ K tgt L st h c) (kf : x = 0 → V E μ K npc L st h c) : V E μ K pc L (.int x :: st) h c := by
  obtain ⟨hdg, rfl, ht⟩ := hd
  intro g p e s m args below meth cd H locs ls hF hW hL
  exact lv_if_ne hF.1 hF.2.1 hdg ht (fun q => kt q g p e s m args below meth cd H locs ls hF hW hL) (fun q => kf q g p e s m args below meth cd H locs ls hF hW hL)
theorem V_if_lt {off : Int} {x : Int32} (hd : Dj (M_c μ) pc (.ifCond .lt off) 3 npc off tgt) (kt : x < 0 → V E μ K tgt L st h c) (kf : ¬ x < 0 → V E μ K npc L st h c) : V E μ K pc L (.int x :: st) h c := by
  obtain ⟨hdg, rfl, ht⟩ := hd
  intro g p e s m args below meth cd H locs ls hF hW hL
  exact lv_if_lt hF.1 hF.2.1 hdg ht (fun q => kt q g p e s m args below meth cd H locs ls hF hW hL) (fun q => kf q g p e s m args below meth cd H locs ls hF hW hL)
theorem V_if_ge {off : Int} {x : Int32} (hd : Dj (M_c μ) pc (.ifCond .ge off) 3 npc off tgt) (kt : 0 ≤ x → V E μ K tgt L st h c) (kf : ¬ 0 ≤ x → V E μ K npc L st h c) : V E μ K pc L (.int x :: st) h c := by
  obtain ⟨hdg, rfl, ht⟩ := hd
  intro g p e s m args below meth cd H locs ls hF hW hL
  exact lv_if_ge hF.1 hF.2.1 hdg ht (fun q => kt q g p e s m args below meth cd H locs ls hF hW hL) (fun q => kf q g p e s m args below meth cd H locs ls hF hW hL)
theorem V_if_gt {off : Int} {x : Int32} (hd : Dj (M_c μ) pc (.ifCond .gt off) 3 npc off tgt) (kt : 0 < x → V E μ K tgt L st h c) (kf : ¬ 0 < x → V E μ K npc L st h c) : V E μ K pc L (.int x :: st) h c := by
  obtain ⟨hdg, rfl, ht⟩ := hd
  intro g p e s m args below meth cd H locs ls hF hW hL
  exact lv_if_gt hF.1 hF.2.1 hdg ht (fun q => kt q g p e s m args below meth cd H locs ls hF hW hL) (fun q => kf q g p e s m args below meth cd H locs ls hF hW hL)
theorem V_if_le {off : Int} {x : Int32} (hd : Dj (M_c μ) pc (.ifCond .le off) 3 npc off tgt) (kt : x ≤ 0 → V E μ K tgt L st h c) (kf : ¬ x ≤ 0 → V E μ K npc L st h c) : V E μ K pc L (.int x :: st) h c := by
  obtain ⟨hdg, rfl, ht⟩ := hd
  intro g p e s m args below meth cd H locs ls hF hW hL
  exact lv_if_le hF.1 hF.2.1 hdg ht (fun q => kt q g p e s m args below meth cd H locs ls hF hW hL) (fun q => kf q g p e s m args below meth cd H locs ls hF hW hL)
theorem V_icmp_eq {off : Int} {x y : Int32} (hd : Dj (M_c μ) pc (.if_icmp .eq off) 3 npc off tgt) (kt : x = y → V E μ K tgt L st h c) (kf : ¬ x = y → V E μ K npc L st h c) : V E μ K pc L (.int y :: .int x :: st) h c := by
  obtain ⟨hdg, rfl, ht⟩ := hd
  intro g p e s m args below meth cd H locs ls hF hW hL
  exact lv_icmp_eq hF.1 hF.2.1 hdg ht (fun q => kt q g p e s m args below meth cd H locs ls hF hW hL) (fun q => kf q g p e s m args below meth cd H locs ls hF hW hL)
theorem V_icmp_ne {off : Int} {x y : Int32} (hd : Dj (M_c μ) pc (.if_icmp .ne off) 3 npc off tgt) (kt : ¬ x = y → V E μ K tgt L st h c) (kf : x = y → V E μ K npc L st h c) : V E μ K pc L (.int y :: .int x :: st) h c := by
  obtain ⟨hdg, rfl, ht⟩ := hd
  intro g p e s m args below meth cd H locs ls hF hW hL
  exact lv_icmp_ne hF.1 hF.2.1 hdg ht (fun q => kt q g p e s m args below meth cd H locs ls hF hW hL) (fun q => kf q g p e s m args below meth cd H locs ls hF hW hL)
theorem V_icmp_lt {off : Int} {x y : Int32} (hd : Dj (M_c μ) pc (.if_icmp .lt off) 3 npc off tgt) (kt : x < y → V E μ K tgt L st h c) (kf : ¬ x < y → V E μ K npc L st h c) : V E μ K pc L (.int y :: .int x :: st) h c := by
  obtain ⟨hdg, rfl, ht⟩ := hd
  intro g p e s m args below meth cd H locs ls hF hW hL
  exact lv_icmp_lt hF.1 hF.2.1 hdg ht (fun q => kt q g p e s m args below meth cd H locs ls hF hW hL) (fun q => kf q g p e s m args below meth cd H locs ls hF hW hL)
theorem V_icmp_ge {off : Int} {x y : Int32} (hd : Dj (M_c μ) pc (.if_icmp .ge off) 3 npc off tgt) (kt : y ≤ x → V E μ K tgt L st h c) (kf : ¬ y ≤ x → V E μ K npc L st h c) : V E μ K pc L (.int y :: .int x :: st) h c := by
  obtain ⟨hdg, rfl, ht⟩ := hd
  intro g p e s m args below meth cd H locs ls hF hW hL
  exact lv_icmp_ge hF.1 hF.2.1 hdg ht (fun q => kt q g p e s m args below meth cd H locs ls hF hW hL) (fun q => kf q g p e s m args below meth cd H locs ls hF hW hL)
theorem V_icmp_gt {off : Int} {x y : Int32} (hd : Dj (M_c μ) pc (.if_icmp .gt off) 3 npc off tgt) (kt : y < x → V E μ K tgt L st h c) (kf : ¬ y < x → V E μ K npc L st h c) : V E μ K pc L (.int y :: .int x :: st) h c := by
  obtain ⟨hdg, rfl, ht⟩ := hd
  intro g p e s m args below meth cd H locs ls hF hW hL
  exact lv_icmp_gt hF.1 hF.2.1 hdg ht (fun q => kt q g p e s m args below meth cd H locs ls hF hW hL) (fun q => kf q g p e s m args below meth cd H locs ls hF hW hL)
theorem V_icmp_le {off : Int} {x y : Int32} (hd : Dj (M_c μ) pc (.if_icmp .le off) 3 npc off tgt) (kt : x ≤ y → V E μ K tgt L st h c) (kf : ¬ x ≤ y → V E μ K npc L st h c) : V E μ K pc L (.int y :: .int x :: st) h c := by
  obtain ⟨hdg, rfl, ht⟩ := hd
  intro g p e s m args below meth cd H locs ls hF hW hL
  exact lv_icmp_le hF.1 hF.2.1 hdg ht (fun q => kt q g p e s m args below meth cd H locs ls hF hW hL) (fun q => kf q g p e s m args below meth cd H locs ls hF hW hL)

end VR
