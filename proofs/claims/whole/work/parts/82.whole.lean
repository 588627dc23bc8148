def R_law : String := "LatePricesLaw"
def lw_P (b : Addr) (xs : List Int32) (args : Array Value) (s : State) : Prop := args = #[.ref b] ∧ s.IntsAt b xs ∧ xs.length ≤ 4096 ∧ (Jvm.Cond.and given_1 narrow_1).before args s = true
def lw_Q (_ : Array Value) (s : State) (o : Outcome) (t : State) : Prop := o = .returned (some (.int 1)) ∧ Framed s o t [] 600000 7302250
def lw_Z (below : List Frame) (a : Array Value) (s : State) : State → Prop := fun t => ∃ o, t.status = .running ∧ Ended t below o ∧ lw_Q a s o t
/-- the law's own end, with 1 on the stack, nothing written that was there before, its room as the claim has it -/
theorem lw_ret {p : Program} {l : Launch} {e : Env} {s : State} {m : MethodId} {below : List Frame} {meth : Method} {c : Code} {b : Nat} (hx : p.tables.exec = Jvm.exec) (hb : c.code = code) (hr : meth.sig.returnType = ret) (hlocks : meth.locks = false) {pc : Nat} {H : Heap} {ls : Array Slot} (hdg : decode code pc = .ok (.ireturn, 1)) : W p l e room_1 s m #[Value.ref b] below meth c H [] 600000 7302250 (lw_Z below #[Value.ref b] s) (F0 m pc ls [.int 1]) := by
  intro T hT X
  obtain ⟨fs, hret, hrun, hended, hW, hframe⟩ := X.leave (v := some (.int 1)) (hlocks := hlocks) (fun h => by rw [hr] at h; cases h)
  have hmeth' : T.vm.method? m = some meth := X.method'
  refine ⟨T.setFrames fs, ?_, .returned (some (.int 1)), hrun, hended, rfl, ⟨_, rfl⟩, hW, hframe⟩
  jvm_step X.here [X.here.top, hx, hb, hdg, hmeth', hr, ret, narrow_b1]
  (try refine ⟨rfl, ?_⟩); (try refine ⟨rfl, ?_⟩)
  first | (intro acts; rw [hret _ acts rfl rfl rfl]) | rw [hret _ _ rfl rfl rfl]
  exact Steps.refl _
/-- what holds at the law's entry: the machine, the code, the tables' words (any of lw_tbl by 'hts w (by decide +kernel)'), the script of L ints xs at the cell b, what the Statement gives of the start (any of its parts by flat_of_before) -/
def lw_At (p : Program) (s : State) (m : MethodId) (meth : Method) (c : Code) (b L : Nat) (xs : Nat → Int32) : Prop :=
  p.tables.exec = Jvm.exec ∧ c.code = code ∧ meth.sig.returnType = ret ∧ c.maxLocals = 4 ∧ s.vm.findClass R_law = some m.cls ∧ (∀ w ∈ lw_tbl, w.before #[Value.ref b] s = true) ∧ va_X b L xs s s.heap ∧ b < s.heap.size ∧ meth.locks = false ∧ (Jvm.Cond.and given_1 narrow_1).before #[Value.ref b] s = true ∧ meth.name = x.name
theorem arr_cls {s : State} {A : Array Value} {ty : FieldType} (h : (Cond.arrayClass ty).before A s = true) : ∃ cA, ArrOfT s cA ty ∧ s.vm.findClass ("[" ++ ty.toString) = some cA := by
  obtain ⟨cA, kA, comp, hf, hk, hkind⟩ := Cond.arrayClass_spec h
  exact ⟨cA, fun n z => ⟨fun k h => (by cases h), kA, hk, comp, hkind⟩, hf⟩
theorem arr_obj {s : State} {A : Array Value} {C : String} (h : (Cond.arrayOver (.object C)).before A s = true) : ∃ cA, ArrOfT s cA (.object C) ∧ va_RA s cA (.object C) := by
  obtain ⟨comp, c, k, h1, h2, h3, h4, h5⟩ := Cond.arrayOver_spec h
  exact ⟨c, fun n z => ⟨fun k h => (by cases h), k, h3, comp, h4⟩, k, comp, h3, h4, h1, h5⟩
def smT (i : Nat) : Term := Term.string "LatePrices$Reader" (sIdx.getD i 0)
theorem sm_ex : ∀ i, i < 9 → Cond.exactly (smT i) "java/lang/String" ∈ flatC (Jvm.Cond.and given_1 narrow_1) := by decide +kernel
theorem sm_co : ∀ i, i < 9 → Cond.eq (.field (smT i) "java/lang/String" "coder" "B") (.int 0) ∈ flatC (Jvm.Cond.and given_1 narrow_1) := by decide +kernel
theorem sm_ar : ∀ i, i < 9 → Cond.arrayOf (.field (smT i) "java/lang/String" "value" "[B") .byte ∈ flatC (Jvm.Cond.and given_1 narrow_1) := by decide +kernel
theorem sm_ln : ∀ i, i < 9 → Cond.eq (.length (.field (smT i) "java/lang/String" "value" "[B")) (.int (Int32.ofNat (sLen.getD i 0))) ∈ flatC (Jvm.Cond.and given_1 narrow_1) := by decide +kernel
theorem sm_el : ∀ i, i < 9 → ∀ j, j < sLen.getD i 0 → Cond.eq (.elem (.field (smT i) "java/lang/String" "value" "[B") (.int (Int32.ofNat j))) (.int ((sByt.getD i []).getD j 0)) ∈ flatC (Jvm.Cond.and given_1 narrow_1) := by decide +kernel
theorem sm_ne : ∀ i, i < 9 → ∀ j, j < 9 → i ≠ j → Cond.not (Cond.eq (smT i) (smT j)) ∈ flatC (Jvm.Cond.and given_1 narrow_1) ∨ Cond.not (Cond.eq (smT j) (smT i)) ∈ flatC (Jvm.Cond.and given_1 narrow_1) := by decide +kernel
theorem sm_cs : Cond.eq (.static "java/lang/String" "COMPACT_STRINGS" "Z") (.int 1) ∈ flatC (Jvm.Cond.and given_1 narrow_1) := by decide +kernel
theorem sm_sf : Cond.isRef (.static "jdk/internal/util/Preconditions" "SIOOBE_FORMATTER" "Ljava/util/function/BiFunction;") ∈ flatC (Jvm.Cond.and given_1 narrow_1) := by decide +kernel
theorem lt_sr : ∀ i, i < 9 → lw_tbl[([531, 592, 600, 605, 614, 619, 620, 621, 622] : List Nat).getD i 0]? = some (Cond.stringRef "LatePrices$Reader" (sIdx.getD i 0) (sTxt.getD i "")) := by decide +kernel
theorem lt_mem {w : Cond} (i : Nat) (h : lw_tbl[i]? = some w) : w ∈ lw_tbl := List.mem_of_getElem? h
theorem lt_l1 : Cond.laysStatic "java/lang/String" "COMPACT_STRINGS" "Z" ∈ lw_tbl := lt_mem 545 (by decide +kernel)
theorem lt_l2 : Cond.laysStatic "jdk/internal/util/Preconditions" "SIOOBE_FORMATTER" "Ljava/util/function/BiFunction;" ∈ lw_tbl := lt_mem 561 (by decide +kernel)
theorem lt_a1 : Cond.arrayOver (.object "LatePrices$Ledger") ∈ lw_tbl := lt_mem 310 (by decide +kernel)
theorem lt_a2 : Cond.arrayOver (.object "LatePrices$Sheet") ∈ lw_tbl := lt_mem 423 (by decide +kernel)
theorem lt_n1 : wNest0 ∈ lw_tbl := lt_mem 102 (by decide +kernel)
theorem lt_n2 : wNest1 ∈ lw_tbl := lt_mem 425 (by decide +kernel)
theorem lt_i1 : Cond.initialized "java/lang/String" ∈ lw_tbl := lt_mem 87 (by decide +kernel)
theorem lt_i2 : Cond.initialized "jdk/internal/util/Preconditions" ∈ lw_tbl := lt_mem 89 (by decide +kernel)
theorem gt_in {w : Cond} (h : w ∈ gtb) : w ∈ lw_tbl := (List.mem_filter.mp h).1
theorem room_le {s : State} {pl : Platform} (h : s.hasRoom pl room_1 = true) : s.hasRoom pl (M_R mLw) = true := by
  have e1 : room_1.frames = 12 := rfl
  have e2 : room_1.cells = 600000 := rfl
  have e3 : room_1.slots = 7302250 := rfl
  have e4 : room_1.locals = 428 := rfl
  have d1 : (M_R mLw).frames = 12 := rfl
  have d2 : (M_R mLw).cells = 94 := rfl
  have d3 : (M_R mLw).slots = 3874 := rfl
  have d4 : (M_R mLw).locals = 428 := rfl
  simp only [State.hasRoom, Bool.and_eq_true, decide_eq_true_eq, e1, e2, e3, e4] at h
  simp only [State.hasRoom, Bool.and_eq_true, decide_eq_true_eq, d1, d2, d3, d4]
  obtain ⟨⟨⟨⟨h1, h2⟩, h3⟩, h4⟩, h5⟩ := h
  exact ⟨⟨⟨⟨h1, h2⟩, by omega⟩, by omega⟩, h5⟩
def lw_sp (adK adV : Nat → Nat) (b r : Nat) (j : Nat) : Value := if j < 9 then .ref (adK j) else if 16 ≤ j ∧ j < 25 then .ref (adV (j - 16)) else if j = 32 then .ref b else if j = 33 then .ref r else .null
set_option maxHeartbeats 4000000 in
theorem whole_start {p : Program} {e : Env} {s : State} {m : MethodId} {below : List Frame} {meth : Method} {c : Code} (l : Launch) (hflags : l.flags = flags0) {b L : Nat} {xs : Nat → Int32} (hL : L ≤ 4096) (C0 : lw_At p s m meth c b L xs) : W p l e room_1 s m #[Value.ref b] below meth c s.heap [] 0 0 (lw_Z below #[Value.ref b] s) (entryFrame m ([Value.ref b] : List Value).toArray 4) := by
  obtain ⟨hx, hcode, hret, hml, hown, hts, hX, hbl, hlocks, hgv, hname⟩ := C0
  have hs := flat_of_before _ hgv
  -- the classes
  have hD : ∀ ci : Nat, ∃ q : ClassId × (Nat → Nat), ∀ r, CLS[ci]? = some r → u_Kn s r.1 r.2.1 r.2.2 q.1 q.2 := fun ci => by
    cases h : CLS[ci]? with
    | none => exact ⟨(m.cls, fun _ => 0), fun r hr => by cases hr⟩
    | some r =>
      obtain ⟨cC, iS, hk⟩ := u_known hts (u_in h) (hts _ (u_ns h))
      exact ⟨(cC, iS), fun r2 hr2 => by cases hr2; exact hk⟩
  obtain ⟨dd, hdd⟩ := Classical.axiomOfChoice hD
  obtain ⟨c0, k0, f0⟩ := arr_cls (hts _ (gt_in w_arr0))
  obtain ⟨c1, k1, f1⟩ := arr_cls (hts _ (gt_in w_arr1))
  obtain ⟨c2, k2, f2⟩ := arr_cls (hts _ (gt_in w_arr2))
  obtain ⟨c3, k3, f3⟩ := arr_cls (hts _ (gt_in w_arr3))
  obtain ⟨c4, k4, f4⟩ := arr_obj (hts _ lt_a1)
  obtain ⟨c5, k5, f5⟩ := arr_obj (hts _ lt_a2)
  have hA : ∀ a : Nat, a < s.heap.size → ¬ s.heap.size ≤ a := fun a ha => by omega
  obtain ⟨adK, adV, hvS, hev⟩ := vk_Sof (args := #[Value.ref b]) (s := s) (N := 9) (tm := smT) (len := sLen) (byt := sByt) (A := fun q => s.heap.size ≤ q) (by decide) (fun i hi => hs _ (sm_ex i hi)) (fun i hi => hs _ (sm_co i hi)) (fun i hi => hs _ (sm_ar i hi)) (fun i hi => hs _ (sm_ln i hi)) (fun i hi j hj => hs _ (sm_el i hi j hj)) (fun i j hi hj hij => (sm_ne i hi j hj hij).elim (fun h => Or.inl (hs _ h)) (fun h => Or.inr (hs _ h))) hA
  have hZ1 : va_Z "java/lang/String" "COMPACT_STRINGS" "Z" (.int 1) (fun q => s.heap.size ≤ q) s s.heap := va_Zof (hts _ lt_l1) (hts _ lt_i1) (va_eqt (hs _ sm_cs)) hA
  obtain ⟨vF, hvF, hvr⟩ := Cond.isRef_spec (hs _ sm_sf)
  have hcat : vF.category = 1 := by cases vF <;> first | rfl | cases hvr
  have hZ2 : va_Z "jdk/internal/util/Preconditions" "SIOOBE_FORMATTER" "Ljava/util/function/BiFunction;" vF (fun q => s.heap.size ≤ q) s s.heap := va_Zof (hts _ lt_l2) (hts _ lt_i2) hvF hA
  let sp : Nat → Value := fun j => if j < 9 then .ref (adK j) else if 16 ≤ j ∧ j < 25 then .ref (adV (j - 16)) else if j = 32 then .ref b else if j = 33 then vF else .null
  let g : aG := ((fun ci => (dd ci).1, fun ci => (dd ci).2), (fun t => if t = 0 then c0 else if t = 1 then c1 else if t = 2 then c2 else if t = 3 then c3 else if t = 4 then c4 else c5), s.heap.size, sp)
  let E : aE := (l, L, xs)
  have hK : va_K g.1 CLS (aT g) s := by
    refine ⟨fun ci q hq => hdd ci q hq, fun k q hq => ?_⟩
    match k, hq with
    | 0, hq => cases hq; exact ⟨k0, f0⟩
    | 1, hq => cases hq; exact ⟨k1, f1⟩
    | 2, hq => cases hq; exact ⟨k2, f2⟩
    | 3, hq => cases hq; exact ⟨k3, f3⟩
    | 4, hq => cases hq; exact ⟨k4, f4⟩
    | 5, hq => cases hq; exact ⟨k5, f5⟩
    | k + 6, hq => cases hq
  have hspc : ∀ j, (sp j).category = 1 := fun j => by
    show (if j < 9 then Value.ref (adK j) else if 16 ≤ j ∧ j < 25 then .ref (adV (j - 16)) else if j = 32 then .ref b else if j = 33 then vF else .null).category = 1
    split
    · rfl
    · split
      · rfl
      · split
        · rfl
        · split
          · exact hcat
          · rfl
  have hspK : ∀ j, j < 9 → sp j = .ref (adK j) ∧ sp (16 + j) = .ref (adV j) := fun j hj => by
    refine ⟨if_pos hj, ?_⟩
    show (if 16 + j < 9 then Value.ref (adK (16 + j)) else if 16 ≤ 16 + j ∧ 16 + j < 25 then .ref (adV (16 + j - 16)) else if 16 + j = 32 then .ref b else if 16 + j = 33 then vF else .null) = _
    rw [if_neg (by omega), if_pos ⟨by omega, by omega⟩, Nat.add_sub_cancel_left]
  have haX : aX E g s := ⟨⟨adK, adV, hspK, hvS, fun j hj => vk_R.of (hts _ (lt_mem _ (lt_sr j hj))) (hev j hj)⟩, hZ1, hZ2, ⟨b, rfl, hbl, hX⟩, va_AO.of (hts _ lt_a1), va_AO.of (hts _ lt_a2), hts _ lt_n1, hts _ lt_n2, hspc⟩
  have hF : aF E g mLw p s m #[Value.ref b] meth c := ⟨hx, hcode, hml, hret, hlocks, hname, hown, fun w hw => hts w (gt_in hw), hK, Nat.le_refl _, haX⟩
  have hW : aW g ([], (fun _ _ => 0), (fun _ _ => 0)) s.heap s [] (0, 0) := ⟨fun k q hq => (by cases hq), va_S.rf, rfl⟩
  have hV := law_start (E := E) (P := fun r _ _ => r = 1) hL (fun _ _ => rfl) g p e s m #[Value.ref b] below meth c s.heap [] _ hF hW (aL_entry haX (avs := [.float 32]) (L := [.float 32, .retAddr 0, .retAddr 0, .retAddr 0]) (n := 4) rfl rfl)
  rw [lg_entry_eq]
  intro T hT X
  have X2 : Stand p l e (M_R mLw) s m #[Value.ref b] below meth c T [] 0 0 := { X with room := room_le X.room }
  obtain ⟨t, a1, o, b1, b2, b3, Lo, ⟨d1, d2, d3⟩, d4⟩ := hV T hT X2
  refine ⟨t, a1, o, b1, b2, ?_, d1, d2, ?_⟩
  · obtain ⟨⟨r, u, e1, ⟨⟨x1, I1, J1, e2, -, e3⟩, -⟩, -⟩, -⟩ := b3
    have e2 : Value.int r = Value.int x1 := e2
    cases e2
    rw [e1, e3]
  · exact ((State.sameButNew.drop_fresh (L := []) (J := Lo) (by simpa using d3) d4)).mono (by decide) (by decide)
set_option maxHeartbeats 4000000 in
theorem lw_walk (l : Launch) (hflags : l.flags = flags0) (b : Addr) (xs : List Int32) : MetFree l x (headSpec (Jvm.Cond.code x code maxLocals ret :: tables_1) room_1) (lw_P b xs) (fun _ _ _ _ _ => True) lw_Q := by
  refine MetFree.of_bodyS (code := code) (maxLocals := maxLocals) (ret := ret) (by decide) ?_ ?_
  · intro args s m h hn
    obtain ⟨meth, c, h1, h2, h3, h4, h5, h6, -, -⟩ := Cond.code_spec hn (atoms_spec (ws := Jvm.Cond.code x code maxLocals ret :: tables_1) h _ List.mem_cons_self)
    exact ⟨meth, c, h1, h2, h3, h4, h5, h6⟩
  · intro p e s m args below meth c s₁ B hml0 hP _
    obtain ⟨rfl, hx, hbd, hgv⟩ := hP
    obtain ⟨scr, harrAt, hlist, hof, hsmall⟩ := hx
    obtain ⟨hcb, hkn, -, -⟩ := State.arrayAt?_spec harrAt
    have hown : s.vm.findClass R_law = some m.cls := findClass_of_methodNamed B.named
    have hts0 : ∀ c ∈ (Jvm.Cond.code x code maxLocals ret :: tables_1), c.before #[Value.ref b] s = true := atoms_spec (ws := Jvm.Cond.code x code maxLocals ret :: tables_1) B.pre
    have hts : ∀ w ∈ lw_tbl, w.before #[Value.ref b] s = true := k2_hts_sels lw_privs (fun w hw => hts0 w (List.mem_cons_of_mem _ hw)) lw_privs_ok
    have hml : c.maxLocals = 4 := B.maxLocals_eq (hts0 _ List.mem_cons_self)
    have X₀ : Stand p l e room_1 s m #[Value.ref b] below meth c s₁ [] 0 0 := Stand.of_body B
    have hh0 : s₁.heap = s.heap := by rw [B.state]; rfl
    have hsz : scr.slots.size = xs.length := by rw [← Array.length_toList, hlist, List.length_map]
    have hval : ∀ j : Nat, j < xs.length → scr.slots[j]? = some (.int (xs.getD j 0)) := fun j hj => by
      rw [← Array.getElem?_toList, hlist]
      simp [hj]
    have hbl : b < s.heap.size := (Array.getElem?_eq_some_iff.mp hcb).1
    have hX : va_X b xs.length (fun j => xs.getD j 0) s s.heap := ⟨scr, hcb, hof, hkn, hsz, hval⟩
    have K : W p l e room_1 s m #[Value.ref b] below meth c s₁.heap [] 0 0 (lw_Z below #[Value.ref b] s) (entryFrame m ([Value.ref b] : List Value).toArray 4) := by
      rw [hh0]
      exact whole_start l hflags hbd ⟨B.exec, B.bytes, B.returns, hml, hown, hts, hX, hbl, B.notSynchronized, hgv, (name_of_methodNamed B.named B.method).1⟩
    obtain ⟨t, a1, o, b1, b2, b3⟩ := K s₁ rfl X₀
    exact ⟨t, o, a1, b1, b2, b3⟩
theorem lw_pre_spec {args : Array Value} {s : State} (h : (Jvm.Cond.and given_1 narrow_1).before args s = true) (hr : rest_1_c.before args s = true) : ∃ (b : Addr) (xs : List Int32), lw_P b xs args s := by
  have hs := flat_of_before _ h
  have hq := flat_of_before _ hr
  have hc : (Cond.count 1).before args s = true := hs _ (by decide +kernel)
  have harr : (Cond.arrayOf (.arg 0) .int).before args s = true := hs _ (by decide +kernel)
  have hle : (Cond.le (.length (.arg 0)) (.int 4096)).before args s = true := hs _ (by decide +kernel)
  have hlen : (Cond.isInt (.length (.arg 0))).before args s = true := hq _ (by decide +kernel)
  have hall : (Cond.all (.arg 0) (.isInt (.elem (.arg 0) (.index 0)))).before args s = true := hq _ (by decide +kernel)
  obtain ⟨b, xs, hb, hx⟩ := State.ints_of_pre rfl harr hlen hall
  have hsm : xs.length < 2 ^ 31 := hx.choose_spec.2.2.2
  have hev : (Term.length (.arg 0)).eval args s none [] s = some (.int xs.length.toInt32) := hx.length_eval hb
  have hv := Cond.le_ints hev (show (Term.int 4096).eval args s none [] s = some (.int 4096) from rfl)
  have hd : xs.length.toInt32 ≤ 4096 := by
    simpa [Cond.before, Cond.holds, hv] using hle
  have hN : xs.length ≤ 4096 := (Int32.ofNat_le_ofNat hsm (by decide)).mp (show Int32.ofNat xs.length ≤ Int32.ofNat 4096 from hd)
  exact ⟨b, xs, Cond.one_arg hc (show args[0]? = some (.ref b) from hb), hx, hN, h⟩
theorem lw_comes (l : Launch) (hflags : l.flags = flags0) : Comes l x (Jvm.Cond.code x code maxLocals ret :: tables_1) room_1 (fun tb e args s => Calls_1 tb e args s ∧ rest_1 tb e args s ∧ Pre_1 tb e args s)
    (fun _ _ args s o t => lw_Q args s o t) := by
  intro p e ha hc hk s m args below hf hfit hheap happ hpre
  obtain ⟨b, xs, hP⟩ := lw_pre_spec hpre.2.2 hpre.2.1
  obtain ⟨k, o, h1, h2, h3, hQ⟩ := lw_walk l hflags b xs p e ha hc hk s m args below hf ((Spec.applies_iff_loose hf).mp happ).1 hP trivial
  exact ⟨k, o, h1, h2, h3, hQ⟩
theorem lw_frame {s t : State} {o : Outcome} {args : Array Value} (h : Framed s o t [] 600000 7302250) :
    Framed s o t (fieldLocs frame_1_writes args s ++ arrayLocs frame_1_arrays args s ++ staticLocs frame_1_statics s) 600000 7302250 := h
theorem lw_limb (L : Cond) (hL : ∀ (args : Array Value) (s t : State), L.after args s (.returned (some (.int 1))) t = true) :
    ArmFor flags0 classFile x code maxLocals ret World_1 tables_1 room_1 Calls_1 rest_1 Pre_1
      (fun tb e a s o t => postC L tb e a s o t ∧ Framed s o t (fieldLocs frame_1_writes a s ++ arrayLocs frame_1_arrays a s ++ staticLocs frame_1_statics s) 600000 7302250) := by
  intro l hflags _ _ p e ha hc hk s m args below hf hfit hheap happ hpre
  obtain ⟨k, o, h1, h2, h3, rfl, hF⟩ := lw_comes l hflags p e ha hc hk s m args below hf hfit hheap happ hpre
  exact ⟨k, _, h1, h2, h3, hL args s _, lw_frame hF⟩
theorem i_vc : Claimed_1_1 ∧ Claimed_1_2 := ⟨lw_limb limb_1_1 (fun args s t => by simp [limb_1_1, Cond.after, Cond.holds, Cond.value]), lw_limb limb_1_2 (fun args s t => Cond.after_iff.mpr (by
  first | (rw [show limb_1_2 = Cond.eq .result (.int 1) from rfl, Cond.eq_ints (x := 1) (y := 1) rfl rfl]; simp; done) | (simp [limb_1_2, Cond.value, Term.eval]; done)))⟩

