/-! rows for what makes objects: shapes that grow, places that are 0 -/
def ZA (N : Nat) (I : hI_) (J : hJ_) : Prop := ∀ b, N ≤ b → I b = (fun _ => 0) ∧ J b = fun _ => 0
theorem ZA_mono {N M : Nat} {I : hI_} {J : hJ_} (h : N ≤ M) (z : ZA N I J) : ZA M I J := fun b hb => z b (Nat.le_trans h hb)
theorem ZA_up {N a i : Nat} {v : Int32} {I : hI_} {J : hJ_} (h : a < N) (z : ZA N I J) : ZA N (upI I a i v) J := fun b hb => by
  refine ⟨?_, (z b hb).2⟩
  rw [← (z b hb).1]
  funext j
  rw [upI_at, if_neg (fun q => by omega)]
theorem ZA_fl {N a n : Nat} {v : Int32} {I : hI_} {J : hJ_} (h : a < N) (z : ZA N I J) : ZA N (flI I a n v) J := fun b hb => by
  refine ⟨?_, (z b hb).2⟩
  rw [← (z b hb).1]
  funext j
  rw [flI_at, if_neg (fun q => by omega)]
theorem hN_z {S : List aC} {I : hI_} {J : hJ_} {c : aC} (z : ZA S.length I J) : hN (S, I, J) c = (S ++ [c], I, J) := by
  have e1 : (fun b => if b = S.length then fun _ => 0 else I b) = I := by
    funext b
    by_cases h : b = S.length
    · rw [if_pos h, h]; exact ((z _ (Nat.le_refl _)).1).symm
    · rw [if_neg h]
  have e2 : (fun b => if b = S.length then fun _ => 0 else J b) = J := by
    funext b
    by_cases h : b = S.length
    · rw [if_pos h, h]; exact ((z _ (Nat.le_refl _)).2).symm
    · rw [if_neg h]
  show (S ++ [c], (fun b => if b = S.length then fun _ => 0 else I b), (fun b => if b = S.length then fun _ => 0 else J b)) = _
  rw [e1, e2]
/-- a reference put into a cell of a shape -/
def pR (S : List aC) (a j code : Nat) : List aC := (hR (S, fun _ _ => 0, fun _ _ => 0) a j code).1
def CallN (E : aE) (μ : aM) (avs : List Value) (S : List aC) (I : hI_) (J : hJ_) (S2 : List aC) (P : hI_ → hJ_ → Prop) : Prop := Call E μ avs (S, I, J) (kV S2 P)
theorem bok_of {ci n : Nat} (h : (List.range n).all (fun j => match tyOf ci j with
  | .long => true
  | .int => true
  | .boolean => true
  | t => aRf t) = true) : bok ci n := by
  intro j hj g hh k h1 h2
  have ht := List.all_eq_true.mp h j (List.mem_range.mpr hj)
  have hb : (bfs ci n)[j]? = some (match tyOf ci j with
    | .long => 1
    | .int => 0
    | .boolean => 0
    | _ => 2) := by
    unfold bfs
    rw [List.getElem?_map, List.getElem?_range hj]
    rfl
  unfold vp_V
  rw [List.getD_eq_getElem?_getD, cfs_at hb, Option.getD_some]
  revert ht
  cases tyOf ci j <;> intro ht
  all_goals first | (show _ = Value.int (hh.2.1 k j); rw [h1]; rfl) | (show _ = Value.long (hh.2.2 k j); rw [h2]; rfl) | rfl | cases ht
section VN
variable {E : aE} {μ : aM} {K : Value → aH → Prop} {pc npc : Nat} {L st : List Value} {c : Nat × Nat} {S S2 : List aC} {I : hI_} {J : hJ_}
theorem N_new {idx ci n a : Nat} {C : String} {T : u_T} (hd : Dc (M_c μ) pc (.new idx) 3 npc) (hc : CLS[ci]? = some (C, T, n)) (hl : Cond.classLink (M_y μ).cls idx C ∈ gtb) (hi : Cond.instantiable C n ∈ gtb) (hn : Cond.initialized C ∈ gtb) (hb : bok ci n) (hr : (Nat.ble (c.1 + 1) (M_R μ).cells && Nat.ble (c.2 + n) (M_R μ).slots) = true) (ha : S.length = a) (hZ : ZA a I J) (hS : S ++ [.inr (ci, bfs ci n)] = S2) (k : V E μ K npc L (.ref a :: st) (S2, I, J) (c.1 + 1, c.2 + n)) : V E μ K pc L st (S, I, J) c := by
  subst ha hS
  refine V_new hd hc hl hi hn hb hr ?_
  rw [hN_z hZ]; exact k
theorem N_newI {n : Int32} {N a : Nat} (hd : Dc (M_c μ) pc (.newarray .int) 2 npc) (hn : ¬ n < 0) (hz : n.toNatClampNeg = N) (hb : N * componentBytes .int ≤ 536870912) (hr : (Nat.ble (c.1 + 1) (M_R μ).cells && Nat.ble (c.2 + N) (M_R μ).slots) = true) (ha : S.length = a) (hZ : ZA a I J) (hS : S ++ [.inl (0, N, [])] = S2) (k : V E μ K npc L (.ref a :: st) (S2, I, J) (c.1 + 1, c.2 + N)) : V E μ K pc L (.int n :: st) (S, I, J) c := by
  subst ha hS
  refine V_newI hd hn hz hb hr ?_
  rw [hN_z hZ]; exact k
theorem N_newB {n : Int32} {N a : Nat} (hd : Dc (M_c μ) pc (.newarray .byte) 2 npc) (hn : ¬ n < 0) (hz : n.toNatClampNeg = N) (hb : N * componentBytes .byte ≤ 536870912) (hr : (Nat.ble (c.1 + 1) (M_R μ).cells && Nat.ble (c.2 + N) (M_R μ).slots) = true) (ha : S.length = a) (hZ : ZA a I J) (hS : S ++ [.inl (1, N, [])] = S2) (k : V E μ K npc L (.ref a :: st) (S2, I, J) (c.1 + 1, c.2 + N)) : V E μ K pc L (.int n :: st) (S, I, J) c := by
  subst ha hS
  refine V_newB hd hn hz hb hr ?_
  rw [hN_z hZ]; exact k
theorem N_newZ {n : Int32} {N a : Nat} (hd : Dc (M_c μ) pc (.newarray .boolean) 2 npc) (hn : ¬ n < 0) (hz : n.toNatClampNeg = N) (hb : N * componentBytes .boolean ≤ 536870912) (hr : (Nat.ble (c.1 + 1) (M_R μ).cells && Nat.ble (c.2 + N) (M_R μ).slots) = true) (ha : S.length = a) (hZ : ZA a I J) (hS : S ++ [.inl (2, N, [])] = S2) (k : V E μ K npc L (.ref a :: st) (S2, I, J) (c.1 + 1, c.2 + N)) : V E μ K pc L (.int n :: st) (S, I, J) c := by
  subst ha hS
  refine V_newZ hd hn hz hb hr ?_
  rw [hN_z hZ]; exact k
theorem N_newJ {n : Int32} {N a : Nat} (hd : Dc (M_c μ) pc (.newarray .long) 2 npc) (hn : ¬ n < 0) (hz : n.toNatClampNeg = N) (hb : N * componentBytes .long ≤ 536870912) (hr : (Nat.ble (c.1 + 1) (M_R μ).cells && Nat.ble (c.2 + N) (M_R μ).slots) = true) (ha : S.length = a) (hZ : ZA a I J) (hS : S ++ [.inl (3, N, [])] = S2) (k : V E μ K npc L (.ref a :: st) (S2, I, J) (c.1 + 1, c.2 + N)) : V E μ K pc L (.int n :: st) (S, I, J) c := by
  subst ha hS
  refine V_newJ hd hn hz hb hr ?_
  rw [hN_z hZ]; exact k
theorem N_newR4 {n : Int32} {N idx a : Nat} (hd : Dc (M_c μ) pc (.anewarray idx) 3 npc) (hl : Cond.classLink (M_y μ).cls idx "LatePrices$Ledger" ∈ gtb) (hn : ¬ n < 0) (hz : n.toNatClampNeg = N) (hb : N * 4 ≤ 536870912) (hr : (Nat.ble (c.1 + 1) (M_R μ).cells && Nat.ble (c.2 + N) (M_R μ).slots) = true) (ha : S.length = a) (hZ : ZA a I J) (hS : S ++ [.inl (4, N, List.replicate N 2)] = S2) (k : V E μ K npc L (.ref a :: st) (S2, I, J) (c.1 + 1, c.2 + N)) : V E μ K pc L (.int n :: st) (S, I, J) c := by
  subst ha hS
  refine V_newR4 hd hl hn hz hb hr ?_
  rw [hN_z hZ]; exact k
theorem N_newR5 {n : Int32} {N idx a : Nat} (hd : Dc (M_c μ) pc (.anewarray idx) 3 npc) (hl : Cond.classLink (M_y μ).cls idx "LatePrices$Sheet" ∈ gtb) (hn : ¬ n < 0) (hz : n.toNatClampNeg = N) (hb : N * 4 ≤ 536870912) (hr : (Nat.ble (c.1 + 1) (M_R μ).cells && Nat.ble (c.2 + N) (M_R μ).slots) = true) (ha : S.length = a) (hZ : ZA a I J) (hS : S ++ [.inl (5, N, List.replicate N 2)] = S2) (k : V E μ K npc L (.ref a :: st) (S2, I, J) (c.1 + 1, c.2 + N)) : V E μ K pc L (.int n :: st) (S, I, J) c := by
  subst ha hS
  refine V_newR5 hd hl hn hz hb hr ?_
  rw [hN_z hZ]; exact k
theorem N_putFI {a idx ci j : Nat} {fs : List Nat} {v : Int32} (hd : Dc (M_c μ) pc (.putfield idx) 3 npc) (hf : FF (M_y μ).cls idx ci j .int) (hin : (M_y μ).name = "<init>") (hs : S[a]? = some (.inr (ci, fs))) (hc : fs[j]? = some 0) (k : V E μ K npc L st (S, upI I a j v, J) c) : V E μ K pc L (.int v :: .ref a :: st) (S, I, J) c := V_putFI hd hf hin hs hc k
theorem N_putFR {a idx ci j w : Nat} {ty : FieldType} {fs : List Nat} {v : Nat} (hd : Dc (M_c μ) pc (.putfield idx) 3 npc) (hf : FF (M_y μ).cls idx ci j ty) (hin : (M_y μ).name = "<init>") (ht : aRf ty = true) (hs : S[a]? = some (.inr (ci, fs))) (hc : fs[j]? = some w) (hS : pR S a j (v + 3) = S2) (k : V E μ K npc L st (S2, I, J) c) : V E μ K pc L (.ref v :: .ref a :: st) (S, I, J) c := by
  subst hS
  exact V_putFR hd hf hin ht hs hc k
theorem N_aast0 {a n b ci : Nat} {rs fs : List Nat} {i : Int32} {q : Nat} (hd : Dc (M_c μ) pc .aastore 1 npc) (hs : S[a]? = some (.inl (4, n, rs))) (hb : S[b]? = some (.inr (ci, fs))) (hci : CLS[ci]? = some (RX1, TX1, 5)) (hi : vp_in i n) (hr : i.toNatClampNeg < rs.length) (hq : i.toNatClampNeg = q) (hS : pR S a q (b + 3) = S2) (k : V E μ K npc L st (S2, I, J) c) : V E μ K pc L (.ref b :: .int i :: .ref a :: st) (S, I, J) c := by
  subst hq hS
  exact V_aast0 hd hs hb hci hi hr k
theorem N_aast1 {a n b ci : Nat} {rs fs : List Nat} {i : Int32} {q : Nat} (hd : Dc (M_c μ) pc .aastore 1 npc) (hs : S[a]? = some (.inl (5, n, rs))) (hb : S[b]? = some (.inr (ci, fs))) (hci : CLS[ci]? = some (RX6, TX6, 3)) (hi : vp_in i n) (hr : i.toNatClampNeg < rs.length) (hq : i.toNatClampNeg = q) (hS : pR S a q (b + 3) = S2) (k : V E μ K npc L st (S2, I, J) c) : V E μ K pc L (.ref b :: .int i :: .ref a :: st) (S, I, J) c := by
  subst hq hS
  exact V_aast1 hd hs hb hci hi hr k
theorem N_callI0 {idx : Nat} {μ2 : aM} {a : Nat} (As : List Value) (hd : Dc (M_c μ) pc (.invokespecial idx) 3 npc) (ok : okI (M_y μ).cls idx μ2) (hret : M_r μ2 = none) (hk : M_k μ2 = 0) (hr : rmok (M_R μ) μ2 c = true) (hn : As.length = M_n μ2) (hst : stW st = true) (k : CallN E μ2 (.ref a :: As) S I J S2 (fun I2 J2 => V E μ K npc L st (S2, I2, J2) (c.1 + (M_R μ2).cells, c.2 + (M_R μ2).slots))) : V E μ K pc L (As.reverse ++ .ref a :: st) (S, I, J) c := V_callI0 As hd ok hret hk hr hn hst (Call_mono k (fun r h2 q => by
  obtain ⟨I2, J2, rfl, hp⟩ := q
  exact hp))
theorem N_callN0 {μ2 : aM} {a : Nat} (As : List Value) (hd : Dc (M_c μ) pc (.invokespecial 9) 3 npc) (hcl : (M_y μ).cls = "LatePrices") (hy2 : M_y μ2 = ⟨"LatePrices$Tape", "<init>", "()V"⟩) (ok : okM μ2) (hin : Cond.instanceMethod (M_y μ2) ∈ gtb) (hret : M_r μ2 = none) (hk : M_k μ2 = 0) (hr : rmok (M_R μ) μ2 c = true) (hn : As.length = M_n μ2) (hst : stW st = true) (k : CallN E μ2 (.ref a :: As) S I J S2 (fun I2 J2 => V E μ K npc L st (S2, I2, J2) (c.1 + (M_R μ2).cells, c.2 + (M_R μ2).slots))) : V E μ K pc L (As.reverse ++ .ref a :: st) (S, I, J) c := V_callN0 As hd hcl hy2 ok hin hret hk hr hn hst (Call_mono k (fun r h2 q => by
  obtain ⟨I2, J2, rfl, hp⟩ := q
  exact hp))
theorem N_callN1 {μ2 : aM} {a : Nat} (As : List Value) (hd : Dc (M_c μ) pc (.invokespecial 95) 3 npc) (hcl : (M_y μ).cls = "LatePrices") (hy2 : M_y μ2 = ⟨"LatePrices$Sheet", "<init>", "()V"⟩) (ok : okM μ2) (hin : Cond.instanceMethod (M_y μ2) ∈ gtb) (hret : M_r μ2 = none) (hk : M_k μ2 = 0) (hr : rmok (M_R μ) μ2 c = true) (hn : As.length = M_n μ2) (hst : stW st = true) (k : CallN E μ2 (.ref a :: As) S I J S2 (fun I2 J2 => V E μ K npc L st (S2, I2, J2) (c.1 + (M_R μ2).cells, c.2 + (M_R μ2).slots))) : V E μ K pc L (As.reverse ++ .ref a :: st) (S, I, J) c := V_callN1 As hd hcl hy2 ok hin hret hk hr hn hst (Call_mono k (fun r h2 q => by
  obtain ⟨I2, J2, rfl, hp⟩ := q
  exact hp))
theorem N_mmax {idx : Nat} {x y v : Int32} {h : aH} (hd : Dc (M_c μ) pc (.invokestatic idx) 3 npc) (hl : Cond.methodLink (M_y μ).cls idx ⟨"java/lang/Math", "max", "(II)I"⟩ ∈ gtb) (hr : mthok (M_R μ) st c = true) (hv : jmax x y = v) (k : V E μ K npc L (.int v :: st) h c) : V E μ K pc L (.int y :: .int x :: st) h c := by
  subst hv
  exact V_mmax hd hl hr k
theorem N_imul {x y v : Int32} {h : aH} (hd : Dc (M_c μ) pc .imul 1 npc) (hv : x * y = v) (k : V E μ K npc L (.int v :: st) h c) : V E μ K pc L (.int y :: .int x :: st) h c := by
  subst hv
  exact V_imul hd k
end VN
def HJ7_fill_53178_5S (S : List aC) (E : aE) (P : hI_ → hJ_ → Prop) (a n : Nat) (v1 : Int32) (v2 : Int32) (v3 : Int32) (I : hI_) (J : hJ_) : Prop := V E mJ7_fill_53178 (kV S P) 5 [.ref a, .int v1, .int v2, .int v3] [] (S, I, J) (0, 0)
set_option maxHeartbeats 4000000 in
set_option maxRecDepth 20000 in
theorem wJ7_fill_53178S {S : List aC} {E : aE} {P : hI_ → hJ_ → Prop} {I : hI_} {J : hJ_} {a n : Nat} {v : Int32} (ha : S[a]? = some (.inl (0, n, []))) (k : HJ7_fill_53178_5S S E P a n v (0 : Int32) (Int32.ofNat n) I J) : CallV E mJ7_fill_53178 [.ref a, .int v] S I J P := by
  refine Call_of (L := [.ref a, .int v, .retAddr 0, .retAddr 0]) ok_J7_fill_53178.1 rfl rfl ?_
  refine V_iconst (v := (0 : Int32)) dJ7_fill_53178_0 rfl ?_
  refine U_istore_n (L2 := [.ref a, .int v, .int (0 : Int32), .retAddr 0]) dJ7_fill_53178_1 (by decide) rfl ?_
  refine V_aload_n dJ7_fill_53178_2 rfl ?_
  refine U_alen (v := Int32.ofNat n) dJ7_fill_53178_3 ha (by decide) rfl ?_
  refine U_istore_n (L2 := [.ref a, .int v, .int (0 : Int32), .int (Int32.ofNat n)]) dJ7_fill_53178_4 (by decide) rfl ?_
  exact k
set_option maxHeartbeats 4000000 in
set_option maxRecDepth 20000 in
theorem wJ7_fill_53178_5S {S : List aC} {E : aE} {P : hI_ → hJ_ → Prop} {I : hI_} {J : hJ_} {a n : Nat} {v1 : Int32} {v2 : Int32} {v3 : Int32} (ha : S[a]? = some (.inl (0, n, []))) (k : ((v3 ≤ v2 → P I J) ∧ (¬ (v3 ≤ v2) → (vp_in v2 n) ∧ HJ7_fill_53178_5S S E P a n v1 (v2 + (1 : Int32)) v3 (upI I a v2.toNatClampNeg v1) J))) : HJ7_fill_53178_5S S E P a n v1 v2 v3 I J := by
  show V E mJ7_fill_53178 (kV S P) 5 [.ref a, .int v1, .int v2, .int v3] [] (S, I, J) (0, 0)
  refine V_iload_n dJ7_fill_53178_5 rfl ?_
  refine V_iload_n dJ7_fill_53178_6 rfl ?_
  refine V_icmp_ge dJ7_fill_53178_7 (fun c1 => ?_) (fun c1 => ?_)
  · have k := k.1 c1
    exact V_vret dJ7_fill_53178_20 rfl rfl rfl ⟨_, _, rfl, k⟩
  · have k := k.2 c1
    refine V_aload_n dJ7_fill_53178_10 rfl ?_
    refine V_iload_n dJ7_fill_53178_11 rfl ?_
    refine V_iload_n dJ7_fill_53178_12 rfl ?_
    obtain ⟨hb2, k⟩ := k
    refine U_iast dJ7_fill_53178_13 ha hb2 ?_
    refine U_iinc (v := v2 + (1 : Int32)) (L2 := [.ref a, .int v1, .int (v2 + (1 : Int32)), .int v3]) dJ7_fill_53178_14 (by decide) rfl rfl rfl ?_
    refine V_goto dJ7_fill_53178_17 ?_
    exact k
theorem tfillIS_loop {S : List aC} {E : aE} {P : hI_ → hJ_ → Prop} {J : hJ_} {a n : Nat} {v : Int32} (ha : S[a]? = some (.inl (0, n, []))) (hn : n < 2147483648) : ∀ (m i : Nat) (I : hI_), i + m = n → P (fun q => if q = a then (fun j => if i ≤ j ∧ j < n then v else I a j) else I q) J → HJ7_fill_53178_5S S E P a n v (nI i) (nI n) I J
  | 0, i, I, h, k => by
    refine wJ7_fill_53178_5S ha ⟨fun _ => ?_, fun c => absurd (by rw [show i = n by omega]; exact Int32.le_refl _) c⟩
    have e : (fun q => if q = a then (fun j => if i ≤ j ∧ j < n then v else I a j) else I q) = I := by
      funext q j
      by_cases hq : q = a
      · subst hq
        have : ¬ (i ≤ j ∧ j < n) := by omega
        simp [this]
      · simp [hq]
    rw [e] at k
    exact k
  | m + 1, i, I, h, k => by
    refine wJ7_fill_53178_5S ha ⟨fun c => absurd c (nI_ge (by omega) (by omega)), fun _ => ⟨vp_in_nI (by omega) (by omega), ?_⟩⟩
    rw [nI_1, nI_clamp (by omega)]
    refine tfillIS_loop ha hn m (i + 1) _ (by omega) ?_
    have e : (fun q => if q = a then (fun j => if i + 1 ≤ j ∧ j < n then v else upI I a i v a j) else upI I a i v q) = (fun q => if q = a then (fun j => if i ≤ j ∧ j < n then v else I a j) else I q) := by
      funext q j
      by_cases hq : q = a
      · subst hq
        simp only [if_true, upI_at]
        by_cases hj : j = i
        · subst hj
          simp; omega
        · by_cases h1 : i ≤ j ∧ j < n
          · rw [if_pos (by omega), if_pos h1]
          · rw [if_neg (by omega), if_neg h1, if_neg (by omega)]
      · simp [hq, upI]
    rw [e]
    exact k
theorem tfillIS {S : List aC} {E : aE} {P : hI_ → hJ_ → Prop} {I : hI_} {J : hJ_} {a n : Nat} {v : Int32} (ha : S[a]? = some (.inl (0, n, []))) (hn : n < 2147483648) (k : P (flI I a n v) J) : CallV E mJ7_fill_53178 [.ref a, .int v] S I J P := by
  refine wJ7_fill_53178S ha ?_
  refine tfillIS_loop ha hn n 0 _ (by omega) ?_
  have e : flI I a n v = (fun q => if q = a then (fun j => if 0 ≤ j ∧ j < n then v else I a j) else I q) := by
    funext q j
    simp [flI]
  rw [e] at k
  exact k

theorem clearS {S : List aC} {E : aE} {P : hI_ → hJ_ → Prop} {I : hI_} {J : hJ_} {a b0 b1 b2 b3 b4 b5 : Nat} (ha : S[a]? = some (.inr (3, [b0 + 3, b1 + 3, b2 + 3, b3 + 3, b4 + 3, b5 + 3, 0, 0, 0, 0, 0]))) (h1 : S[b1]? = some (.inl (0, 25, []))) (h5 : S[b5]? = some (.inl (0, 3, []))) (k : P (upI (upI (upI (upI (upI (upI (upI (upI (flI I b1 25 (0 : Int32)) b5 0 (1 : Int32)) b5 1 (2 : Int32)) b5 2 (1 : Int32)) a 6 (0 : Int32)) a 7 (0 : Int32)) a 8 (0 : Int32)) a 9 (0 : Int32)) a 10 (999 : Int32)) J) : CallV E mX3_clear [.ref a] S I J P := by
  refine Call_of (L := [.ref a]) ok_X3_clear.1 rfl rfl ?_
  refine V_aload_n dX3_clear_0 rfl ?_
  refine U_getR dX3_clear_1 fl_X3_15 ha rfl ?_
  refine V_iconst (v := (0 : Int32)) dX3_clear_4 rfl ?_
  refine U_callS0 [.ref b1, .int (0 : Int32)] dX3_clear_5 os_X3_33 ⟨rfl, rfl, rfl⟩ rfl rfl rfl (tfillIS h1 (by decide) ?_)
  refine V_aload_n dX3_clear_8 rfl ?_
  refine U_getR dX3_clear_9 fl_X3_27 ha rfl ?_
  refine V_iconst (v := (0 : Int32)) dX3_clear_12 rfl ?_
  refine V_iconst (v := (1 : Int32)) dX3_clear_13 rfl ?_
  refine U_iast dX3_clear_14 h5 (by unfold vp_in; decide) ?_
  refine V_aload_n dX3_clear_15 rfl ?_
  refine U_getR dX3_clear_16 fl_X3_27 ha rfl ?_
  refine V_iconst (v := (1 : Int32)) dX3_clear_19 rfl ?_
  refine V_iconst (v := (2 : Int32)) dX3_clear_20 rfl ?_
  refine U_iast dX3_clear_21 h5 (by unfold vp_in; decide) ?_
  refine V_aload_n dX3_clear_22 rfl ?_
  refine U_getR dX3_clear_23 fl_X3_27 ha rfl ?_
  refine V_iconst (v := (2 : Int32)) dX3_clear_26 rfl ?_
  refine V_iconst (v := (1 : Int32)) dX3_clear_27 rfl ?_
  refine U_iast dX3_clear_28 h5 (by unfold vp_in; decide) ?_
  refine V_aload_n dX3_clear_29 rfl ?_
  refine V_iconst (v := (0 : Int32)) dX3_clear_30 rfl ?_
  refine U_putI dX3_clear_31 fp_X3_39 ha rfl ?_
  refine V_aload_n dX3_clear_34 rfl ?_
  refine V_iconst (v := (0 : Int32)) dX3_clear_35 rfl ?_
  refine U_putI dX3_clear_36 fp_X3_43 ha rfl ?_
  refine V_aload_n dX3_clear_39 rfl ?_
  refine V_iconst (v := (0 : Int32)) dX3_clear_40 rfl ?_
  refine U_putI dX3_clear_41 fp_X3_46 ha rfl ?_
  refine V_aload_n dX3_clear_44 rfl ?_
  refine V_iconst (v := (0 : Int32)) dX3_clear_45 rfl ?_
  refine U_putI dX3_clear_46 fp_X3_49 ha rfl ?_
  refine V_aload_n dX3_clear_49 rfl ?_
  refine V_sipush (v := (999 : Int32)) dX3_clear_50 rfl ?_
  refine U_putI dX3_clear_53 fp_X3_52 ha rfl ?_
  exact V_vret dX3_clear_56 rfl rfl rfl ⟨_, _, rfl, k⟩
