abbrev hI_ : Type := Nat → Nat → Int32
abbrev hJ_ : Type := Nat → Nat → Int64
def upI (I : hI_) (a i : Nat) (v : Int32) : hI_ := fun b => if b = a then upd (I a) i v else I b
def upJ (J : hJ_) (a i : Nat) (v : Int64) : hJ_ := fun b => if b = a then vp_updL (J a) i v else J b
def cpI (I : hI_) (a b sp dp n : Nat) : hI_ := fun q => if q = b then va_cpy (I a) (I b) sp dp n else I q
def cpJ (J : hJ_) (a b sp dp n : Nat) : hJ_ := fun q => if q = b then va_cpy (J a) (J b) sp dp n else J q
def flI (I : hI_) (a n : Nat) (v : Int32) : hI_ := fun q => if q = a then (fun i => if i < n then v else I a i) else I q
def flJ (J : hJ_) (a n : Nat) (v : Int64) : hJ_ := fun q => if q = a then (fun i => if i < n then v else J a i) else J q
def b2i (p : Prop) [Decidable p] : Int32 := if p then 1 else 0
def kI (S : List aC) (P : Int32 → hI_ → hJ_ → Prop) : Value → aH → Prop := fun r h => ∃ x I J, r = .int x ∧ h = (S, I, J) ∧ P x I J
def kJ (S : List aC) (P : Int64 → hI_ → hJ_ → Prop) : Value → aH → Prop := fun r h => ∃ x I J, r = .long x ∧ h = (S, I, J) ∧ P x I J
def kV (S : List aC) (P : hI_ → hJ_ → Prop) : Value → aH → Prop := fun _ h => ∃ I J, h = (S, I, J) ∧ P I J
def CallI (E : aE) (μ : aM) (avs : List Value) (S : List aC) (I : hI_) (J : hJ_) (P : Int32 → hI_ → hJ_ → Prop) : Prop := Call E μ avs (S, I, J) (kI S P)
def CallJ (E : aE) (μ : aM) (avs : List Value) (S : List aC) (I : hI_) (J : hJ_) (P : Int64 → hI_ → hJ_ → Prop) : Prop := Call E μ avs (S, I, J) (kJ S P)
def CallV (E : aE) (μ : aM) (avs : List Value) (S : List aC) (I : hI_) (J : hJ_) (P : hI_ → hJ_ → Prop) : Prop := Call E μ avs (S, I, J) (kV S P)
theorem CallI_mono {E : aE} {μ : aM} {avs : List Value} {S : List aC} {I : hI_} {J : hJ_} {P Q : Int32 → hI_ → hJ_ → Prop} (c : CallI E μ avs S I J P) (h : ∀ x I J, P x I J → Q x I J) : CallI E μ avs S I J Q := Call_mono c (fun r hh ⟨x, I, J, h1, h2, h3⟩ => ⟨x, I, J, h1, h2, h x I J h3⟩)
theorem CallJ_mono {E : aE} {μ : aM} {avs : List Value} {S : List aC} {I : hI_} {J : hJ_} {P Q : Int64 → hI_ → hJ_ → Prop} (c : CallJ E μ avs S I J P) (h : ∀ x I J, P x I J → Q x I J) : CallJ E μ avs S I J Q := Call_mono c (fun r hh ⟨x, I, J, h1, h2, h3⟩ => ⟨x, I, J, h1, h2, h x I J h3⟩)
theorem CallV_mono {E : aE} {μ : aM} {avs : List Value} {S : List aC} {I : hI_} {J : hJ_} {P Q : hI_ → hJ_ → Prop} (c : CallV E μ avs S I J P) (h : ∀ I J, P I J → Q I J) : CallV E μ avs S I J Q := Call_mono c (fun r hh ⟨I, J, h2, h3⟩ => ⟨I, J, h2, h I J h3⟩)
theorem b2i_0 {p : Prop} [Decidable p] : b2i p = 0 ↔ ¬ p := by unfold b2i; split <;> simp_all
theorem b2i_1 {p : Prop} [Decidable p] : b2i p = 1 ↔ p := by unfold b2i; split <;> simp_all
theorem b2i_z {p : Prop} [Decidable p] : b2i p = 0 ∨ b2i p = 1 := by unfold b2i; split <;> simp
theorem b2i_nar {p : Prop} [Decidable p] : narrow .boolean (.int (b2i p)) = .int (b2i p) := by unfold b2i; split <;> rfl
theorem z_nar {v : Int32} (h : v = 0 ∨ v = 1) : narrow .boolean (.int v) = .int v := by rcases h with rfl | rfl <;> rfl
theorem lgc_lt {x y : Int64} : lg_cmp x y < 0 ↔ x < y := by
  unfold lg_cmp; split
  · rename_i h; constructor
    · intro q; exact absurd q (by decide)
    · intro q; exact absurd q (fun z => by have := Int64.lt_iff_toInt_lt.mp h; have := Int64.lt_iff_toInt_lt.mp z; omega)
  · split
    · rename_i h1 h; subst h; constructor
      · intro q; exact absurd q (by decide)
      · intro q; have := Int64.lt_iff_toInt_lt.mp q; omega
    · rename_i h1 h2; constructor
      · intro _
        have h3 : ¬ y.toInt < x.toInt := fun z => h1 (Int64.lt_iff_toInt_lt.mpr z)
        have h4 : ¬ x.toInt = y.toInt := fun z => h2 (Int64.toInt_inj.mp z)
        exact Int64.lt_iff_toInt_lt.mpr (by omega)
      · intro _; decide
theorem lgc_eq {x y : Int64} : lg_cmp x y = 0 ↔ x = y := by
  unfold lg_cmp; split
  · rename_i h; constructor
    · intro q; exact absurd q (by decide)
    · intro q; subst q; have := Int64.lt_iff_toInt_lt.mp h; omega
  · split
    · rename_i h; exact ⟨fun _ => h, fun _ => rfl⟩
    · rename_i h; exact ⟨fun q => absurd q (by decide), fun q => absurd q h⟩
theorem lgc_gt {x y : Int64} : 0 < lg_cmp x y ↔ y < x := by
  unfold lg_cmp; split
  · rename_i h; exact ⟨fun _ => h, fun _ => by decide⟩
  · rename_i h; split
    · exact ⟨fun q => absurd q (by decide), fun q => absurd q h⟩
    · exact ⟨fun q => absurd q (by decide), fun q => absurd q h⟩
theorem lgc_ge {x y : Int64} : 0 ≤ lg_cmp x y ↔ y ≤ x := by
  rw [← Int32.not_lt, lgc_lt, Int64.not_lt]
theorem lgc_le {x y : Int64} : lg_cmp x y ≤ 0 ↔ x ≤ y := by
  rw [← Int32.not_lt, lgc_gt, Int64.not_lt]
section VR
variable {E : aE} {μ : aM} {K : Value → aH → Prop} {pc npc pc2 tgt : Nat} {L L2 : List Value} {st : List Value} {h : aH} {c : Nat × Nat} {S : List aC} {I : hI_} {J : hJ_}
theorem V_wslots {n : Nat} (hn : Nat.ble c.2 n = true) (k : V E μ K pc L st h (c.1, n)) : V E μ K pc L st h c := by
  intro g p e s m args below meth cd H locs ls hF hW hL
  exact W.widen (Nat.le_refl _) (Nat.le_of_ble_eq_true hn) (k g p e s m args below meth cd H locs ls hF hW hL)
theorem U_istore {i : Nat} {x : Int32} (hd : Dc (M_c μ) pc (.istore i) 2 npc) (hn : i < M_L μ) (hL : aset1 L i (.int x) = L2) (k : V E μ K npc L2 st h c) : V E μ K pc L (.int x :: st) h c := V_istore hd hn (by rw [hL]; exact k)
theorem U_istore_n {i : Fin 4} {x : Int32} (hd : Dc (M_c μ) pc (.istore_n i) 1 npc) (hn : i.1 < M_L μ) (hL : aset1 L i.1 (.int x) = L2) (k : V E μ K npc L2 st h c) : V E μ K pc L (.int x :: st) h c := V_istore_n hd hn (by rw [hL]; exact k)
theorem U_astore {i : Nat} {x : Nat} (hd : Dc (M_c μ) pc (.astore i) 2 npc) (hn : i < M_L μ) (hL : aset1 L i (.ref x) = L2) (k : V E μ K npc L2 st h c) : V E μ K pc L (.ref x :: st) h c := V_astore hd hn (by rw [hL]; exact k)
theorem U_astore_n {i : Fin 4} {x : Nat} (hd : Dc (M_c μ) pc (.astore_n i) 1 npc) (hn : i.1 < M_L μ) (hL : aset1 L i.1 (.ref x) = L2) (k : V E μ K npc L2 st h c) : V E μ K pc L (.ref x :: st) h c := V_astore_n hd hn (by rw [hL]; exact k)
theorem U_lstore {i : Nat} {x : Int64} (hd : Dc (M_c μ) pc (.lstore i) 2 npc) (hn : i + 1 < M_L μ) (hL : aset2 L i (.long x) = L2) (k : V E μ K npc L2 st h c) : V E μ K pc L (.long x :: st) h c := V_lstore hd hn (by rw [hL]; exact k)
theorem U_lstore_n {i : Fin 4} {x : Int64} (hd : Dc (M_c μ) pc (.lstore_n i) 1 npc) (hn : i.1 + 1 < M_L μ) (hL : aset2 L i.1 (.long x) = L2) (k : V E μ K npc L2 st h c) : V E μ K pc L (.long x :: st) h c := V_lstore_n hd hn (by rw [hL]; exact k)
theorem U_iinc {i : Nat} {z : Int} {x v : Int32} (hd : Dc (M_c μ) pc (.iinc i z) 3 npc) (hn : i < M_L μ) (hl : L[i]? = some (.int x)) (hv : x + Int32.ofInt z = v) (hL : aset1 L i (.int v) = L2) (k : V E μ K npc L2 st h c) : V E μ K pc L st h c := V_iinc hd hn hl hv (by rw [hL]; exact k)
theorem U_getI {a idx ci j : Nat} {fs : List Nat} (hd : Dc (M_c μ) pc (.getfield idx) 3 npc) (hf : FL (M_y μ).cls idx ci j) (hs : S[a]? = some (.inr (ci, fs))) (hc : fs[j]? = some (0)) (k : V E μ K npc L (.int (I a j) :: st) (S, I, J) c) : V E μ K pc L (.ref a :: st) (S, I, J) c := V_getI hd hf hs hc k
theorem U_getJ {a idx ci j : Nat} {fs : List Nat} (hd : Dc (M_c μ) pc (.getfield idx) 3 npc) (hf : FL (M_y μ).cls idx ci j) (hs : S[a]? = some (.inr (ci, fs))) (hc : fs[j]? = some (1)) (k : V E μ K npc L (.long (J a j) :: st) (S, I, J) c) : V E μ K pc L (.ref a :: st) (S, I, J) c := V_getJ hd hf hs hc k
theorem U_getR {a idx ci j b : Nat} {fs : List Nat} (hd : Dc (M_c μ) pc (.getfield idx) 3 npc) (hf : FL (M_y μ).cls idx ci j) (hs : S[a]? = some (.inr (ci, fs))) (hc : fs[j]? = some (b + 3)) (k : V E μ K npc L (.ref b :: st) (S, I, J) c) : V E μ K pc L (.ref a :: st) (S, I, J) c := V_getR hd hf hs hc k
theorem U_putI {a idx ci j : Nat} {fs : List Nat} {v : Int32} (hd : Dc (M_c μ) pc (.putfield idx) 3 npc) (hf : FP (M_y μ).cls idx ci j .int) (hs : S[a]? = some (.inr (ci, fs))) (hc : fs[j]? = some 0) (k : V E μ K npc L st (S, upI I a j v, J) c) : V E μ K pc L (.int v :: .ref a :: st) (S, I, J) c := V_putI hd hf hs hc k
theorem U_putZ {a idx ci j : Nat} {fs : List Nat} {v : Int32} (hd : Dc (M_c μ) pc (.putfield idx) 3 npc) (hf : FP (M_y μ).cls idx ci j .boolean) (hv : v = 0 ∨ v = 1) (hs : S[a]? = some (.inr (ci, fs))) (hc : fs[j]? = some 0) (k : V E μ K npc L st (S, upI I a j v, J) c) : V E μ K pc L (.int v :: .ref a :: st) (S, I, J) c := V_putZ hd hf hv hs hc k
theorem U_putJ {a idx ci j : Nat} {fs : List Nat} {v : Int64} (hd : Dc (M_c μ) pc (.putfield idx) 3 npc) (hf : FP (M_y μ).cls idx ci j .long) (hs : S[a]? = some (.inr (ci, fs))) (hc : fs[j]? = some 1) (k : V E μ K npc L st (S, I, upJ J a j v) c) : V E μ K pc L (.long v :: .ref a :: st) (S, I, J) c := V_putJ hd hf hs hc k
theorem U_iald {a n : Nat} {rs : List Nat} {i : Int32} (hd : Dc (M_c μ) pc .iaload 1 npc) (hs : S[a]? = some (.inl (0, n, rs))) (hi : vp_in i n) (k : V E μ K npc L (.int (I a i.toNatClampNeg) :: st) (S, I, J) c) : V E μ K pc L (.int i :: .ref a :: st) (S, I, J) c := V_iald hd hs hi k
theorem U_bald {a n : Nat} {rs : List Nat} {i : Int32} (hd : Dc (M_c μ) pc .baload 1 npc) (hs : S[a]? = some (.inl (1, n, rs))) (hi : vp_in i n) (k : V E μ K npc L (.int (I a i.toNatClampNeg) :: st) (S, I, J) c) : V E μ K pc L (.int i :: .ref a :: st) (S, I, J) c := V_bald hd hs hi k
theorem U_zald {a n : Nat} {rs : List Nat} {i : Int32} (hd : Dc (M_c μ) pc .baload 1 npc) (hs : S[a]? = some (.inl (2, n, rs))) (hi : vp_in i n) (k : V E μ K npc L (.int (I a i.toNatClampNeg) :: st) (S, I, J) c) : V E μ K pc L (.int i :: .ref a :: st) (S, I, J) c := V_zald hd hs hi k
theorem U_lald {a n : Nat} {rs : List Nat} {i : Int32} (hd : Dc (M_c μ) pc .laload 1 npc) (hs : S[a]? = some (.inl (3, n, rs))) (hi : vp_in i n) (k : V E μ K npc L (.long (J a i.toNatClampNeg) :: st) (S, I, J) c) : V E μ K pc L (.int i :: .ref a :: st) (S, I, J) c := V_lald hd hs hi k
theorem U_aald0 {a n b : Nat} {rs : List Nat} {i : Int32} (hd : Dc (M_c μ) pc .aaload 1 npc) (hs : S[a]? = some (.inl (4, n, rs))) (hi : vp_in i n) (hc : rs.getD i.toNatClampNeg 2 = b + 3) (k : V E μ K npc L (.ref b :: st) (S, I, J) c) : V E μ K pc L (.int i :: .ref a :: st) (S, I, J) c := V_aald0 hd hs hi hc k
theorem U_aald1 {a n b : Nat} {rs : List Nat} {i : Int32} (hd : Dc (M_c μ) pc .aaload 1 npc) (hs : S[a]? = some (.inl (5, n, rs))) (hi : vp_in i n) (hc : rs.getD i.toNatClampNeg 2 = b + 3) (k : V E μ K npc L (.ref b :: st) (S, I, J) c) : V E μ K pc L (.int i :: .ref a :: st) (S, I, J) c := V_aald1 hd hs hi hc k
theorem U_iast {a n : Nat} {rs : List Nat} {i v : Int32} (hd : Dc (M_c μ) pc .iastore 1 npc) (hs : S[a]? = some (.inl (0, n, rs))) (hi : vp_in i n) (k : V E μ K npc L st (S, upI I a i.toNatClampNeg v, J) c) : V E μ K pc L (.int v :: .int i :: .ref a :: st) (S, I, J) c := V_iast hd hs hi k
theorem U_bast {a n : Nat} {rs : List Nat} {i v : Int32} (hd : Dc (M_c μ) pc .bastore 1 npc) (hs : S[a]? = some (.inl (1, n, rs))) (hi : vp_in i n) (k : V E μ K npc L st (S, upI I a i.toNatClampNeg v.toInt8.toInt32, J) c) : V E μ K pc L (.int v :: .int i :: .ref a :: st) (S, I, J) c := V_bast hd hs hi k
theorem U_zast {a n : Nat} {rs : List Nat} {i v : Int32} (hd : Dc (M_c μ) pc .bastore 1 npc) (hv : v = 0 ∨ v = 1) (hs : S[a]? = some (.inl (2, n, rs))) (hi : vp_in i n) (k : V E μ K npc L st (S, upI I a i.toNatClampNeg v, J) c) : V E μ K pc L (.int v :: .int i :: .ref a :: st) (S, I, J) c := V_zast hd hs hi (by rw [show vp_nar .boolean v = v by rcases hv with rfl | rfl <;> rfl]; exact k)
theorem U_last {a n : Nat} {rs : List Nat} {i : Int32} {v : Int64} (hd : Dc (M_c μ) pc .lastore 1 npc) (hs : S[a]? = some (.inl (3, n, rs))) (hi : vp_in i n) (k : V E μ K npc L st (S, I, upJ J a i.toNatClampNeg v) c) : V E μ K pc L (.long v :: .int i :: .ref a :: st) (S, I, J) c := V_last hd hs hi k
theorem U_alen {a t n : Nat} {rs : List Nat} {v : Int32} (hd : Dc (M_c μ) pc .arraylength 1 npc) (hs : S[a]? = some (.inl (t, n, rs))) (ht : t < 6) (hv : Int32.ofNat n = v) (k : V E μ K npc L (.int v :: st) (S, I, J) c) : V E μ K pc L (.ref a :: st) (S, I, J) c := V_alen hd hs ht hv k
theorem U_copyI {a b idx n0 n1 : Nat} {r0 r1 : List Nat} {sp dp n : Int32} (hd : Dc (M_c μ) pc (.invokestatic idx) 3 npc) (hl : Cond.methodLink (M_y μ).cls idx arraycopyName ∈ gtb) (hs0 : S[a]? = some (.inl (0, n0, r0))) (hs1 : S[b]? = some (.inl (0, n1, r1))) (h1 : ¬ sp < 0) (h2 : ¬ dp < 0) (h3 : ¬ n < 0) (h4 : sp.toNatClampNeg + n.toNatClampNeg ≤ n0) (h5 : dp.toNatClampNeg + n.toNatClampNeg ≤ n1) (hr : cpok (M_R μ) st = true) (k : V E μ K npc L st (S, cpI I a b sp.toNatClampNeg dp.toNatClampNeg n.toNatClampNeg, J) c) : V E μ K pc L (.int n :: .int dp :: .ref b :: .int sp :: .ref a :: st) (S, I, J) c := V_copyI hd hl hs0 hs1 h1 h2 h3 h4 h5 hr k
theorem U_copyJ {a b idx n0 n1 : Nat} {r0 r1 : List Nat} {sp dp n : Int32} (hd : Dc (M_c μ) pc (.invokestatic idx) 3 npc) (hl : Cond.methodLink (M_y μ).cls idx arraycopyName ∈ gtb) (hs0 : S[a]? = some (.inl (3, n0, r0))) (hs1 : S[b]? = some (.inl (3, n1, r1))) (h1 : ¬ sp < 0) (h2 : ¬ dp < 0) (h3 : ¬ n < 0) (h4 : sp.toNatClampNeg + n.toNatClampNeg ≤ n0) (h5 : dp.toNatClampNeg + n.toNatClampNeg ≤ n1) (hr : cpok (M_R μ) st = true) (k : V E μ K npc L st (S, I, cpJ J a b sp.toNatClampNeg dp.toNatClampNeg n.toNatClampNeg) c) : V E μ K pc L (.int n :: .int dp :: .ref b :: .int sp :: .ref a :: st) (S, I, J) c := V_copyJ hd hl hs0 hs1 h1 h2 h3 h4 h5 hr k
theorem V_c0 {a b : Nat} (ha : a = 0) (hb : b = 0) (k : V E μ K pc L st h c) : V E μ K pc L st h (c.1 + a, c.2 + b) := by subst ha; subst hb; exact k
theorem U_callV0 {idx : Nat} {μ2 : aM} {a : Nat} (As : List Value) (hd : Dc (M_c μ) pc (.invokevirtual idx) 3 npc) (ok : okV (M_y μ).cls idx μ2) {ci : Nat} {fs : List Nat} (hs : S[a]? = some (.inr (ci, fs))) (hci : (CLS[ci]?).map (fun q => q.1) = some (M_y μ2).cls) (hz : M_k μ2 = 0 ∧ (M_R μ2).cells = 0 ∧ (M_R μ2).slots = 0) (hr : rmok (M_R μ) μ2 c = true) (hn : As.length = M_n μ2) (hst : stW st = true) (k : CallV E μ2 (.ref a :: As) S I J (fun I2 J2 => V E μ K npc L (st) (S, I2, J2) c)) : V E μ K pc L (As.reverse ++ .ref a :: st) (S, I, J) c := V_callV0 As hd ok hs hci hz.1 hr hn hst (Call_mono k (fun r h2 ⟨I2, J2, e2, q⟩ => by subst e2; exact V_c0 hz.2.1 hz.2.2 q))
theorem U_callS0 {idx : Nat} {μ2 : aM} (As : List Value) (hd : Dc (M_c μ) pc (.invokestatic idx) 3 npc) (ok : okS (M_y μ).cls idx μ2) (hz : M_k μ2 = 0 ∧ (M_R μ2).cells = 0 ∧ (M_R μ2).slots = 0) (hr : rmok (M_R μ) μ2 c = true) (hn : As.length = M_n μ2) (hst : stW st = true) (k : CallV E μ2 As S I J (fun I2 J2 => V E μ K npc L (st) (S, I2, J2) c)) : V E μ K pc L (As.reverse ++ st) (S, I, J) c := V_callS0 As hd ok hz.1 hr hn hst (Call_mono k (fun r h2 ⟨I2, J2, e2, q⟩ => by subst e2; exact V_c0 hz.2.1 hz.2.2 q))
theorem U_callV1 {idx : Nat} {μ2 : aM} {a : Nat} (As : List Value) (hd : Dc (M_c μ) pc (.invokevirtual idx) 3 npc) (ok : okV (M_y μ).cls idx μ2) {ci : Nat} {fs : List Nat} (hs : S[a]? = some (.inr (ci, fs))) (hci : (CLS[ci]?).map (fun q => q.1) = some (M_y μ2).cls) (hz : M_k μ2 = 1 ∧ (M_R μ2).cells = 0 ∧ (M_R μ2).slots = 0) (hr : rmok (M_R μ) μ2 c = true) (hn : As.length = M_n μ2) (hst : stW st = true) (k : CallI E μ2 (.ref a :: As) S I J (fun x I2 J2 => V E μ K npc L (.int x :: st) (S, I2, J2) c)) : V E μ K pc L (As.reverse ++ .ref a :: st) (S, I, J) c := V_callV1 As hd ok hs hci hz.1 hr hn hst (Call_mono k (fun r h2 ⟨x, I2, J2, e1, e2, q⟩ => by subst e1; subst e2; exact V_c0 hz.2.1 hz.2.2 q))
theorem U_callS1 {idx : Nat} {μ2 : aM} (As : List Value) (hd : Dc (M_c μ) pc (.invokestatic idx) 3 npc) (ok : okS (M_y μ).cls idx μ2) (hz : M_k μ2 = 1 ∧ (M_R μ2).cells = 0 ∧ (M_R μ2).slots = 0) (hr : rmok (M_R μ) μ2 c = true) (hn : As.length = M_n μ2) (hst : stW st = true) (k : CallI E μ2 As S I J (fun x I2 J2 => V E μ K npc L (.int x :: st) (S, I2, J2) c)) : V E μ K pc L (As.reverse ++ st) (S, I, J) c := V_callS1 As hd ok hz.1 hr hn hst (Call_mono k (fun r h2 ⟨x, I2, J2, e1, e2, q⟩ => by subst e1; subst e2; exact V_c0 hz.2.1 hz.2.2 q))
theorem U_callVs {idx : Nat} {μ2 : aM} {j : UInt32} (As : List Value) (hd : Dc (M_c μ) pc (.invokevirtual idx) 3 npc) (ok : okV (M_y μ).cls idx μ2) (hcl : (M_y μ2).cls = "java/lang/String") (hj : j.toNat < 9) (hz : M_k μ2 = 1 ∧ (M_R μ2).cells = 0 ∧ (M_R μ2).slots = 0) (hr : rmok (M_R μ) μ2 c = true) (hn : As.length = M_n μ2) (hst : stW st = true) (k : CallI E μ2 (.float j :: As) S I J (fun x I2 J2 => V E μ K npc L (.int x :: st) (S, I2, J2) c)) : V E μ K pc L (As.reverse ++ .float j :: st) (S, I, J) c := V_callVs As hd ok hcl hj hz.1 hr hn hst (Call_mono k (fun r h2 ⟨x, I2, J2, e1, e2, q⟩ => by subst e1; subst e2; exact V_c0 hz.2.1 hz.2.2 q))
theorem U_callV2 {idx : Nat} {μ2 : aM} {a : Nat} (As : List Value) (hd : Dc (M_c μ) pc (.invokevirtual idx) 3 npc) (ok : okV (M_y μ).cls idx μ2) {ci : Nat} {fs : List Nat} (hs : S[a]? = some (.inr (ci, fs))) (hci : (CLS[ci]?).map (fun q => q.1) = some (M_y μ2).cls) (hz : M_k μ2 = 2 ∧ (M_R μ2).cells = 0 ∧ (M_R μ2).slots = 0) (hr : rmok (M_R μ) μ2 c = true) (hn : As.length = M_n μ2) (hst : stW st = true) (k : CallJ E μ2 (.ref a :: As) S I J (fun x I2 J2 => V E μ K npc L (.long x :: st) (S, I2, J2) c)) : V E μ K pc L (As.reverse ++ .ref a :: st) (S, I, J) c := V_callV2 As hd ok hs hci hz.1 hr hn hst (Call_mono k (fun r h2 ⟨x, I2, J2, e1, e2, q⟩ => by subst e1; subst e2; exact V_c0 hz.2.1 hz.2.2 q))
theorem U_callS2 {idx : Nat} {μ2 : aM} (As : List Value) (hd : Dc (M_c μ) pc (.invokestatic idx) 3 npc) (ok : okS (M_y μ).cls idx μ2) (hz : M_k μ2 = 2 ∧ (M_R μ2).cells = 0 ∧ (M_R μ2).slots = 0) (hr : rmok (M_R μ) μ2 c = true) (hn : As.length = M_n μ2) (hst : stW st = true) (k : CallJ E μ2 As S I J (fun x I2 J2 => V E μ K npc L (.long x :: st) (S, I2, J2) c)) : V E μ K pc L (As.reverse ++ st) (S, I, J) c := V_callS2 As hd ok hz.1 hr hn hst (Call_mono k (fun r h2 ⟨x, I2, J2, e1, e2, q⟩ => by subst e1; subst e2; exact V_c0 hz.2.1 hz.2.2 q))
theorem U_lcmp_eq {off : Int} {x y : Int64} (hd0 : Dc (M_c μ) pc .lcmp 1 pc2) (hd : Dj (M_c μ) pc2 (.ifCond .eq off) 3 npc off tgt) (kt : x = y → V E μ K tgt L st h c) (kf : ¬ (x = y) → V E μ K npc L st h c) : V E μ K pc L (.long y :: .long x :: st) h c := V_lcmp hd0 (V_if_eq hd (fun q => kt (lgc_eq.mp q)) (fun q => kf (fun z => q (lgc_eq.mpr z))))
theorem U_lcmp_ne {off : Int} {x y : Int64} (hd0 : Dc (M_c μ) pc .lcmp 1 pc2) (hd : Dj (M_c μ) pc2 (.ifCond .ne off) 3 npc off tgt) (kt : ¬ x = y → V E μ K tgt L st h c) (kf : ¬ (¬ x = y) → V E μ K npc L st h c) : V E μ K pc L (.long y :: .long x :: st) h c := V_lcmp hd0 (V_if_ne hd (fun q => kt (fun z => q (lgc_eq.mpr z))) (fun q => kf (fun z => z (lgc_eq.mp q))))
theorem U_lcmp_lt {off : Int} {x y : Int64} (hd0 : Dc (M_c μ) pc .lcmp 1 pc2) (hd : Dj (M_c μ) pc2 (.ifCond .lt off) 3 npc off tgt) (kt : x < y → V E μ K tgt L st h c) (kf : ¬ (x < y) → V E μ K npc L st h c) : V E μ K pc L (.long y :: .long x :: st) h c := V_lcmp hd0 (V_if_lt hd (fun q => kt (lgc_lt.mp q)) (fun q => kf (fun z => q (lgc_lt.mpr z))))
theorem U_lcmp_ge {off : Int} {x y : Int64} (hd0 : Dc (M_c μ) pc .lcmp 1 pc2) (hd : Dj (M_c μ) pc2 (.ifCond .ge off) 3 npc off tgt) (kt : y ≤ x → V E μ K tgt L st h c) (kf : ¬ (y ≤ x) → V E μ K npc L st h c) : V E μ K pc L (.long y :: .long x :: st) h c := V_lcmp hd0 (V_if_ge hd (fun q => kt (lgc_ge.mp q)) (fun q => kf (fun z => q (lgc_ge.mpr z))))
theorem U_lcmp_gt {off : Int} {x y : Int64} (hd0 : Dc (M_c μ) pc .lcmp 1 pc2) (hd : Dj (M_c μ) pc2 (.ifCond .gt off) 3 npc off tgt) (kt : y < x → V E μ K tgt L st h c) (kf : ¬ (y < x) → V E μ K npc L st h c) : V E μ K pc L (.long y :: .long x :: st) h c := V_lcmp hd0 (V_if_gt hd (fun q => kt (lgc_gt.mp q)) (fun q => kf (fun z => q (lgc_gt.mpr z))))
theorem U_lcmp_le {off : Int} {x y : Int64} (hd0 : Dc (M_c μ) pc .lcmp 1 pc2) (hd : Dj (M_c μ) pc2 (.ifCond .le off) 3 npc off tgt) (kt : x ≤ y → V E μ K tgt L st h c) (kf : ¬ (x ≤ y) → V E μ K npc L st h c) : V E μ K pc L (.long y :: .long x :: st) h c := V_lcmp hd0 (V_if_le hd (fun q => kt (lgc_le.mp q)) (fun q => kf (fun z => q (lgc_le.mpr z))))
theorem U_ifb_eq {off : Int} {p : Prop} [Decidable p] (hd : Dj (M_c μ) pc (.ifCond .eq off) 3 npc off tgt) (kt : ¬ p → V E μ K tgt L st h c) (kf : p → V E μ K npc L st h c) : V E μ K pc L (.int (b2i p) :: st) h c := V_if_eq hd (fun q => kt (b2i_0.mp q)) (fun q => kf (Decidable.of_not_not (fun z => q (b2i_0.mpr z))))
theorem U_ifb_ne {off : Int} {p : Prop} [Decidable p] (hd : Dj (M_c μ) pc (.ifCond .ne off) 3 npc off tgt) (kt : p → V E μ K tgt L st h c) (kf : ¬ p → V E μ K npc L st h c) : V E μ K pc L (.int (b2i p) :: st) h c := V_if_ne hd (fun q => kt (Decidable.of_not_not (fun z => q (b2i_0.mpr z)))) (fun q => kf (b2i_0.mp q))
end VR
def SH : List aC := [.inr (11, [4, 6, 13, 20, 21, 24, 31, 32, 39, 43, 45, 48, 0, 0]), .inr (8, [5, 0, 0, 0, 0, 0]), .inl (1, 320, []), .inr (3, [7, 8, 9, 10, 11, 12, 0, 0, 0, 0, 0]), .inl (0, 5, []), .inl (0, 25, []), .inl (0, 12, []), .inl (0, 12, []), .inl (0, 12, []), .inl (0, 3, []), .inr (3, [14, 15, 16, 17, 18, 19, 0, 0, 0, 0, 0]), .inl (0, 5, []), .inl (0, 25, []), .inl (0, 12, []), .inl (0, 12, []), .inl (0, 12, []), .inl (0, 3, []), .inr (4, [4, 13, 0, 0, 0, 0, 0]), .inr (2, [6, 22, 23]), .inl (0, 5, []), .inl (0, 5, []), .inr (1, [6, 25, 27, 29, 0]), .inr (5, [0, 0, 26, 0]), .inl (0, 72, []), .inr (5, [0, 0, 28, 0]), .inl (0, 96, []), .inr (5, [0, 0, 30, 0]), .inl (0, 120, []), .inl (4, 2, [49, 56]), .inr (7, [6, 21, 27, 29, 24, 33, 34, 35, 36, 37, 38, 0]), .inl (0, 24, []), .inl (0, 24, []), .inl (0, 24, []), .inl (0, 12, []), .inl (0, 12, []), .inl (0, 12, []), .inr (0, [21, 27, 40, 41, 42, 0, 0]), .inl (0, 12, []), .inl (0, 12, []), .inl (0, 12, []), .inr (9, [6, 21, 44]), .inl (0, 5, []), .inr (10, [6, 46, 47]), .inl (3, 25, []), .inl (3, 25, []), .inl (5, 4, [63, 65, 67, 69]), .inr (1, [6, 50, 52, 54, 0]), .inr (5, [0, 0, 51, 0]), .inl (0, 72, []), .inr (5, [0, 0, 53, 0]), .inl (0, 96, []), .inr (5, [0, 0, 55, 0]), .inl (0, 120, []), .inr (1, [6, 57, 59, 61, 0]), .inr (5, [0, 0, 58, 0]), .inl (0, 72, []), .inr (5, [0, 0, 60, 0]), .inl (0, 96, []), .inr (5, [0, 0, 62, 0]), .inl (0, 120, []), .inr (6, [64, 0, 0]), .inl (0, 40, []), .inr (6, [66, 0, 0]), .inl (0, 40, []), .inr (6, [68, 0, 0]), .inl (0, 40, []), .inr (6, [70, 0, 0]), .inl (0, 40, []), .inr (12, [72, 0, 0, 0, 0, 0, 0, 0, 0, 73, 74, 75, 76, 77, 78, 79, 80, 81, 82, 83, 0, 84, 85, 86, 87, 88, 89, 90, 0, 0, 91, 92, 1, 93, 94, 95, 96, 0]), .inl (0, 320, []), .inl (0, 10, []), .inl (0, 40, []), .inl (0, 8, []), .inl (0, 8, []), .inl (0, 5, []), .inl (0, 25, []), .inl (0, 48, []), .inl (0, 8, []), .inl (0, 5, []), .inl (0, 25, []), .inl (0, 48, []), .inl (0, 5, []), .inl (0, 900, []), .inl (0, 24, []), .inl (0, 24, []), .inl (2, 24, []), .inl (2, 24, []), .inl (0, 12, []), .inl (3, 25, []), .inl (3, 25, []), .inl (2, 2, []), .inl (0, 4, []), .inl (0, 4, []), .inl (0, 160, [])]
theorem s_0 : SH[0]? = some (.inr (11, [4, 6, 13, 20, 21, 24, 31, 32, 39, 43, 45, 48, 0, 0])) := rfl
theorem s_1 : SH[1]? = some (.inr (8, [5, 0, 0, 0, 0, 0])) := rfl
theorem s_2 : SH[2]? = some (.inl (1, 320, [])) := rfl
theorem s_3 : SH[3]? = some (.inr (3, [7, 8, 9, 10, 11, 12, 0, 0, 0, 0, 0])) := rfl
theorem s_4 : SH[4]? = some (.inl (0, 5, [])) := rfl
theorem s_5 : SH[5]? = some (.inl (0, 25, [])) := rfl
theorem s_6 : SH[6]? = some (.inl (0, 12, [])) := rfl
theorem s_7 : SH[7]? = some (.inl (0, 12, [])) := rfl
theorem s_8 : SH[8]? = some (.inl (0, 12, [])) := rfl
theorem s_9 : SH[9]? = some (.inl (0, 3, [])) := rfl
theorem s_10 : SH[10]? = some (.inr (3, [14, 15, 16, 17, 18, 19, 0, 0, 0, 0, 0])) := rfl
theorem s_11 : SH[11]? = some (.inl (0, 5, [])) := rfl
theorem s_12 : SH[12]? = some (.inl (0, 25, [])) := rfl
theorem s_13 : SH[13]? = some (.inl (0, 12, [])) := rfl
theorem s_14 : SH[14]? = some (.inl (0, 12, [])) := rfl
theorem s_15 : SH[15]? = some (.inl (0, 12, [])) := rfl
theorem s_16 : SH[16]? = some (.inl (0, 3, [])) := rfl
theorem s_17 : SH[17]? = some (.inr (4, [4, 13, 0, 0, 0, 0, 0])) := rfl
theorem s_18 : SH[18]? = some (.inr (2, [6, 22, 23])) := rfl
theorem s_19 : SH[19]? = some (.inl (0, 5, [])) := rfl
theorem s_20 : SH[20]? = some (.inl (0, 5, [])) := rfl
theorem s_21 : SH[21]? = some (.inr (1, [6, 25, 27, 29, 0])) := rfl
theorem s_22 : SH[22]? = some (.inr (5, [0, 0, 26, 0])) := rfl
theorem s_23 : SH[23]? = some (.inl (0, 72, [])) := rfl
theorem s_24 : SH[24]? = some (.inr (5, [0, 0, 28, 0])) := rfl
theorem s_25 : SH[25]? = some (.inl (0, 96, [])) := rfl
theorem s_26 : SH[26]? = some (.inr (5, [0, 0, 30, 0])) := rfl
theorem s_27 : SH[27]? = some (.inl (0, 120, [])) := rfl
theorem s_28 : SH[28]? = some (.inl (4, 2, [49, 56])) := rfl
theorem s_29 : SH[29]? = some (.inr (7, [6, 21, 27, 29, 24, 33, 34, 35, 36, 37, 38, 0])) := rfl
theorem s_30 : SH[30]? = some (.inl (0, 24, [])) := rfl
theorem s_31 : SH[31]? = some (.inl (0, 24, [])) := rfl
theorem s_32 : SH[32]? = some (.inl (0, 24, [])) := rfl
theorem s_33 : SH[33]? = some (.inl (0, 12, [])) := rfl
theorem s_34 : SH[34]? = some (.inl (0, 12, [])) := rfl
theorem s_35 : SH[35]? = some (.inl (0, 12, [])) := rfl
theorem s_36 : SH[36]? = some (.inr (0, [21, 27, 40, 41, 42, 0, 0])) := rfl
theorem s_37 : SH[37]? = some (.inl (0, 12, [])) := rfl
theorem s_38 : SH[38]? = some (.inl (0, 12, [])) := rfl
theorem s_39 : SH[39]? = some (.inl (0, 12, [])) := rfl
theorem s_40 : SH[40]? = some (.inr (9, [6, 21, 44])) := rfl
theorem s_41 : SH[41]? = some (.inl (0, 5, [])) := rfl
theorem s_42 : SH[42]? = some (.inr (10, [6, 46, 47])) := rfl
theorem s_43 : SH[43]? = some (.inl (3, 25, [])) := rfl
theorem s_44 : SH[44]? = some (.inl (3, 25, [])) := rfl
theorem s_45 : SH[45]? = some (.inl (5, 4, [63, 65, 67, 69])) := rfl
theorem s_46 : SH[46]? = some (.inr (1, [6, 50, 52, 54, 0])) := rfl
theorem s_47 : SH[47]? = some (.inr (5, [0, 0, 51, 0])) := rfl
theorem s_48 : SH[48]? = some (.inl (0, 72, [])) := rfl
theorem s_49 : SH[49]? = some (.inr (5, [0, 0, 53, 0])) := rfl
theorem s_50 : SH[50]? = some (.inl (0, 96, [])) := rfl
theorem s_51 : SH[51]? = some (.inr (5, [0, 0, 55, 0])) := rfl
theorem s_52 : SH[52]? = some (.inl (0, 120, [])) := rfl
theorem s_53 : SH[53]? = some (.inr (1, [6, 57, 59, 61, 0])) := rfl
theorem s_54 : SH[54]? = some (.inr (5, [0, 0, 58, 0])) := rfl
theorem s_55 : SH[55]? = some (.inl (0, 72, [])) := rfl
theorem s_56 : SH[56]? = some (.inr (5, [0, 0, 60, 0])) := rfl
theorem s_57 : SH[57]? = some (.inl (0, 96, [])) := rfl
theorem s_58 : SH[58]? = some (.inr (5, [0, 0, 62, 0])) := rfl
theorem s_59 : SH[59]? = some (.inl (0, 120, [])) := rfl
theorem s_60 : SH[60]? = some (.inr (6, [64, 0, 0])) := rfl
theorem s_61 : SH[61]? = some (.inl (0, 40, [])) := rfl
theorem s_62 : SH[62]? = some (.inr (6, [66, 0, 0])) := rfl
theorem s_63 : SH[63]? = some (.inl (0, 40, [])) := rfl
theorem s_64 : SH[64]? = some (.inr (6, [68, 0, 0])) := rfl
theorem s_65 : SH[65]? = some (.inl (0, 40, [])) := rfl
theorem s_66 : SH[66]? = some (.inr (6, [70, 0, 0])) := rfl
theorem s_67 : SH[67]? = some (.inl (0, 40, [])) := rfl
theorem s_68 : SH[68]? = some (.inr (12, [72, 0, 0, 0, 0, 0, 0, 0, 0, 73, 74, 75, 76, 77, 78, 79, 80, 81, 82, 83, 0, 84, 85, 86, 87, 88, 89, 90, 0, 0, 91, 92, 1, 93, 94, 95, 96, 0])) := rfl
theorem s_69 : SH[69]? = some (.inl (0, 320, [])) := rfl
theorem s_70 : SH[70]? = some (.inl (0, 10, [])) := rfl
theorem s_71 : SH[71]? = some (.inl (0, 40, [])) := rfl
theorem s_72 : SH[72]? = some (.inl (0, 8, [])) := rfl
theorem s_73 : SH[73]? = some (.inl (0, 8, [])) := rfl
theorem s_74 : SH[74]? = some (.inl (0, 5, [])) := rfl
theorem s_75 : SH[75]? = some (.inl (0, 25, [])) := rfl
theorem s_76 : SH[76]? = some (.inl (0, 48, [])) := rfl
theorem s_77 : SH[77]? = some (.inl (0, 8, [])) := rfl
theorem s_78 : SH[78]? = some (.inl (0, 5, [])) := rfl
theorem s_79 : SH[79]? = some (.inl (0, 25, [])) := rfl
theorem s_80 : SH[80]? = some (.inl (0, 48, [])) := rfl
theorem s_81 : SH[81]? = some (.inl (0, 5, [])) := rfl
theorem s_82 : SH[82]? = some (.inl (0, 900, [])) := rfl
theorem s_83 : SH[83]? = some (.inl (0, 24, [])) := rfl
theorem s_84 : SH[84]? = some (.inl (0, 24, [])) := rfl
theorem s_85 : SH[85]? = some (.inl (2, 24, [])) := rfl
theorem s_86 : SH[86]? = some (.inl (2, 24, [])) := rfl
theorem s_87 : SH[87]? = some (.inl (0, 12, [])) := rfl
theorem s_88 : SH[88]? = some (.inl (3, 25, [])) := rfl
theorem s_89 : SH[89]? = some (.inl (3, 25, [])) := rfl
theorem s_90 : SH[90]? = some (.inl (2, 2, [])) := rfl
theorem s_91 : SH[91]? = some (.inl (0, 4, [])) := rfl
theorem s_92 : SH[92]? = some (.inl (0, 4, [])) := rfl
theorem s_93 : SH[93]? = some (.inl (0, 160, [])) := rfl
