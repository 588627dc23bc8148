theorem bok_0 : bok 0 7 := bok_of (by decide +kernel)
theorem bok_1 : bok 1 5 := bok_of (by decide +kernel)
theorem bok_2 : bok 2 3 := bok_of (by decide +kernel)
theorem bok_3 : bok 3 11 := bok_of (by decide +kernel)
theorem bok_4 : bok 4 7 := bok_of (by decide +kernel)
theorem bok_5 : bok 5 4 := bok_of (by decide +kernel)
theorem bok_6 : bok 6 3 := bok_of (by decide +kernel)
theorem bok_7 : bok 7 12 := bok_of (by decide +kernel)
theorem bok_8 : bok 8 6 := bok_of (by decide +kernel)
theorem bok_9 : bok 9 3 := bok_of (by decide +kernel)
theorem bok_10 : bok 10 3 := bok_of (by decide +kernel)
theorem bok_11 : bok 11 14 := bok_of (by decide +kernel)
theorem bok_12 : bok 12 38 := bok_of (by decide +kernel)
def zs0 : List aC := [.inr (11, bfs 11 14)]
def zs1 : List aC := zs0 ++ [.inr (8, bfs 8 6)]
def zs2 : List aC := zs1 ++ [.inl (1, 320, [])]
def zs3 : List aC := pR zs2 1 0 (2 + 3)
theorem nX8_init_1 {E : aE} {P : hI_ → hJ_ → Prop} {I : hI_} {J : hJ_} (hZ : ZA 2 I J) (k : P (I) J) : CallN E mX8_init [.ref 1] zs1 I J zs3 P := by
  refine Call_of (L := [.ref 1]) ok_X8_init.1 rfl rfl ?_
  refine V_aload_n dX8_init_0 rfl ?_
  refine V_oinit dX8_init_1 oo_X8_3 rfl ?_
  refine V_aload_n dX8_init_4 rfl ?_
  refine V_sipush (v := (320 : Int32)) dX8_init_5 rfl ?_
  refine N_newB (S2 := zs2) (N := 320) (a := 2) dX8_init_8 (by decide) (by decide) (by decide) rfl (by decide +kernel) hZ rfl ?_
  refine N_putFR (S2 := zs3) dX8_init_10 ff_X8_9 rfl rfl (show zs2[1]? = some (.inr (8, [2, 0, 0, 0, 0, 0])) by decide +kernel) rfl rfl ?_
  exact V_vret dX8_init_13 rfl rfl rfl ⟨_, _, rfl, k⟩
theorem nX8_init_1z {I : hI_} {J : hJ_} (hZ : ZA 2 I J) : ZA 3 (I) J := (ZA_mono (M := 3) (by decide) hZ)
def zs4 : List aC := pR zs3 0 0 (1 + 3)
theorem nX11_2 {E : aE} {K : Value → aH → Prop} {I : hI_} {J : hJ_} (hZ : ZA 1 I J) (k : V E mX11_init K 15 [.ref 0, .retAddr 0] [] (zs4, I, J) (2, 326)) : V E mX11_init K 0 [.ref 0, .retAddr 0] [] (zs0, I, J) (0, 0) := by
  refine V_aload_n dX11_init_0 rfl ?_
  refine V_oinit dX11_init_1 oo_X11_1 rfl ?_
  refine V_aload_n dX11_init_4 rfl ?_
  refine N_new (S2 := zs1) (a := 1) dX11_init_5 rfl (gt_1 29 rfl rfl) (gt_1 30 rfl rfl) (gt_1 2 rfl rfl) bok_8 rfl (by decide +kernel) hZ rfl ?_
  refine V_dupR dX11_init_8 ?_
  refine N_callN0 (S2 := zs3) [] dX11_init_9 rfl rfl ok_X8_init (gt_1 32 rfl rfl) rfl rfl rfl rfl rfl (nX8_init_1 (ZA_mono (M := 2) (by decide) hZ) ?_)
  refine N_putFR (S2 := zs4) dX11_init_12 ff_X11_10 rfl rfl (show zs3[0]? = some (.inr (11, [2, 2, 2, 2, 2, 2, 2, 2, 2, 2, 2, 2, 0, 0])) by decide +kernel) rfl rfl ?_
  exact k
theorem nX11_2z {I : hI_} {J : hJ_} (hZ : ZA 1 I J) : ZA 3 (I) J := (ZA_mono (M := 3) (by decide) hZ)
def zs5 : List aC := zs4 ++ [.inr (3, bfs 3 11)]
def zs6 : List aC := zs5 ++ [.inl (0, 5, [])]
def zs7 : List aC := pR zs6 3 0 (4 + 3)
def zs8 : List aC := zs7 ++ [.inl (0, 25, [])]
def zs9 : List aC := pR zs8 3 1 (5 + 3)
def zs10 : List aC := zs9 ++ [.inl (0, 12, [])]
def zs11 : List aC := pR zs10 3 2 (6 + 3)
def zs12 : List aC := zs11 ++ [.inl (0, 12, [])]
def zs13 : List aC := pR zs12 3 3 (7 + 3)
def zs14 : List aC := zs13 ++ [.inl (0, 12, [])]
def zs15 : List aC := pR zs14 3 4 (8 + 3)
def zs16 : List aC := zs15 ++ [.inl (0, 3, [])]
def zs17 : List aC := pR zs16 3 5 (9 + 3)
theorem nX3_init_3 {E : aE} {P : hI_ → hJ_ → Prop} {I : hI_} {J : hJ_} (hZ : ZA 4 I J) (k : P (upI (upI (upI (upI (upI (upI (upI (upI (flI I 5 25 (0 : Int32)) 9 0 (1 : Int32)) 9 1 (2 : Int32)) 9 2 (1 : Int32)) 3 6 (0 : Int32)) 3 7 (0 : Int32)) 3 8 (0 : Int32)) 3 9 (0 : Int32)) 3 10 (999 : Int32)) J) : CallN E mX3_init [.ref 3] zs5 I J zs17 P := by
  refine Call_of (L := [.ref 3]) ok_X3_init.1 rfl rfl ?_
  refine V_aload_n dX3_init_0 rfl ?_
  refine V_oinit dX3_init_1 oo_X3_3 rfl ?_
  refine V_aload_n dX3_init_4 rfl ?_
  refine V_iconst (v := (5 : Int32)) dX3_init_5 rfl ?_
  refine N_newI (S2 := zs6) (N := 5) (a := 4) dX3_init_6 (by decide) (by decide) (by decide) rfl (by decide +kernel) hZ rfl ?_
  refine N_putFR (S2 := zs7) dX3_init_8 ff_X3_9 rfl rfl (show zs6[3]? = some (.inr (3, [2, 2, 2, 2, 2, 2, 0, 0, 0, 0, 0])) by decide +kernel) rfl rfl ?_
  refine V_aload_n dX3_init_11 rfl ?_
  refine V_bipush (v := (25 : Int32)) dX3_init_12 rfl ?_
  refine N_newI (S2 := zs8) (N := 25) (a := 5) dX3_init_14 (by decide) (by decide) (by decide) rfl (by decide +kernel) (ZA_mono (M := 5) (by decide) hZ) rfl ?_
  refine N_putFR (S2 := zs9) dX3_init_16 ff_X3_15 rfl rfl (show zs8[3]? = some (.inr (3, [7, 2, 2, 2, 2, 2, 0, 0, 0, 0, 0])) by decide +kernel) rfl rfl ?_
  refine V_aload_n dX3_init_19 rfl ?_
  refine V_bipush (v := (12 : Int32)) dX3_init_20 rfl ?_
  refine N_newI (S2 := zs10) (N := 12) (a := 6) dX3_init_22 (by decide) (by decide) (by decide) rfl (by decide +kernel) (ZA_mono (M := 6) (by decide) hZ) rfl ?_
  refine N_putFR (S2 := zs11) dX3_init_24 ff_X3_18 rfl rfl (show zs10[3]? = some (.inr (3, [7, 8, 2, 2, 2, 2, 0, 0, 0, 0, 0])) by decide +kernel) rfl rfl ?_
  refine V_aload_n dX3_init_27 rfl ?_
  refine V_bipush (v := (12 : Int32)) dX3_init_28 rfl ?_
  refine N_newI (S2 := zs12) (N := 12) (a := 7) dX3_init_30 (by decide) (by decide) (by decide) rfl (by decide +kernel) (ZA_mono (M := 7) (by decide) hZ) rfl ?_
  refine N_putFR (S2 := zs13) dX3_init_32 ff_X3_21 rfl rfl (show zs12[3]? = some (.inr (3, [7, 8, 9, 2, 2, 2, 0, 0, 0, 0, 0])) by decide +kernel) rfl rfl ?_
  refine V_aload_n dX3_init_35 rfl ?_
  refine V_bipush (v := (12 : Int32)) dX3_init_36 rfl ?_
  refine N_newI (S2 := zs14) (N := 12) (a := 8) dX3_init_38 (by decide) (by decide) (by decide) rfl (by decide +kernel) (ZA_mono (M := 8) (by decide) hZ) rfl ?_
  refine N_putFR (S2 := zs15) dX3_init_40 ff_X3_24 rfl rfl (show zs14[3]? = some (.inr (3, [7, 8, 9, 10, 2, 2, 0, 0, 0, 0, 0])) by decide +kernel) rfl rfl ?_
  refine V_aload_n dX3_init_43 rfl ?_
  refine V_iconst (v := (3 : Int32)) dX3_init_44 rfl ?_
  refine N_newI (S2 := zs16) (N := 3) (a := 9) dX3_init_45 (by decide) (by decide) (by decide) rfl (by decide +kernel) (ZA_mono (M := 9) (by decide) hZ) rfl ?_
  refine N_putFR (S2 := zs17) dX3_init_47 ff_X3_27 rfl rfl (show zs16[3]? = some (.inr (3, [7, 8, 9, 10, 11, 2, 0, 0, 0, 0, 0])) by decide +kernel) rfl rfl ?_
  refine V_aload_n dX3_init_50 rfl ?_
  refine U_callV0 [] dX3_init_51 ov_X3_30 (show zs17[3]? = some (.inr (3, [7, 8, 9, 10, 11, 12, 0, 0, 0, 0, 0])) by decide +kernel) rfl ⟨rfl, rfl, rfl⟩ rfl rfl rfl (clearS (a := 3) (b0 := 4) (b1 := 5) (b2 := 6) (b3 := 7) (b4 := 8) (b5 := 9) (show zs17[3]? = some (.inr (3, [7, 8, 9, 10, 11, 12, 0, 0, 0, 0, 0])) by decide +kernel) (show zs17[5]? = some (.inl (0, 25, [])) by decide +kernel) (show zs17[9]? = some (.inl (0, 3, [])) by decide +kernel) ?_)
  exact V_vret dX3_init_54 rfl rfl rfl ⟨_, _, rfl, k⟩
theorem nX3_init_3z {I : hI_} {J : hJ_} (hZ : ZA 4 I J) : ZA 10 (upI (upI (upI (upI (upI (upI (upI (upI (flI I 5 25 (0 : Int32)) 9 0 (1 : Int32)) 9 1 (2 : Int32)) 9 2 (1 : Int32)) 3 6 (0 : Int32)) 3 7 (0 : Int32)) 3 8 (0 : Int32)) 3 9 (0 : Int32)) 3 10 (999 : Int32)) J := (ZA_up (by decide) (ZA_up (by decide) (ZA_up (by decide) (ZA_up (by decide) (ZA_up (by decide) (ZA_up (by decide) (ZA_up (by decide) (ZA_up (by decide) (ZA_fl (by decide) (ZA_mono (M := 10) (by decide) hZ))))))))))
def zs18 : List aC := pR zs17 0 1 (3 + 3)
theorem nX11_4 {E : aE} {K : Value → aH → Prop} {I : hI_} {J : hJ_} (hZ : ZA 3 I J) (k : V E mX11_init K 26 [.ref 0, .retAddr 0] [] (zs18, upI (upI (upI (upI (upI (upI (upI (upI (flI I 5 25 (0 : Int32)) 9 0 (1 : Int32)) 9 1 (2 : Int32)) 9 2 (1 : Int32)) 3 6 (0 : Int32)) 3 7 (0 : Int32)) 3 8 (0 : Int32)) 3 9 (0 : Int32)) 3 10 (999 : Int32), J) (9, 406)) : V E mX11_init K 15 [.ref 0, .retAddr 0] [] (zs4, I, J) (2, 326) := by
  refine V_aload_n dX11_init_15 rfl ?_
  refine N_new (S2 := zs5) (a := 3) dX11_init_16 rfl (gt_1 60 rfl rfl) (gt_1 61 rfl rfl) (gt_1 3 rfl rfl) bok_3 rfl (by decide +kernel) hZ rfl ?_
  refine V_dupR dX11_init_19 ?_
  refine N_callI0 (S2 := zs17) [] dX11_init_20 oi_X11_18 rfl rfl rfl rfl rfl (nX3_init_3 (ZA_mono (M := 4) (by decide) hZ) ?_)
  refine N_putFR (S2 := zs18) dX11_init_23 ff_X11_19 rfl rfl (show zs17[0]? = some (.inr (11, [4, 2, 2, 2, 2, 2, 2, 2, 2, 2, 2, 2, 0, 0])) by decide +kernel) rfl rfl ?_
  exact k
theorem nX11_4z {I : hI_} {J : hJ_} (hZ : ZA 3 I J) : ZA 10 (upI (upI (upI (upI (upI (upI (upI (upI (flI I 5 25 (0 : Int32)) 9 0 (1 : Int32)) 9 1 (2 : Int32)) 9 2 (1 : Int32)) 3 6 (0 : Int32)) 3 7 (0 : Int32)) 3 8 (0 : Int32)) 3 9 (0 : Int32)) 3 10 (999 : Int32)) J := (ZA_up (by decide) (ZA_up (by decide) (ZA_up (by decide) (ZA_up (by decide) (ZA_up (by decide) (ZA_up (by decide) (ZA_up (by decide) (ZA_up (by decide) (ZA_fl (by decide) (ZA_mono (M := 10) (by decide) hZ))))))))))
def zs19 : List aC := zs18 ++ [.inr (3, bfs 3 11)]
def zs20 : List aC := zs19 ++ [.inl (0, 5, [])]
def zs21 : List aC := pR zs20 10 0 (11 + 3)
def zs22 : List aC := zs21 ++ [.inl (0, 25, [])]
def zs23 : List aC := pR zs22 10 1 (12 + 3)
def zs24 : List aC := zs23 ++ [.inl (0, 12, [])]
def zs25 : List aC := pR zs24 10 2 (13 + 3)
def zs26 : List aC := zs25 ++ [.inl (0, 12, [])]
def zs27 : List aC := pR zs26 10 3 (14 + 3)
def zs28 : List aC := zs27 ++ [.inl (0, 12, [])]
def zs29 : List aC := pR zs28 10 4 (15 + 3)
def zs30 : List aC := zs29 ++ [.inl (0, 3, [])]
def zs31 : List aC := pR zs30 10 5 (16 + 3)
theorem nX3_init_5 {E : aE} {P : hI_ → hJ_ → Prop} {I : hI_} {J : hJ_} (hZ : ZA 11 I J) (k : P (upI (upI (upI (upI (upI (upI (upI (upI (flI I 12 25 (0 : Int32)) 16 0 (1 : Int32)) 16 1 (2 : Int32)) 16 2 (1 : Int32)) 10 6 (0 : Int32)) 10 7 (0 : Int32)) 10 8 (0 : Int32)) 10 9 (0 : Int32)) 10 10 (999 : Int32)) J) : CallN E mX3_init [.ref 10] zs19 I J zs31 P := by
  refine Call_of (L := [.ref 10]) ok_X3_init.1 rfl rfl ?_
  refine V_aload_n dX3_init_0 rfl ?_
  refine V_oinit dX3_init_1 oo_X3_3 rfl ?_
  refine V_aload_n dX3_init_4 rfl ?_
  refine V_iconst (v := (5 : Int32)) dX3_init_5 rfl ?_
  refine N_newI (S2 := zs20) (N := 5) (a := 11) dX3_init_6 (by decide) (by decide) (by decide) rfl (by decide +kernel) hZ rfl ?_
  refine N_putFR (S2 := zs21) dX3_init_8 ff_X3_9 rfl rfl (show zs20[10]? = some (.inr (3, [2, 2, 2, 2, 2, 2, 0, 0, 0, 0, 0])) by decide +kernel) rfl rfl ?_
  refine V_aload_n dX3_init_11 rfl ?_
  refine V_bipush (v := (25 : Int32)) dX3_init_12 rfl ?_
  refine N_newI (S2 := zs22) (N := 25) (a := 12) dX3_init_14 (by decide) (by decide) (by decide) rfl (by decide +kernel) (ZA_mono (M := 12) (by decide) hZ) rfl ?_
  refine N_putFR (S2 := zs23) dX3_init_16 ff_X3_15 rfl rfl (show zs22[10]? = some (.inr (3, [14, 2, 2, 2, 2, 2, 0, 0, 0, 0, 0])) by decide +kernel) rfl rfl ?_
  refine V_aload_n dX3_init_19 rfl ?_
  refine V_bipush (v := (12 : Int32)) dX3_init_20 rfl ?_
  refine N_newI (S2 := zs24) (N := 12) (a := 13) dX3_init_22 (by decide) (by decide) (by decide) rfl (by decide +kernel) (ZA_mono (M := 13) (by decide) hZ) rfl ?_
  refine N_putFR (S2 := zs25) dX3_init_24 ff_X3_18 rfl rfl (show zs24[10]? = some (.inr (3, [14, 15, 2, 2, 2, 2, 0, 0, 0, 0, 0])) by decide +kernel) rfl rfl ?_
  refine V_aload_n dX3_init_27 rfl ?_
  refine V_bipush (v := (12 : Int32)) dX3_init_28 rfl ?_
  refine N_newI (S2 := zs26) (N := 12) (a := 14) dX3_init_30 (by decide) (by decide) (by decide) rfl (by decide +kernel) (ZA_mono (M := 14) (by decide) hZ) rfl ?_
  refine N_putFR (S2 := zs27) dX3_init_32 ff_X3_21 rfl rfl (show zs26[10]? = some (.inr (3, [14, 15, 16, 2, 2, 2, 0, 0, 0, 0, 0])) by decide +kernel) rfl rfl ?_
  refine V_aload_n dX3_init_35 rfl ?_
  refine V_bipush (v := (12 : Int32)) dX3_init_36 rfl ?_
  refine N_newI (S2 := zs28) (N := 12) (a := 15) dX3_init_38 (by decide) (by decide) (by decide) rfl (by decide +kernel) (ZA_mono (M := 15) (by decide) hZ) rfl ?_
  refine N_putFR (S2 := zs29) dX3_init_40 ff_X3_24 rfl rfl (show zs28[10]? = some (.inr (3, [14, 15, 16, 17, 2, 2, 0, 0, 0, 0, 0])) by decide +kernel) rfl rfl ?_
  refine V_aload_n dX3_init_43 rfl ?_
  refine V_iconst (v := (3 : Int32)) dX3_init_44 rfl ?_
  refine N_newI (S2 := zs30) (N := 3) (a := 16) dX3_init_45 (by decide) (by decide) (by decide) rfl (by decide +kernel) (ZA_mono (M := 16) (by decide) hZ) rfl ?_
  refine N_putFR (S2 := zs31) dX3_init_47 ff_X3_27 rfl rfl (show zs30[10]? = some (.inr (3, [14, 15, 16, 17, 18, 2, 0, 0, 0, 0, 0])) by decide +kernel) rfl rfl ?_
  refine V_aload_n dX3_init_50 rfl ?_
  refine U_callV0 [] dX3_init_51 ov_X3_30 (show zs31[10]? = some (.inr (3, [14, 15, 16, 17, 18, 19, 0, 0, 0, 0, 0])) by decide +kernel) rfl ⟨rfl, rfl, rfl⟩ rfl rfl rfl (clearS (a := 10) (b0 := 11) (b1 := 12) (b2 := 13) (b3 := 14) (b4 := 15) (b5 := 16) (show zs31[10]? = some (.inr (3, [14, 15, 16, 17, 18, 19, 0, 0, 0, 0, 0])) by decide +kernel) (show zs31[12]? = some (.inl (0, 25, [])) by decide +kernel) (show zs31[16]? = some (.inl (0, 3, [])) by decide +kernel) ?_)
  exact V_vret dX3_init_54 rfl rfl rfl ⟨_, _, rfl, k⟩
theorem nX3_init_5z {I : hI_} {J : hJ_} (hZ : ZA 11 I J) : ZA 17 (upI (upI (upI (upI (upI (upI (upI (upI (flI I 12 25 (0 : Int32)) 16 0 (1 : Int32)) 16 1 (2 : Int32)) 16 2 (1 : Int32)) 10 6 (0 : Int32)) 10 7 (0 : Int32)) 10 8 (0 : Int32)) 10 9 (0 : Int32)) 10 10 (999 : Int32)) J := (ZA_up (by decide) (ZA_up (by decide) (ZA_up (by decide) (ZA_up (by decide) (ZA_up (by decide) (ZA_up (by decide) (ZA_up (by decide) (ZA_up (by decide) (ZA_fl (by decide) (ZA_mono (M := 17) (by decide) hZ))))))))))
def zs32 : List aC := pR zs31 0 2 (10 + 3)
theorem nX11_6 {E : aE} {K : Value → aH → Prop} {I : hI_} {J : hJ_} (hZ : ZA 10 I J) (k : V E mX11_init K 37 [.ref 0, .retAddr 0] [] (zs32, upI (upI (upI (upI (upI (upI (upI (upI (flI I 12 25 (0 : Int32)) 16 0 (1 : Int32)) 16 1 (2 : Int32)) 16 2 (1 : Int32)) 10 6 (0 : Int32)) 10 7 (0 : Int32)) 10 8 (0 : Int32)) 10 9 (0 : Int32)) 10 10 (999 : Int32), J) (16, 486)) : V E mX11_init K 26 [.ref 0, .retAddr 0] [] (zs18, I, J) (9, 406) := by
  refine V_aload_n dX11_init_26 rfl ?_
  refine N_new (S2 := zs19) (a := 10) dX11_init_27 rfl (gt_1 60 rfl rfl) (gt_1 61 rfl rfl) (gt_1 3 rfl rfl) bok_3 rfl (by decide +kernel) hZ rfl ?_
  refine V_dupR dX11_init_30 ?_
  refine N_callI0 (S2 := zs31) [] dX11_init_31 oi_X11_18 rfl rfl rfl rfl rfl (nX3_init_5 (ZA_mono (M := 11) (by decide) hZ) ?_)
  refine N_putFR (S2 := zs32) dX11_init_34 ff_X11_23 rfl rfl (show zs31[0]? = some (.inr (11, [4, 6, 2, 2, 2, 2, 2, 2, 2, 2, 2, 2, 0, 0])) by decide +kernel) rfl rfl ?_
  exact k
theorem nX11_6z {I : hI_} {J : hJ_} (hZ : ZA 10 I J) : ZA 17 (upI (upI (upI (upI (upI (upI (upI (upI (flI I 12 25 (0 : Int32)) 16 0 (1 : Int32)) 16 1 (2 : Int32)) 16 2 (1 : Int32)) 10 6 (0 : Int32)) 10 7 (0 : Int32)) 10 8 (0 : Int32)) 10 9 (0 : Int32)) 10 10 (999 : Int32)) J := (ZA_up (by decide) (ZA_up (by decide) (ZA_up (by decide) (ZA_up (by decide) (ZA_up (by decide) (ZA_up (by decide) (ZA_up (by decide) (ZA_up (by decide) (ZA_fl (by decide) (ZA_mono (M := 17) (by decide) hZ))))))))))
def zs33 : List aC := zs32 ++ [.inr (4, bfs 4 7)]
def zs34 : List aC := pR zs33 17 0 (1 + 3)
def zs35 : List aC := pR zs34 17 1 (10 + 3)
theorem nX4_init_7 {E : aE} {P : hI_ → hJ_ → Prop} {I : hI_} {J : hJ_} (hZ : ZA 18 I J) (k : P (I) J) : CallN E mX4_init [.ref 17, .ref 1, .ref 10] zs33 I J zs35 P := by
  refine Call_of (L := [.ref 17, .ref 1, .ref 10]) ok_X4_init.1 rfl rfl ?_
  refine V_aload_n dX4_init_0 rfl ?_
  refine V_oinit dX4_init_1 oo_X4_3 rfl ?_
  refine V_aload_n dX4_init_4 rfl ?_
  refine V_aload_n dX4_init_5 rfl ?_
  refine N_putFR (S2 := zs34) dX4_init_6 ff_X4_9 rfl rfl (show zs33[17]? = some (.inr (4, [2, 2, 0, 0, 0, 0, 0])) by decide +kernel) rfl rfl ?_
  refine V_aload_n dX4_init_9 rfl ?_
  refine V_aload_n dX4_init_10 rfl ?_
  refine N_putFR (S2 := zs35) dX4_init_11 ff_X4_15 rfl rfl (show zs34[17]? = some (.inr (4, [4, 2, 0, 0, 0, 0, 0])) by decide +kernel) rfl rfl ?_
  exact V_vret dX4_init_14 rfl rfl rfl ⟨_, _, rfl, k⟩
theorem nX4_init_7z {I : hI_} {J : hJ_} (hZ : ZA 18 I J) : ZA 18 (I) J := hZ
def zs36 : List aC := pR zs35 0 3 (17 + 3)
theorem nX11_8 {E : aE} {K : Value → aH → Prop} {I : hI_} {J : hJ_} (hZ : ZA 17 I J) (k : V E mX11_init K 56 [.ref 0, .retAddr 0] [] (zs36, I, J) (17, 493)) : V E mX11_init K 37 [.ref 0, .retAddr 0] [] (zs32, I, J) (16, 486) := by
  refine V_aload_n dX11_init_37 rfl ?_
  refine N_new (S2 := zs33) (a := 17) dX11_init_38 rfl (gt_1 136 rfl rfl) (gt_1 137 rfl rfl) (gt_1 5 rfl rfl) bok_4 rfl (by decide +kernel) hZ rfl ?_
  refine V_dupR dX11_init_41 ?_
  refine V_aload_n dX11_init_42 rfl ?_
  refine U_getR dX11_init_43 fl_X11_10 (show zs33[0]? = some (.inr (11, [4, 6, 13, 2, 2, 2, 2, 2, 2, 2, 2, 2, 0, 0])) by decide +kernel) rfl ?_
  refine V_aload_n dX11_init_46 rfl ?_
  refine U_getR dX11_init_47 fl_X11_23 (show zs33[0]? = some (.inr (11, [4, 6, 13, 2, 2, 2, 2, 2, 2, 2, 2, 2, 0, 0])) by decide +kernel) rfl ?_
  refine N_callI0 (S2 := zs35) [.ref 1, .ref 10] dX11_init_50 oi_X11_28 rfl rfl rfl rfl rfl (nX4_init_7 (ZA_mono (M := 18) (by decide) hZ) ?_)
  refine N_putFR (S2 := zs36) dX11_init_53 ff_X11_31 rfl rfl (show zs35[0]? = some (.inr (11, [4, 6, 13, 2, 2, 2, 2, 2, 2, 2, 2, 2, 0, 0])) by decide +kernel) rfl rfl ?_
  exact k
theorem nX11_8z {I : hI_} {J : hJ_} (hZ : ZA 17 I J) : ZA 18 (I) J := (ZA_mono (M := 18) (by decide) hZ)
def zs37 : List aC := zs36 ++ [.inr (2, bfs 2 3)]
def zs38 : List aC := zs37 ++ [.inl (0, 5, [])]
def zs39 : List aC := pR zs38 18 1 (19 + 3)
def zs40 : List aC := zs39 ++ [.inl (0, 5, [])]
def zs41 : List aC := pR zs40 18 2 (20 + 3)
def zs42 : List aC := pR zs41 18 0 (3 + 3)
theorem nX2_init_9 {E : aE} {P : hI_ → hJ_ → Prop} {I : hI_} {J : hJ_} (hZ : ZA 19 I J) (k : P (I) J) : CallN E mX2_init [.ref 18, .ref 3] zs37 I J zs42 P := by
  refine Call_of (L := [.ref 18, .ref 3]) ok_X2_init.1 rfl rfl ?_
  refine V_aload_n dX2_init_0 rfl ?_
  refine V_oinit dX2_init_1 oo_X2_3 rfl ?_
  refine V_aload_n dX2_init_4 rfl ?_
  refine V_iconst (v := (5 : Int32)) dX2_init_5 rfl ?_
  refine N_newI (S2 := zs38) (N := 5) (a := 19) dX2_init_6 (by decide) (by decide) (by decide) rfl (by decide +kernel) hZ rfl ?_
  refine N_putFR (S2 := zs39) dX2_init_8 ff_X2_9 rfl rfl (show zs38[18]? = some (.inr (2, [2, 2, 2])) by decide +kernel) rfl rfl ?_
  refine V_aload_n dX2_init_11 rfl ?_
  refine V_iconst (v := (5 : Int32)) dX2_init_12 rfl ?_
  refine N_newI (S2 := zs40) (N := 5) (a := 20) dX2_init_13 (by decide) (by decide) (by decide) rfl (by decide +kernel) (ZA_mono (M := 20) (by decide) hZ) rfl ?_
  refine N_putFR (S2 := zs41) dX2_init_15 ff_X2_15 rfl rfl (show zs40[18]? = some (.inr (2, [2, 22, 2])) by decide +kernel) rfl rfl ?_
  refine V_aload_n dX2_init_18 rfl ?_
  refine V_aload_n dX2_init_19 rfl ?_
  refine N_putFR (S2 := zs42) dX2_init_20 ff_X2_18 rfl rfl (show zs41[18]? = some (.inr (2, [2, 22, 23])) by decide +kernel) rfl rfl ?_
  exact V_vret dX2_init_23 rfl rfl rfl ⟨_, _, rfl, k⟩
theorem nX2_init_9z {I : hI_} {J : hJ_} (hZ : ZA 19 I J) : ZA 21 (I) J := (ZA_mono (M := 21) (by decide) hZ)
def zs43 : List aC := pR zs42 0 4 (18 + 3)
theorem nX11_10 {E : aE} {K : Value → aH → Prop} {I : hI_} {J : hJ_} (hZ : ZA 18 I J) (k : V E mX11_init K 71 [.ref 0, .retAddr 0] [] (zs43, I, J) (20, 506)) : V E mX11_init K 56 [.ref 0, .retAddr 0] [] (zs36, I, J) (17, 493) := by
  refine V_aload_n dX11_init_56 rfl ?_
  refine N_new (S2 := zs37) (a := 18) dX11_init_57 rfl (gt_1 166 rfl rfl) (gt_1 167 rfl rfl) (gt_1 6 rfl rfl) bok_2 rfl (by decide +kernel) hZ rfl ?_
  refine V_dupR dX11_init_60 ?_
  refine V_aload_n dX11_init_61 rfl ?_
  refine U_getR dX11_init_62 fl_X11_19 (show zs37[0]? = some (.inr (11, [4, 6, 13, 20, 2, 2, 2, 2, 2, 2, 2, 2, 0, 0])) by decide +kernel) rfl ?_
  refine N_callI0 (S2 := zs42) [.ref 3] dX11_init_65 oi_X11_37 rfl rfl rfl rfl rfl (nX2_init_9 (ZA_mono (M := 19) (by decide) hZ) ?_)
  refine N_putFR (S2 := zs43) dX11_init_68 ff_X11_40 rfl rfl (show zs42[0]? = some (.inr (11, [4, 6, 13, 20, 2, 2, 2, 2, 2, 2, 2, 2, 0, 0])) by decide +kernel) rfl rfl ?_
  exact k
theorem nX11_10z {I : hI_} {J : hJ_} (hZ : ZA 18 I J) : ZA 21 (I) J := (ZA_mono (M := 21) (by decide) hZ)
def zs44 : List aC := zs43 ++ [.inr (1, bfs 1 5)]
def zs45 : List aC := zs44 ++ [.inr (5, bfs 5 4)]
def zs46 : List aC := zs45 ++ [.inl (0, 72, [])]
def zs47 : List aC := pR zs46 22 2 (23 + 3)
theorem nX5_init_12 {E : aE} {P : hI_ → hJ_ → Prop} {I : hI_} {J : hJ_} (hZ : ZA 23 I J) (k : P (upI (upI I 22 0 (24 : Int32)) 22 1 (3 : Int32)) J) : CallN E mX5_init [.ref 22, .int (24 : Int32), .int (3 : Int32)] zs45 I J zs47 P := by
  refine Call_of (L := [.ref 22, .int (24 : Int32), .int (3 : Int32)]) ok_X5_init.1 rfl rfl ?_
  refine V_aload_n dX5_init_0 rfl ?_
  refine V_oinit dX5_init_1 oo_X5_1 rfl ?_
  refine V_aload_n dX5_init_4 rfl ?_
  refine V_iload_n dX5_init_5 rfl ?_
  refine V_iconst (v := (0 : Int32)) dX5_init_6 rfl ?_
  refine N_mmax (v := (24 : Int32)) dX5_init_7 om_X5_7 rfl (by decide) ?_
  refine N_putFI dX5_init_10 ff_X5_13 rfl (show zs45[22]? = some (.inr (5, [0, 0, 2, 0])) by decide +kernel) rfl ?_
  refine V_aload_n dX5_init_13 rfl ?_
  refine V_iload_n dX5_init_14 rfl ?_
  refine V_iconst (v := (0 : Int32)) dX5_init_15 rfl ?_
  refine N_mmax (v := (3 : Int32)) dX5_init_16 om_X5_7 rfl (by decide) ?_
  refine N_putFI dX5_init_19 ff_X5_19 rfl (show zs45[22]? = some (.inr (5, [0, 0, 2, 0])) by decide +kernel) rfl ?_
  refine V_aload_n dX5_init_22 rfl ?_
  refine V_aload_n dX5_init_23 rfl ?_
  refine U_getIx (x := (24 : Int32)) dX5_init_24 fl_X5_13 (show zs45[22]? = some (.inr (5, [0, 0, 2, 0])) by decide +kernel) rfl rfl ?_
  refine V_aload_n dX5_init_27 rfl ?_
  refine U_getIx (x := (3 : Int32)) dX5_init_28 fl_X5_19 (show zs45[22]? = some (.inr (5, [0, 0, 2, 0])) by decide +kernel) rfl rfl ?_
  refine N_imul (v := (72 : Int32)) dX5_init_31 (by decide) ?_
  refine N_newI (S2 := zs46) (N := 72) (a := 23) dX5_init_32 (by decide) (by decide) (by decide) rfl (by decide +kernel) (ZA_up (by decide) (ZA_up (by decide) hZ)) rfl ?_
  refine N_putFR (S2 := zs47) dX5_init_34 ff_X5_22 rfl rfl (show zs46[22]? = some (.inr (5, [0, 0, 2, 0])) by decide +kernel) rfl rfl ?_
  refine V_wslots (n := 120) rfl ?_
  exact V_vret dX5_init_37 rfl rfl rfl ⟨_, _, rfl, k⟩
theorem nX5_init_12z {I : hI_} {J : hJ_} (hZ : ZA 23 I J) : ZA 24 (upI (upI I 22 0 (24 : Int32)) 22 1 (3 : Int32)) J := (ZA_mono (M := 24) (by decide) (ZA_up (by decide) (ZA_up (by decide) hZ)))
def zs48 : List aC := pR zs47 21 1 (22 + 3)
def zs49 : List aC := zs48 ++ [.inr (5, bfs 5 4)]
def zs50 : List aC := zs49 ++ [.inl (0, 96, [])]
def zs51 : List aC := pR zs50 24 2 (25 + 3)
theorem nX5_init_13 {E : aE} {P : hI_ → hJ_ → Prop} {I : hI_} {J : hJ_} (hZ : ZA 25 I J) (k : P (upI (upI I 24 0 (12 : Int32)) 24 1 (8 : Int32)) J) : CallN E mX5_init [.ref 24, .int (12 : Int32), .int (8 : Int32)] zs49 I J zs51 P := by
  refine Call_of (L := [.ref 24, .int (12 : Int32), .int (8 : Int32)]) ok_X5_init.1 rfl rfl ?_
  refine V_aload_n dX5_init_0 rfl ?_
  refine V_oinit dX5_init_1 oo_X5_1 rfl ?_
  refine V_aload_n dX5_init_4 rfl ?_
  refine V_iload_n dX5_init_5 rfl ?_
  refine V_iconst (v := (0 : Int32)) dX5_init_6 rfl ?_
  refine N_mmax (v := (12 : Int32)) dX5_init_7 om_X5_7 rfl (by decide) ?_
  refine N_putFI dX5_init_10 ff_X5_13 rfl (show zs49[24]? = some (.inr (5, [0, 0, 2, 0])) by decide +kernel) rfl ?_
  refine V_aload_n dX5_init_13 rfl ?_
  refine V_iload_n dX5_init_14 rfl ?_
  refine V_iconst (v := (0 : Int32)) dX5_init_15 rfl ?_
  refine N_mmax (v := (8 : Int32)) dX5_init_16 om_X5_7 rfl (by decide) ?_
  refine N_putFI dX5_init_19 ff_X5_19 rfl (show zs49[24]? = some (.inr (5, [0, 0, 2, 0])) by decide +kernel) rfl ?_
  refine V_aload_n dX5_init_22 rfl ?_
  refine V_aload_n dX5_init_23 rfl ?_
  refine U_getIx (x := (12 : Int32)) dX5_init_24 fl_X5_13 (show zs49[24]? = some (.inr (5, [0, 0, 2, 0])) by decide +kernel) rfl rfl ?_
  refine V_aload_n dX5_init_27 rfl ?_
  refine U_getIx (x := (8 : Int32)) dX5_init_28 fl_X5_19 (show zs49[24]? = some (.inr (5, [0, 0, 2, 0])) by decide +kernel) rfl rfl ?_
  refine N_imul (v := (96 : Int32)) dX5_init_31 (by decide) ?_
  refine N_newI (S2 := zs50) (N := 96) (a := 25) dX5_init_32 (by decide) (by decide) (by decide) rfl (by decide +kernel) (ZA_up (by decide) (ZA_up (by decide) hZ)) rfl ?_
  refine N_putFR (S2 := zs51) dX5_init_34 ff_X5_22 rfl rfl (show zs50[24]? = some (.inr (5, [0, 0, 2, 0])) by decide +kernel) rfl rfl ?_
  refine V_wslots (n := 120) rfl ?_
  exact V_vret dX5_init_37 rfl rfl rfl ⟨_, _, rfl, k⟩
theorem nX5_init_13z {I : hI_} {J : hJ_} (hZ : ZA 25 I J) : ZA 26 (upI (upI I 24 0 (12 : Int32)) 24 1 (8 : Int32)) J := (ZA_mono (M := 26) (by decide) (ZA_up (by decide) (ZA_up (by decide) hZ)))
def zs52 : List aC := pR zs51 21 2 (24 + 3)
def zs53 : List aC := zs52 ++ [.inr (5, bfs 5 4)]
def zs54 : List aC := zs53 ++ [.inl (0, 120, [])]
def zs55 : List aC := pR zs54 26 2 (27 + 3)
theorem nX5_init_14 {E : aE} {P : hI_ → hJ_ → Prop} {I : hI_} {J : hJ_} (hZ : ZA 27 I J) (k : P (upI (upI I 26 0 (24 : Int32)) 26 1 (5 : Int32)) J) : CallN E mX5_init [.ref 26, .int (24 : Int32), .int (5 : Int32)] zs53 I J zs55 P := by
  refine Call_of (L := [.ref 26, .int (24 : Int32), .int (5 : Int32)]) ok_X5_init.1 rfl rfl ?_
  refine V_aload_n dX5_init_0 rfl ?_
  refine V_oinit dX5_init_1 oo_X5_1 rfl ?_
  refine V_aload_n dX5_init_4 rfl ?_
  refine V_iload_n dX5_init_5 rfl ?_
  refine V_iconst (v := (0 : Int32)) dX5_init_6 rfl ?_
  refine N_mmax (v := (24 : Int32)) dX5_init_7 om_X5_7 rfl (by decide) ?_
  refine N_putFI dX5_init_10 ff_X5_13 rfl (show zs53[26]? = some (.inr (5, [0, 0, 2, 0])) by decide +kernel) rfl ?_
  refine V_aload_n dX5_init_13 rfl ?_
  refine V_iload_n dX5_init_14 rfl ?_
  refine V_iconst (v := (0 : Int32)) dX5_init_15 rfl ?_
  refine N_mmax (v := (5 : Int32)) dX5_init_16 om_X5_7 rfl (by decide) ?_
  refine N_putFI dX5_init_19 ff_X5_19 rfl (show zs53[26]? = some (.inr (5, [0, 0, 2, 0])) by decide +kernel) rfl ?_
  refine V_aload_n dX5_init_22 rfl ?_
  refine V_aload_n dX5_init_23 rfl ?_
  refine U_getIx (x := (24 : Int32)) dX5_init_24 fl_X5_13 (show zs53[26]? = some (.inr (5, [0, 0, 2, 0])) by decide +kernel) rfl rfl ?_
  refine V_aload_n dX5_init_27 rfl ?_
  refine U_getIx (x := (5 : Int32)) dX5_init_28 fl_X5_19 (show zs53[26]? = some (.inr (5, [0, 0, 2, 0])) by decide +kernel) rfl rfl ?_
  refine N_imul (v := (120 : Int32)) dX5_init_31 (by decide) ?_
  refine N_newI (S2 := zs54) (N := 120) (a := 27) dX5_init_32 (by decide) (by decide) (by decide) rfl (by decide +kernel) (ZA_up (by decide) (ZA_up (by decide) hZ)) rfl ?_
  refine N_putFR (S2 := zs55) dX5_init_34 ff_X5_22 rfl rfl (show zs54[26]? = some (.inr (5, [0, 0, 2, 0])) by decide +kernel) rfl rfl ?_
  exact V_vret dX5_init_37 rfl rfl rfl ⟨_, _, rfl, k⟩
theorem nX5_init_14z {I : hI_} {J : hJ_} (hZ : ZA 27 I J) : ZA 28 (upI (upI I 26 0 (24 : Int32)) 26 1 (5 : Int32)) J := (ZA_mono (M := 28) (by decide) (ZA_up (by decide) (ZA_up (by decide) hZ)))
def zs56 : List aC := pR zs55 21 3 (26 + 3)
def zs57 : List aC := pR zs56 21 0 (3 + 3)
theorem nX1_init_11 {E : aE} {P : hI_ → hJ_ → Prop} {I : hI_} {J : hJ_} (hZ : ZA 22 I J) (k : P (upI (upI (upI (upI (upI (upI I 22 0 (24 : Int32)) 22 1 (3 : Int32)) 24 0 (12 : Int32)) 24 1 (8 : Int32)) 26 0 (24 : Int32)) 26 1 (5 : Int32)) J) : CallN E mX1_init [.ref 21, .ref 3] zs44 I J zs57 P := by
  refine Call_of (L := [.ref 21, .ref 3]) ok_X1_init.1 rfl rfl ?_
  refine V_aload_n dX1_init_0 rfl ?_
  refine V_oinit dX1_init_1 oo_X1_3 rfl ?_
  refine V_aload_n dX1_init_4 rfl ?_
  refine N_new (S2 := zs45) (a := 22) dX1_init_5 rfl (gt_1 191 rfl rfl) (gt_1 192 rfl rfl) (gt_1 8 rfl rfl) bok_5 rfl (by decide +kernel) hZ rfl ?_
  refine V_dupR dX1_init_8 ?_
  refine V_bipush (v := (24 : Int32)) dX1_init_9 rfl ?_
  refine V_iconst (v := (3 : Int32)) dX1_init_11 rfl ?_
  refine N_callI0 (S2 := zs47) [.int (24 : Int32), .int (3 : Int32)] dX1_init_12 oi_X1_11 rfl rfl rfl rfl rfl (nX5_init_12 (ZA_mono (M := 23) (by decide) hZ) ?_)
  refine N_putFR (S2 := zs48) dX1_init_15 ff_X1_14 rfl rfl (show zs47[21]? = some (.inr (1, [2, 2, 2, 2, 0])) by decide +kernel) rfl rfl ?_
  refine V_aload_n dX1_init_18 rfl ?_
  refine N_new (S2 := zs49) (a := 24) dX1_init_19 rfl (gt_1 191 rfl rfl) (gt_1 192 rfl rfl) (gt_1 8 rfl rfl) bok_5 rfl (by decide +kernel) (nX5_init_12z (ZA_mono (M := 23) (by decide) hZ)) rfl ?_
  refine V_dupR dX1_init_22 ?_
  refine V_bipush (v := (12 : Int32)) dX1_init_23 rfl ?_
  refine V_bipush (v := (8 : Int32)) dX1_init_25 rfl ?_
  refine N_callI0 (S2 := zs51) [.int (12 : Int32), .int (8 : Int32)] dX1_init_27 oi_X1_11 rfl rfl rfl rfl rfl (nX5_init_13 (ZA_mono (M := 25) (by decide) (nX5_init_12z (ZA_mono (M := 23) (by decide) hZ))) ?_)
  refine N_putFR (S2 := zs52) dX1_init_30 ff_X1_20 rfl rfl (show zs51[21]? = some (.inr (1, [2, 25, 2, 2, 0])) by decide +kernel) rfl rfl ?_
  refine V_aload_n dX1_init_33 rfl ?_
  refine N_new (S2 := zs53) (a := 26) dX1_init_34 rfl (gt_1 191 rfl rfl) (gt_1 192 rfl rfl) (gt_1 8 rfl rfl) bok_5 rfl (by decide +kernel) (nX5_init_13z (ZA_mono (M := 25) (by decide) (nX5_init_12z (ZA_mono (M := 23) (by decide) hZ)))) rfl ?_
  refine V_dupR dX1_init_37 ?_
  refine V_bipush (v := (24 : Int32)) dX1_init_38 rfl ?_
  refine V_iconst (v := (5 : Int32)) dX1_init_40 rfl ?_
  refine N_callI0 (S2 := zs55) [.int (24 : Int32), .int (5 : Int32)] dX1_init_41 oi_X1_11 rfl rfl rfl rfl rfl (nX5_init_14 (ZA_mono (M := 27) (by decide) (nX5_init_13z (ZA_mono (M := 25) (by decide) (nX5_init_12z (ZA_mono (M := 23) (by decide) hZ))))) ?_)
  refine N_putFR (S2 := zs56) dX1_init_44 ff_X1_23 rfl rfl (show zs55[21]? = some (.inr (1, [2, 25, 27, 2, 0])) by decide +kernel) rfl rfl ?_
  refine V_aload_n dX1_init_47 rfl ?_
  refine V_aload_n dX1_init_48 rfl ?_
  refine N_putFR (S2 := zs57) dX1_init_49 ff_X1_26 rfl rfl (show zs56[21]? = some (.inr (1, [2, 25, 27, 29, 0])) by decide +kernel) rfl rfl ?_
  exact V_vret dX1_init_52 rfl rfl rfl ⟨_, _, rfl, k⟩
theorem nX1_init_11z {I : hI_} {J : hJ_} (hZ : ZA 22 I J) : ZA 28 (upI (upI (upI (upI (upI (upI I 22 0 (24 : Int32)) 22 1 (3 : Int32)) 24 0 (12 : Int32)) 24 1 (8 : Int32)) 26 0 (24 : Int32)) 26 1 (5 : Int32)) J := (nX5_init_14z (ZA_mono (M := 27) (by decide) (nX5_init_13z (ZA_mono (M := 25) (by decide) (nX5_init_12z (ZA_mono (M := 23) (by decide) hZ))))))
def zs58 : List aC := pR zs57 0 5 (21 + 3)
theorem nX11_15 {E : aE} {K : Value → aH → Prop} {I : hI_} {J : hJ_} (hZ : ZA 21 I J) (k : V E mX11_init K 86 [.ref 0, .retAddr 0] [] (zs58, upI (upI (upI (upI (upI (upI I 22 0 (24 : Int32)) 22 1 (3 : Int32)) 24 0 (12 : Int32)) 24 1 (8 : Int32)) 26 0 (24 : Int32)) 26 1 (5 : Int32), J) (27, 883)) : V E mX11_init K 71 [.ref 0, .retAddr 0] [] (zs43, I, J) (20, 506) := by
  refine V_aload_n dX11_init_71 rfl ?_
  refine N_new (S2 := zs44) (a := 21) dX11_init_72 rfl (gt_1 185 rfl rfl) (gt_1 186 rfl rfl) (gt_1 7 rfl rfl) bok_1 rfl (by decide +kernel) hZ rfl ?_
  refine V_dupR dX11_init_75 ?_
  refine V_aload_n dX11_init_76 rfl ?_
  refine U_getR dX11_init_77 fl_X11_19 (show zs44[0]? = some (.inr (11, [4, 6, 13, 20, 21, 2, 2, 2, 2, 2, 2, 2, 0, 0])) by decide +kernel) rfl ?_
  refine N_callI0 (S2 := zs57) [.ref 3] dX11_init_80 oi_X11_46 rfl rfl rfl rfl rfl (nX1_init_11 (ZA_mono (M := 22) (by decide) hZ) ?_)
  refine N_putFR (S2 := zs58) dX11_init_83 ff_X11_47 rfl rfl (show zs57[0]? = some (.inr (11, [4, 6, 13, 20, 21, 2, 2, 2, 2, 2, 2, 2, 0, 0])) by decide +kernel) rfl rfl ?_
  exact k
theorem nX11_15z {I : hI_} {J : hJ_} (hZ : ZA 21 I J) : ZA 28 (upI (upI (upI (upI (upI (upI I 22 0 (24 : Int32)) 22 1 (3 : Int32)) 24 0 (12 : Int32)) 24 1 (8 : Int32)) 26 0 (24 : Int32)) 26 1 (5 : Int32)) J := (ZA_up (by decide) (ZA_up (by decide) (ZA_up (by decide) (ZA_up (by decide) (ZA_up (by decide) (ZA_up (by decide) (ZA_mono (M := 28) (by decide) hZ)))))))
def zs59 : List aC := zs58 ++ [.inl (4, 2, List.replicate 2 2)]
def zs60 : List aC := pR zs59 0 6 (28 + 3)
theorem nX11_16 {E : aE} {K : Value → aH → Prop} {I : hI_} {J : hJ_} (hZ : ZA 28 I J) (k : V E mX11_init K 94 [.ref 0, .retAddr 0] [] (zs60, I, J) (28, 885)) : V E mX11_init K 86 [.ref 0, .retAddr 0] [] (zs58, I, J) (27, 883) := by
  refine V_aload_n dX11_init_86 rfl ?_
  refine V_iconst (v := (2 : Int32)) dX11_init_87 rfl ?_
  refine N_newR4 (S2 := zs59) (N := 2) (a := 28) dX11_init_88 (gt_1 185 rfl rfl) (by decide) (by decide) (by decide) rfl (by decide +kernel) hZ rfl ?_
  refine N_putFR (S2 := zs60) dX11_init_91 ff_X11_51 rfl rfl (show zs59[0]? = some (.inr (11, [4, 6, 13, 20, 21, 24, 2, 2, 2, 2, 2, 2, 0, 0])) by decide +kernel) rfl rfl ?_
  exact k
theorem nX11_16z {I : hI_} {J : hJ_} (hZ : ZA 28 I J) : ZA 29 (I) J := (ZA_mono (M := 29) (by decide) hZ)
def zs61 : List aC := zs60 ++ [.inr (7, bfs 7 12)]
def zs62 : List aC := zs61 ++ [.inl (0, 24, [])]
def zs63 : List aC := pR zs62 29 5 (30 + 3)
def zs64 : List aC := zs63 ++ [.inl (0, 24, [])]
def zs65 : List aC := pR zs64 29 6 (31 + 3)
def zs66 : List aC := zs65 ++ [.inl (0, 24, [])]
def zs67 : List aC := pR zs66 29 7 (32 + 3)
def zs68 : List aC := zs67 ++ [.inl (0, 12, [])]
def zs69 : List aC := pR zs68 29 8 (33 + 3)
def zs70 : List aC := zs69 ++ [.inl (0, 12, [])]
def zs71 : List aC := pR zs70 29 9 (34 + 3)
def zs72 : List aC := zs71 ++ [.inl (0, 12, [])]
def zs73 : List aC := pR zs72 29 10 (35 + 3)
def zs74 : List aC := pR zs73 29 0 (3 + 3)
def zs75 : List aC := pR zs74 29 1 (18 + 3)
def zs76 : List aC := pR zs75 29 4 (21 + 3)
def zs77 : List aC := pR zs76 29 2 (24 + 3)
def zs78 : List aC := pR zs77 29 3 (26 + 3)
theorem nX7_init_17 {E : aE} {P : hI_ → hJ_ → Prop} {I : hI_} {J : hJ_} (hZ : ZA 30 I J) (k : P (I) J) : CallN E mX7_init [.ref 29, .ref 3, .ref 18, .ref 21] zs61 I J zs78 P := by
  refine Call_of (L := [.ref 29, .ref 3, .ref 18, .ref 21]) ok_X7_init.1 rfl rfl ?_
  refine V_aload_n dX7_init_0 rfl ?_
  refine V_oinit dX7_init_1 oo_X7_3 rfl ?_
  refine V_aload_n dX7_init_4 rfl ?_
  refine V_bipush (v := (24 : Int32)) dX7_init_5 rfl ?_
  refine N_newI (S2 := zs62) (N := 24) (a := 30) dX7_init_7 (by decide) (by decide) (by decide) rfl (by decide +kernel) hZ rfl ?_
  refine N_putFR (S2 := zs63) dX7_init_9 ff_X7_9 rfl rfl (show zs62[29]? = some (.inr (7, [2, 2, 2, 2, 2, 2, 2, 2, 2, 2, 2, 0])) by decide +kernel) rfl rfl ?_
  refine V_aload_n dX7_init_12 rfl ?_
  refine V_bipush (v := (24 : Int32)) dX7_init_13 rfl ?_
  refine N_newI (S2 := zs64) (N := 24) (a := 31) dX7_init_15 (by decide) (by decide) (by decide) rfl (by decide +kernel) (ZA_mono (M := 31) (by decide) hZ) rfl ?_
  refine N_putFR (S2 := zs65) dX7_init_17 ff_X7_15 rfl rfl (show zs64[29]? = some (.inr (7, [2, 2, 2, 2, 2, 33, 2, 2, 2, 2, 2, 0])) by decide +kernel) rfl rfl ?_
  refine V_aload_n dX7_init_20 rfl ?_
  refine V_bipush (v := (24 : Int32)) dX7_init_21 rfl ?_
  refine N_newI (S2 := zs66) (N := 24) (a := 32) dX7_init_23 (by decide) (by decide) (by decide) rfl (by decide +kernel) (ZA_mono (M := 32) (by decide) hZ) rfl ?_
  refine N_putFR (S2 := zs67) dX7_init_25 ff_X7_18 rfl rfl (show zs66[29]? = some (.inr (7, [2, 2, 2, 2, 2, 33, 34, 2, 2, 2, 2, 0])) by decide +kernel) rfl rfl ?_
  refine V_aload_n dX7_init_28 rfl ?_
  refine V_bipush (v := (12 : Int32)) dX7_init_29 rfl ?_
  refine N_newI (S2 := zs68) (N := 12) (a := 33) dX7_init_31 (by decide) (by decide) (by decide) rfl (by decide +kernel) (ZA_mono (M := 33) (by decide) hZ) rfl ?_
  refine N_putFR (S2 := zs69) dX7_init_33 ff_X7_21 rfl rfl (show zs68[29]? = some (.inr (7, [2, 2, 2, 2, 2, 33, 34, 35, 2, 2, 2, 0])) by decide +kernel) rfl rfl ?_
  refine V_aload_n dX7_init_36 rfl ?_
  refine V_bipush (v := (12 : Int32)) dX7_init_37 rfl ?_
  refine N_newI (S2 := zs70) (N := 12) (a := 34) dX7_init_39 (by decide) (by decide) (by decide) rfl (by decide +kernel) (ZA_mono (M := 34) (by decide) hZ) rfl ?_
  refine N_putFR (S2 := zs71) dX7_init_41 ff_X7_24 rfl rfl (show zs70[29]? = some (.inr (7, [2, 2, 2, 2, 2, 33, 34, 35, 36, 2, 2, 0])) by decide +kernel) rfl rfl ?_
  refine V_aload_n dX7_init_44 rfl ?_
  refine V_bipush (v := (12 : Int32)) dX7_init_45 rfl ?_
  refine N_newI (S2 := zs72) (N := 12) (a := 35) dX7_init_47 (by decide) (by decide) (by decide) rfl (by decide +kernel) (ZA_mono (M := 35) (by decide) hZ) rfl ?_
  refine N_putFR (S2 := zs73) dX7_init_49 ff_X7_27 rfl rfl (show zs72[29]? = some (.inr (7, [2, 2, 2, 2, 2, 33, 34, 35, 36, 37, 2, 0])) by decide +kernel) rfl rfl ?_
  refine V_aload_n dX7_init_52 rfl ?_
  refine V_aload_n dX7_init_53 rfl ?_
  refine N_putFR (S2 := zs74) dX7_init_54 ff_X7_30 rfl rfl (show zs73[29]? = some (.inr (7, [2, 2, 2, 2, 2, 33, 34, 35, 36, 37, 38, 0])) by decide +kernel) rfl rfl ?_
  refine V_aload_n dX7_init_57 rfl ?_
  refine V_aload_n dX7_init_58 rfl ?_
  refine N_putFR (S2 := zs75) dX7_init_59 ff_X7_34 rfl rfl (show zs74[29]? = some (.inr (7, [6, 2, 2, 2, 2, 33, 34, 35, 36, 37, 38, 0])) by decide +kernel) rfl rfl ?_
  refine V_aload_n dX7_init_62 rfl ?_
  refine V_aload_n dX7_init_63 rfl ?_
  refine N_putFR (S2 := zs76) dX7_init_64 ff_X7_38 rfl rfl (show zs75[29]? = some (.inr (7, [6, 21, 2, 2, 2, 33, 34, 35, 36, 37, 38, 0])) by decide +kernel) rfl rfl ?_
  refine V_aload_n dX7_init_67 rfl ?_
  refine V_aload_n dX7_init_68 rfl ?_
  refine U_getR dX7_init_69 fl_X7_42 (show zs76[21]? = some (.inr (1, [6, 25, 27, 29, 0])) by decide +kernel) rfl ?_
  refine N_putFR (S2 := zs77) dX7_init_72 ff_X7_48 rfl rfl (show zs76[29]? = some (.inr (7, [6, 21, 2, 2, 24, 33, 34, 35, 36, 37, 38, 0])) by decide +kernel) rfl rfl ?_
  refine V_aload_n dX7_init_75 rfl ?_
  refine V_aload_n dX7_init_76 rfl ?_
  refine U_getR dX7_init_77 fl_X7_49 (show zs77[21]? = some (.inr (1, [6, 25, 27, 29, 0])) by decide +kernel) rfl ?_
  refine N_putFR (S2 := zs78) dX7_init_80 ff_X7_52 rfl rfl (show zs77[29]? = some (.inr (7, [6, 21, 27, 2, 24, 33, 34, 35, 36, 37, 38, 0])) by decide +kernel) rfl rfl ?_
  exact V_vret dX7_init_83 rfl rfl rfl ⟨_, _, rfl, k⟩
theorem nX7_init_17z {I : hI_} {J : hJ_} (hZ : ZA 30 I J) : ZA 36 (I) J := (ZA_mono (M := 36) (by decide) hZ)
def zs79 : List aC := pR zs78 0 7 (29 + 3)
theorem nX11_18 {E : aE} {K : Value → aH → Prop} {I : hI_} {J : hJ_} (hZ : ZA 29 I J) (k : V E mX11_init K 117 [.ref 0, .retAddr 0] [] (zs79, I, J) (35, 1005)) : V E mX11_init K 94 [.ref 0, .retAddr 0] [] (zs60, I, J) (28, 885) := by
  refine V_aload_n dX11_init_94 rfl ?_
  refine N_new (S2 := zs61) (a := 29) dX11_init_95 rfl (gt_2 0 rfl rfl) (gt_2 1 rfl rfl) (gt_1 10 rfl rfl) bok_7 rfl (by decide +kernel) hZ rfl ?_
  refine V_dupR dX11_init_98 ?_
  refine V_aload_n dX11_init_99 rfl ?_
  refine U_getR dX11_init_100 fl_X11_19 (show zs61[0]? = some (.inr (11, [4, 6, 13, 20, 21, 24, 31, 2, 2, 2, 2, 2, 0, 0])) by decide +kernel) rfl ?_
  refine V_aload_n dX11_init_103 rfl ?_
  refine U_getR dX11_init_104 fl_X11_40 (show zs61[0]? = some (.inr (11, [4, 6, 13, 20, 21, 24, 31, 2, 2, 2, 2, 2, 0, 0])) by decide +kernel) rfl ?_
  refine V_aload_n dX11_init_107 rfl ?_
  refine U_getR dX11_init_108 fl_X11_47 (show zs61[0]? = some (.inr (11, [4, 6, 13, 20, 21, 24, 31, 2, 2, 2, 2, 2, 0, 0])) by decide +kernel) rfl ?_
  refine N_callI0 (S2 := zs78) [.ref 3, .ref 18, .ref 21] dX11_init_111 oi_X11_57 rfl rfl rfl rfl rfl (nX7_init_17 (ZA_mono (M := 30) (by decide) hZ) ?_)
  refine N_putFR (S2 := zs79) dX11_init_114 ff_X11_60 rfl rfl (show zs78[0]? = some (.inr (11, [4, 6, 13, 20, 21, 24, 31, 2, 2, 2, 2, 2, 0, 0])) by decide +kernel) rfl rfl ?_
  exact k
theorem nX11_18z {I : hI_} {J : hJ_} (hZ : ZA 29 I J) : ZA 36 (I) J := (ZA_mono (M := 36) (by decide) hZ)
def zs80 : List aC := zs79 ++ [.inr (0, bfs 0 7)]
def zs81 : List aC := zs80 ++ [.inl (0, 12, [])]
def zs82 : List aC := pR zs81 36 2 (37 + 3)
def zs83 : List aC := zs82 ++ [.inl (0, 12, [])]
def zs84 : List aC := pR zs83 36 3 (38 + 3)
def zs85 : List aC := zs84 ++ [.inl (0, 12, [])]
def zs86 : List aC := pR zs85 36 4 (39 + 3)
def zs87 : List aC := pR zs86 36 0 (18 + 3)
def zs88 : List aC := pR zs87 36 1 (24 + 3)
theorem nX0_init_19 {E : aE} {P : hI_ → hJ_ → Prop} {I : hI_} {J : hJ_} (hZ : ZA 37 I J) (k : P (I) J) : CallN E mX0_init [.ref 36, .ref 18, .ref 21] zs80 I J zs88 P := by
  refine Call_of (L := [.ref 36, .ref 18, .ref 21]) ok_X0_init.1 rfl rfl ?_
  refine V_aload_n dX0_init_0 rfl ?_
  refine V_oinit dX0_init_1 oo_X0_3 rfl ?_
  refine V_aload_n dX0_init_4 rfl ?_
  refine V_bipush (v := (12 : Int32)) dX0_init_5 rfl ?_
  refine N_newI (S2 := zs81) (N := 12) (a := 37) dX0_init_7 (by decide) (by decide) (by decide) rfl (by decide +kernel) hZ rfl ?_
  refine N_putFR (S2 := zs82) dX0_init_9 ff_X0_9 rfl rfl (show zs81[36]? = some (.inr (0, [2, 2, 2, 2, 2, 0, 0])) by decide +kernel) rfl rfl ?_
  refine V_aload_n dX0_init_12 rfl ?_
  refine V_bipush (v := (12 : Int32)) dX0_init_13 rfl ?_
  refine N_newI (S2 := zs83) (N := 12) (a := 38) dX0_init_15 (by decide) (by decide) (by decide) rfl (by decide +kernel) (ZA_mono (M := 38) (by decide) hZ) rfl ?_
  refine N_putFR (S2 := zs84) dX0_init_17 ff_X0_15 rfl rfl (show zs83[36]? = some (.inr (0, [2, 2, 40, 2, 2, 0, 0])) by decide +kernel) rfl rfl ?_
  refine V_aload_n dX0_init_20 rfl ?_
  refine V_bipush (v := (12 : Int32)) dX0_init_21 rfl ?_
  refine N_newI (S2 := zs85) (N := 12) (a := 39) dX0_init_23 (by decide) (by decide) (by decide) rfl (by decide +kernel) (ZA_mono (M := 39) (by decide) hZ) rfl ?_
  refine N_putFR (S2 := zs86) dX0_init_25 ff_X0_18 rfl rfl (show zs85[36]? = some (.inr (0, [2, 2, 40, 41, 2, 0, 0])) by decide +kernel) rfl rfl ?_
  refine V_aload_n dX0_init_28 rfl ?_
  refine V_aload_n dX0_init_29 rfl ?_
  refine N_putFR (S2 := zs87) dX0_init_30 ff_X0_21 rfl rfl (show zs86[36]? = some (.inr (0, [2, 2, 40, 41, 42, 0, 0])) by decide +kernel) rfl rfl ?_
  refine V_aload_n dX0_init_33 rfl ?_
  refine V_aload_n dX0_init_34 rfl ?_
  refine U_getR dX0_init_35 fl_X0_25 (show zs87[21]? = some (.inr (1, [6, 25, 27, 29, 0])) by decide +kernel) rfl ?_
  refine N_putFR (S2 := zs88) dX0_init_38 ff_X0_31 rfl rfl (show zs87[36]? = some (.inr (0, [21, 2, 40, 41, 42, 0, 0])) by decide +kernel) rfl rfl ?_
  exact V_vret dX0_init_41 rfl rfl rfl ⟨_, _, rfl, k⟩
theorem nX0_init_19z {I : hI_} {J : hJ_} (hZ : ZA 37 I J) : ZA 40 (I) J := (ZA_mono (M := 40) (by decide) hZ)
def zs89 : List aC := pR zs88 0 8 (36 + 3)
theorem nX11_20 {E : aE} {K : Value → aH → Prop} {I : hI_} {J : hJ_} (hZ : ZA 36 I J) (k : V E mX11_init K 136 [.ref 0, .retAddr 0] [] (zs89, I, J) (39, 1048)) : V E mX11_init K 117 [.ref 0, .retAddr 0] [] (zs79, I, J) (35, 1005) := by
  refine V_aload_n dX11_init_117 rfl ?_
  refine N_new (S2 := zs80) (a := 36) dX11_init_118 rfl (gt_2 46 rfl rfl) (gt_2 47 rfl rfl) (gt_1 11 rfl rfl) bok_0 rfl (by decide +kernel) hZ rfl ?_
  refine V_dupR dX11_init_121 ?_
  refine V_aload_n dX11_init_122 rfl ?_
  refine U_getR dX11_init_123 fl_X11_40 (show zs80[0]? = some (.inr (11, [4, 6, 13, 20, 21, 24, 31, 32, 2, 2, 2, 2, 0, 0])) by decide +kernel) rfl ?_
  refine V_aload_n dX11_init_126 rfl ?_
  refine U_getR dX11_init_127 fl_X11_47 (show zs80[0]? = some (.inr (11, [4, 6, 13, 20, 21, 24, 31, 32, 2, 2, 2, 2, 0, 0])) by decide +kernel) rfl ?_
  refine N_callI0 (S2 := zs88) [.ref 18, .ref 21] dX11_init_130 oi_X11_66 rfl rfl rfl rfl rfl (nX0_init_19 (ZA_mono (M := 37) (by decide) hZ) ?_)
  refine N_putFR (S2 := zs89) dX11_init_133 ff_X11_69 rfl rfl (show zs88[0]? = some (.inr (11, [4, 6, 13, 20, 21, 24, 31, 32, 2, 2, 2, 2, 0, 0])) by decide +kernel) rfl rfl ?_
  exact k
theorem nX11_20z {I : hI_} {J : hJ_} (hZ : ZA 36 I J) : ZA 40 (I) J := (ZA_mono (M := 40) (by decide) hZ)
def zs90 : List aC := zs89 ++ [.inr (9, bfs 9 3)]
def zs91 : List aC := zs90 ++ [.inl (0, 5, [])]
def zs92 : List aC := pR zs91 40 2 (41 + 3)
def zs93 : List aC := pR zs92 40 0 (3 + 3)
def zs94 : List aC := pR zs93 40 1 (18 + 3)
theorem nX9_init_21 {E : aE} {P : hI_ → hJ_ → Prop} {I : hI_} {J : hJ_} (hZ : ZA 41 I J) (k : P (I) J) : CallN E mX9_init [.ref 40, .ref 3, .ref 18] zs90 I J zs94 P := by
  refine Call_of (L := [.ref 40, .ref 3, .ref 18]) ok_X9_init.1 rfl rfl ?_
  refine V_aload_n dX9_init_0 rfl ?_
  refine V_oinit dX9_init_1 oo_X9_3 rfl ?_
  refine V_aload_n dX9_init_4 rfl ?_
  refine V_iconst (v := (5 : Int32)) dX9_init_5 rfl ?_
  refine N_newI (S2 := zs91) (N := 5) (a := 41) dX9_init_6 (by decide) (by decide) (by decide) rfl (by decide +kernel) hZ rfl ?_
  refine N_putFR (S2 := zs92) dX9_init_8 ff_X9_9 rfl rfl (show zs91[40]? = some (.inr (9, [2, 2, 2])) by decide +kernel) rfl rfl ?_
  refine V_aload_n dX9_init_11 rfl ?_
  refine V_aload_n dX9_init_12 rfl ?_
  refine N_putFR (S2 := zs93) dX9_init_13 ff_X9_15 rfl rfl (show zs92[40]? = some (.inr (9, [2, 2, 44])) by decide +kernel) rfl rfl ?_
  refine V_aload_n dX9_init_16 rfl ?_
  refine V_aload_n dX9_init_17 rfl ?_
  refine N_putFR (S2 := zs94) dX9_init_18 ff_X9_19 rfl rfl (show zs93[40]? = some (.inr (9, [6, 2, 44])) by decide +kernel) rfl rfl ?_
  exact V_vret dX9_init_21 rfl rfl rfl ⟨_, _, rfl, k⟩
theorem nX9_init_21z {I : hI_} {J : hJ_} (hZ : ZA 41 I J) : ZA 42 (I) J := (ZA_mono (M := 42) (by decide) hZ)
def zs95 : List aC := pR zs94 0 9 (40 + 3)
theorem nX11_22 {E : aE} {K : Value → aH → Prop} {I : hI_} {J : hJ_} (hZ : ZA 40 I J) (k : V E mX11_init K 155 [.ref 0, .retAddr 0] [] (zs95, I, J) (41, 1056)) : V E mX11_init K 136 [.ref 0, .retAddr 0] [] (zs89, I, J) (39, 1048) := by
  refine V_aload_n dX11_init_136 rfl ?_
  refine N_new (S2 := zs90) (a := 40) dX11_init_137 rfl (gt_2 76 rfl rfl) (gt_2 77 rfl rfl) (gt_1 12 rfl rfl) bok_9 rfl (by decide +kernel) hZ rfl ?_
  refine V_dupR dX11_init_140 ?_
  refine V_aload_n dX11_init_141 rfl ?_
  refine U_getR dX11_init_142 fl_X11_19 (show zs90[0]? = some (.inr (11, [4, 6, 13, 20, 21, 24, 31, 32, 39, 2, 2, 2, 0, 0])) by decide +kernel) rfl ?_
  refine V_aload_n dX11_init_145 rfl ?_
  refine U_getR dX11_init_146 fl_X11_40 (show zs90[0]? = some (.inr (11, [4, 6, 13, 20, 21, 24, 31, 32, 39, 2, 2, 2, 0, 0])) by decide +kernel) rfl ?_
  refine N_callI0 (S2 := zs94) [.ref 3, .ref 18] dX11_init_149 oi_X11_75 rfl rfl rfl rfl rfl (nX9_init_21 (ZA_mono (M := 41) (by decide) hZ) ?_)
  refine N_putFR (S2 := zs95) dX11_init_152 ff_X11_78 rfl rfl (show zs94[0]? = some (.inr (11, [4, 6, 13, 20, 21, 24, 31, 32, 39, 2, 2, 2, 0, 0])) by decide +kernel) rfl rfl ?_
  exact k
theorem nX11_22z {I : hI_} {J : hJ_} (hZ : ZA 40 I J) : ZA 42 (I) J := (ZA_mono (M := 42) (by decide) hZ)
def zs96 : List aC := zs95 ++ [.inr (10, bfs 10 3)]
def zs97 : List aC := zs96 ++ [.inl (3, 25, [])]
def zs98 : List aC := pR zs97 42 1 (43 + 3)
def zs99 : List aC := zs98 ++ [.inl (3, 25, [])]
def zs100 : List aC := pR zs99 42 2 (44 + 3)
def zs101 : List aC := pR zs100 42 0 (3 + 3)
theorem nX10_init_23 {E : aE} {P : hI_ → hJ_ → Prop} {I : hI_} {J : hJ_} (hZ : ZA 43 I J) (k : P (I) J) : CallN E mX10_init [.ref 42, .ref 3] zs96 I J zs101 P := by
  refine Call_of (L := [.ref 42, .ref 3]) ok_X10_init.1 rfl rfl ?_
  refine V_aload_n dX10_init_0 rfl ?_
  refine V_oinit dX10_init_1 oo_X10_3 rfl ?_
  refine V_aload_n dX10_init_4 rfl ?_
  refine V_bipush (v := (25 : Int32)) dX10_init_5 rfl ?_
  refine N_newJ (S2 := zs97) (N := 25) (a := 43) dX10_init_7 (by decide) (by decide) (by decide) rfl (by decide +kernel) hZ rfl ?_
  refine N_putFR (S2 := zs98) dX10_init_9 ff_X10_11 rfl rfl (show zs97[42]? = some (.inr (10, [2, 2, 2])) by decide +kernel) rfl rfl ?_
  refine V_aload_n dX10_init_12 rfl ?_
  refine V_bipush (v := (25 : Int32)) dX10_init_13 rfl ?_
  refine N_newJ (S2 := zs99) (N := 25) (a := 44) dX10_init_15 (by decide) (by decide) (by decide) rfl (by decide +kernel) (ZA_mono (M := 44) (by decide) hZ) rfl ?_
  refine N_putFR (S2 := zs100) dX10_init_17 ff_X10_15 rfl rfl (show zs99[42]? = some (.inr (10, [2, 46, 2])) by decide +kernel) rfl rfl ?_
  refine V_aload_n dX10_init_20 rfl ?_
  refine V_aload_n dX10_init_21 rfl ?_
  refine N_putFR (S2 := zs101) dX10_init_22 ff_X10_18 rfl rfl (show zs100[42]? = some (.inr (10, [2, 46, 47])) by decide +kernel) rfl rfl ?_
  exact V_vret dX10_init_25 rfl rfl rfl ⟨_, _, rfl, k⟩
theorem nX10_init_23z {I : hI_} {J : hJ_} (hZ : ZA 43 I J) : ZA 45 (I) J := (ZA_mono (M := 45) (by decide) hZ)
def zs102 : List aC := pR zs101 0 10 (42 + 3)
theorem nX11_24 {E : aE} {K : Value → aH → Prop} {I : hI_} {J : hJ_} (hZ : ZA 42 I J) (k : V E mX11_init K 170 [.ref 0, .retAddr 0] [] (zs102, I, J) (44, 1109)) : V E mX11_init K 155 [.ref 0, .retAddr 0] [] (zs95, I, J) (41, 1056) := by
  refine V_aload_n dX11_init_155 rfl ?_
  refine N_new (S2 := zs96) (a := 42) dX11_init_156 rfl (gt_2 93 rfl rfl) (gt_2 94 rfl rfl) (gt_1 13 rfl rfl) bok_10 rfl (by decide +kernel) hZ rfl ?_
  refine V_dupR dX11_init_159 ?_
  refine V_aload_n dX11_init_160 rfl ?_
  refine U_getR dX11_init_161 fl_X11_19 (show zs96[0]? = some (.inr (11, [4, 6, 13, 20, 21, 24, 31, 32, 39, 43, 2, 2, 0, 0])) by decide +kernel) rfl ?_
  refine N_callI0 (S2 := zs101) [.ref 3] dX11_init_164 oi_X11_84 rfl rfl rfl rfl rfl (nX10_init_23 (ZA_mono (M := 43) (by decide) hZ) ?_)
  refine N_putFR (S2 := zs102) dX11_init_167 ff_X11_85 rfl rfl (show zs101[0]? = some (.inr (11, [4, 6, 13, 20, 21, 24, 31, 32, 39, 43, 2, 2, 0, 0])) by decide +kernel) rfl rfl ?_
  exact k
theorem nX11_24z {I : hI_} {J : hJ_} (hZ : ZA 42 I J) : ZA 45 (I) J := (ZA_mono (M := 45) (by decide) hZ)
def zs103 : List aC := zs102 ++ [.inl (5, 4, List.replicate 4 2)]
def zs104 : List aC := pR zs103 0 11 (45 + 3)
theorem nX11_25 {E : aE} {K : Value → aH → Prop} {I : hI_} {J : hJ_} (hZ : ZA 45 I J) (k : V E mX11_init K 178 [.ref 0, .retAddr 0] [] (zs104, I, J) (45, 1113)) : V E mX11_init K 170 [.ref 0, .retAddr 0] [] (zs102, I, J) (44, 1109) := by
  refine V_aload_n dX11_init_170 rfl ?_
  refine V_iconst (v := (4 : Int32)) dX11_init_171 rfl ?_
  refine N_newR5 (S2 := zs103) (N := 4) (a := 45) dX11_init_172 (gt_2 111 rfl rfl) (by decide) (by decide) (by decide) rfl (by decide +kernel) hZ rfl ?_
  refine N_putFR (S2 := zs104) dX11_init_175 ff_X11_91 rfl rfl (show zs103[0]? = some (.inr (11, [4, 6, 13, 20, 21, 24, 31, 32, 39, 43, 45, 2, 0, 0])) by decide +kernel) rfl rfl ?_
  exact k
theorem nX11_25z {I : hI_} {J : hJ_} (hZ : ZA 45 I J) : ZA 46 (I) J := (ZA_mono (M := 46) (by decide) hZ)
def zs105 : List aC := zs104 ++ [.inr (1, bfs 1 5)]
def zs106 : List aC := zs105 ++ [.inr (5, bfs 5 4)]
def zs107 : List aC := zs106 ++ [.inl (0, 72, [])]
def zs108 : List aC := pR zs107 47 2 (48 + 3)
theorem nX5_init_27 {E : aE} {P : hI_ → hJ_ → Prop} {I : hI_} {J : hJ_} (hZ : ZA 48 I J) (k : P (upI (upI I 47 0 (24 : Int32)) 47 1 (3 : Int32)) J) : CallN E mX5_init [.ref 47, .int (24 : Int32), .int (3 : Int32)] zs106 I J zs108 P := by
  refine Call_of (L := [.ref 47, .int (24 : Int32), .int (3 : Int32)]) ok_X5_init.1 rfl rfl ?_
  refine V_aload_n dX5_init_0 rfl ?_
  refine V_oinit dX5_init_1 oo_X5_1 rfl ?_
  refine V_aload_n dX5_init_4 rfl ?_
  refine V_iload_n dX5_init_5 rfl ?_
  refine V_iconst (v := (0 : Int32)) dX5_init_6 rfl ?_
  refine N_mmax (v := (24 : Int32)) dX5_init_7 om_X5_7 rfl (by decide) ?_
  refine N_putFI dX5_init_10 ff_X5_13 rfl (show zs106[47]? = some (.inr (5, [0, 0, 2, 0])) by decide +kernel) rfl ?_
  refine V_aload_n dX5_init_13 rfl ?_
  refine V_iload_n dX5_init_14 rfl ?_
  refine V_iconst (v := (0 : Int32)) dX5_init_15 rfl ?_
  refine N_mmax (v := (3 : Int32)) dX5_init_16 om_X5_7 rfl (by decide) ?_
  refine N_putFI dX5_init_19 ff_X5_19 rfl (show zs106[47]? = some (.inr (5, [0, 0, 2, 0])) by decide +kernel) rfl ?_
  refine V_aload_n dX5_init_22 rfl ?_
  refine V_aload_n dX5_init_23 rfl ?_
  refine U_getIx (x := (24 : Int32)) dX5_init_24 fl_X5_13 (show zs106[47]? = some (.inr (5, [0, 0, 2, 0])) by decide +kernel) rfl rfl ?_
  refine V_aload_n dX5_init_27 rfl ?_
  refine U_getIx (x := (3 : Int32)) dX5_init_28 fl_X5_19 (show zs106[47]? = some (.inr (5, [0, 0, 2, 0])) by decide +kernel) rfl rfl ?_
  refine N_imul (v := (72 : Int32)) dX5_init_31 (by decide) ?_
  refine N_newI (S2 := zs107) (N := 72) (a := 48) dX5_init_32 (by decide) (by decide) (by decide) rfl (by decide +kernel) (ZA_up (by decide) (ZA_up (by decide) hZ)) rfl ?_
  refine N_putFR (S2 := zs108) dX5_init_34 ff_X5_22 rfl rfl (show zs107[47]? = some (.inr (5, [0, 0, 2, 0])) by decide +kernel) rfl rfl ?_
  refine V_wslots (n := 120) rfl ?_
  exact V_vret dX5_init_37 rfl rfl rfl ⟨_, _, rfl, k⟩
theorem nX5_init_27z {I : hI_} {J : hJ_} (hZ : ZA 48 I J) : ZA 49 (upI (upI I 47 0 (24 : Int32)) 47 1 (3 : Int32)) J := (ZA_mono (M := 49) (by decide) (ZA_up (by decide) (ZA_up (by decide) hZ)))
def zs109 : List aC := pR zs108 46 1 (47 + 3)
def zs110 : List aC := zs109 ++ [.inr (5, bfs 5 4)]
def zs111 : List aC := zs110 ++ [.inl (0, 96, [])]
def zs112 : List aC := pR zs111 49 2 (50 + 3)
theorem nX5_init_28 {E : aE} {P : hI_ → hJ_ → Prop} {I : hI_} {J : hJ_} (hZ : ZA 50 I J) (k : P (upI (upI I 49 0 (12 : Int32)) 49 1 (8 : Int32)) J) : CallN E mX5_init [.ref 49, .int (12 : Int32), .int (8 : Int32)] zs110 I J zs112 P := by
  refine Call_of (L := [.ref 49, .int (12 : Int32), .int (8 : Int32)]) ok_X5_init.1 rfl rfl ?_
  refine V_aload_n dX5_init_0 rfl ?_
  refine V_oinit dX5_init_1 oo_X5_1 rfl ?_
  refine V_aload_n dX5_init_4 rfl ?_
  refine V_iload_n dX5_init_5 rfl ?_
  refine V_iconst (v := (0 : Int32)) dX5_init_6 rfl ?_
  refine N_mmax (v := (12 : Int32)) dX5_init_7 om_X5_7 rfl (by decide) ?_
  refine N_putFI dX5_init_10 ff_X5_13 rfl (show zs110[49]? = some (.inr (5, [0, 0, 2, 0])) by decide +kernel) rfl ?_
  refine V_aload_n dX5_init_13 rfl ?_
  refine V_iload_n dX5_init_14 rfl ?_
  refine V_iconst (v := (0 : Int32)) dX5_init_15 rfl ?_
  refine N_mmax (v := (8 : Int32)) dX5_init_16 om_X5_7 rfl (by decide) ?_
  refine N_putFI dX5_init_19 ff_X5_19 rfl (show zs110[49]? = some (.inr (5, [0, 0, 2, 0])) by decide +kernel) rfl ?_
  refine V_aload_n dX5_init_22 rfl ?_
  refine V_aload_n dX5_init_23 rfl ?_
  refine U_getIx (x := (12 : Int32)) dX5_init_24 fl_X5_13 (show zs110[49]? = some (.inr (5, [0, 0, 2, 0])) by decide +kernel) rfl rfl ?_
  refine V_aload_n dX5_init_27 rfl ?_
  refine U_getIx (x := (8 : Int32)) dX5_init_28 fl_X5_19 (show zs110[49]? = some (.inr (5, [0, 0, 2, 0])) by decide +kernel) rfl rfl ?_
  refine N_imul (v := (96 : Int32)) dX5_init_31 (by decide) ?_
  refine N_newI (S2 := zs111) (N := 96) (a := 50) dX5_init_32 (by decide) (by decide) (by decide) rfl (by decide +kernel) (ZA_up (by decide) (ZA_up (by decide) hZ)) rfl ?_
  refine N_putFR (S2 := zs112) dX5_init_34 ff_X5_22 rfl rfl (show zs111[49]? = some (.inr (5, [0, 0, 2, 0])) by decide +kernel) rfl rfl ?_
  refine V_wslots (n := 120) rfl ?_
  exact V_vret dX5_init_37 rfl rfl rfl ⟨_, _, rfl, k⟩
theorem nX5_init_28z {I : hI_} {J : hJ_} (hZ : ZA 50 I J) : ZA 51 (upI (upI I 49 0 (12 : Int32)) 49 1 (8 : Int32)) J := (ZA_mono (M := 51) (by decide) (ZA_up (by decide) (ZA_up (by decide) hZ)))
def zs113 : List aC := pR zs112 46 2 (49 + 3)
def zs114 : List aC := zs113 ++ [.inr (5, bfs 5 4)]
def zs115 : List aC := zs114 ++ [.inl (0, 120, [])]
def zs116 : List aC := pR zs115 51 2 (52 + 3)
theorem nX5_init_29 {E : aE} {P : hI_ → hJ_ → Prop} {I : hI_} {J : hJ_} (hZ : ZA 52 I J) (k : P (upI (upI I 51 0 (24 : Int32)) 51 1 (5 : Int32)) J) : CallN E mX5_init [.ref 51, .int (24 : Int32), .int (5 : Int32)] zs114 I J zs116 P := by
  refine Call_of (L := [.ref 51, .int (24 : Int32), .int (5 : Int32)]) ok_X5_init.1 rfl rfl ?_
  refine V_aload_n dX5_init_0 rfl ?_
  refine V_oinit dX5_init_1 oo_X5_1 rfl ?_
  refine V_aload_n dX5_init_4 rfl ?_
  refine V_iload_n dX5_init_5 rfl ?_
  refine V_iconst (v := (0 : Int32)) dX5_init_6 rfl ?_
  refine N_mmax (v := (24 : Int32)) dX5_init_7 om_X5_7 rfl (by decide) ?_
  refine N_putFI dX5_init_10 ff_X5_13 rfl (show zs114[51]? = some (.inr (5, [0, 0, 2, 0])) by decide +kernel) rfl ?_
  refine V_aload_n dX5_init_13 rfl ?_
  refine V_iload_n dX5_init_14 rfl ?_
  refine V_iconst (v := (0 : Int32)) dX5_init_15 rfl ?_
  refine N_mmax (v := (5 : Int32)) dX5_init_16 om_X5_7 rfl (by decide) ?_
  refine N_putFI dX5_init_19 ff_X5_19 rfl (show zs114[51]? = some (.inr (5, [0, 0, 2, 0])) by decide +kernel) rfl ?_
  refine V_aload_n dX5_init_22 rfl ?_
  refine V_aload_n dX5_init_23 rfl ?_
  refine U_getIx (x := (24 : Int32)) dX5_init_24 fl_X5_13 (show zs114[51]? = some (.inr (5, [0, 0, 2, 0])) by decide +kernel) rfl rfl ?_
  refine V_aload_n dX5_init_27 rfl ?_
  refine U_getIx (x := (5 : Int32)) dX5_init_28 fl_X5_19 (show zs114[51]? = some (.inr (5, [0, 0, 2, 0])) by decide +kernel) rfl rfl ?_
  refine N_imul (v := (120 : Int32)) dX5_init_31 (by decide) ?_
  refine N_newI (S2 := zs115) (N := 120) (a := 52) dX5_init_32 (by decide) (by decide) (by decide) rfl (by decide +kernel) (ZA_up (by decide) (ZA_up (by decide) hZ)) rfl ?_
  refine N_putFR (S2 := zs116) dX5_init_34 ff_X5_22 rfl rfl (show zs115[51]? = some (.inr (5, [0, 0, 2, 0])) by decide +kernel) rfl rfl ?_
  exact V_vret dX5_init_37 rfl rfl rfl ⟨_, _, rfl, k⟩
theorem nX5_init_29z {I : hI_} {J : hJ_} (hZ : ZA 52 I J) : ZA 53 (upI (upI I 51 0 (24 : Int32)) 51 1 (5 : Int32)) J := (ZA_mono (M := 53) (by decide) (ZA_up (by decide) (ZA_up (by decide) hZ)))
def zs117 : List aC := pR zs116 46 3 (51 + 3)
def zs118 : List aC := pR zs117 46 0 (3 + 3)
theorem nX1_init_26 {E : aE} {P : hI_ → hJ_ → Prop} {I : hI_} {J : hJ_} (hZ : ZA 47 I J) (k : P (upI (upI (upI (upI (upI (upI I 47 0 (24 : Int32)) 47 1 (3 : Int32)) 49 0 (12 : Int32)) 49 1 (8 : Int32)) 51 0 (24 : Int32)) 51 1 (5 : Int32)) J) : CallN E mX1_init [.ref 46, .ref 3] zs105 I J zs118 P := by
  refine Call_of (L := [.ref 46, .ref 3]) ok_X1_init.1 rfl rfl ?_
  refine V_aload_n dX1_init_0 rfl ?_
  refine V_oinit dX1_init_1 oo_X1_3 rfl ?_
  refine V_aload_n dX1_init_4 rfl ?_
  refine N_new (S2 := zs106) (a := 47) dX1_init_5 rfl (gt_1 191 rfl rfl) (gt_1 192 rfl rfl) (gt_1 8 rfl rfl) bok_5 rfl (by decide +kernel) hZ rfl ?_
  refine V_dupR dX1_init_8 ?_
  refine V_bipush (v := (24 : Int32)) dX1_init_9 rfl ?_
  refine V_iconst (v := (3 : Int32)) dX1_init_11 rfl ?_
  refine N_callI0 (S2 := zs108) [.int (24 : Int32), .int (3 : Int32)] dX1_init_12 oi_X1_11 rfl rfl rfl rfl rfl (nX5_init_27 (ZA_mono (M := 48) (by decide) hZ) ?_)
  refine N_putFR (S2 := zs109) dX1_init_15 ff_X1_14 rfl rfl (show zs108[46]? = some (.inr (1, [2, 2, 2, 2, 0])) by decide +kernel) rfl rfl ?_
  refine V_aload_n dX1_init_18 rfl ?_
  refine N_new (S2 := zs110) (a := 49) dX1_init_19 rfl (gt_1 191 rfl rfl) (gt_1 192 rfl rfl) (gt_1 8 rfl rfl) bok_5 rfl (by decide +kernel) (nX5_init_27z (ZA_mono (M := 48) (by decide) hZ)) rfl ?_
  refine V_dupR dX1_init_22 ?_
  refine V_bipush (v := (12 : Int32)) dX1_init_23 rfl ?_
  refine V_bipush (v := (8 : Int32)) dX1_init_25 rfl ?_
  refine N_callI0 (S2 := zs112) [.int (12 : Int32), .int (8 : Int32)] dX1_init_27 oi_X1_11 rfl rfl rfl rfl rfl (nX5_init_28 (ZA_mono (M := 50) (by decide) (nX5_init_27z (ZA_mono (M := 48) (by decide) hZ))) ?_)
  refine N_putFR (S2 := zs113) dX1_init_30 ff_X1_20 rfl rfl (show zs112[46]? = some (.inr (1, [2, 50, 2, 2, 0])) by decide +kernel) rfl rfl ?_
  refine V_aload_n dX1_init_33 rfl ?_
  refine N_new (S2 := zs114) (a := 51) dX1_init_34 rfl (gt_1 191 rfl rfl) (gt_1 192 rfl rfl) (gt_1 8 rfl rfl) bok_5 rfl (by decide +kernel) (nX5_init_28z (ZA_mono (M := 50) (by decide) (nX5_init_27z (ZA_mono (M := 48) (by decide) hZ)))) rfl ?_
  refine V_dupR dX1_init_37 ?_
  refine V_bipush (v := (24 : Int32)) dX1_init_38 rfl ?_
  refine V_iconst (v := (5 : Int32)) dX1_init_40 rfl ?_
  refine N_callI0 (S2 := zs116) [.int (24 : Int32), .int (5 : Int32)] dX1_init_41 oi_X1_11 rfl rfl rfl rfl rfl (nX5_init_29 (ZA_mono (M := 52) (by decide) (nX5_init_28z (ZA_mono (M := 50) (by decide) (nX5_init_27z (ZA_mono (M := 48) (by decide) hZ))))) ?_)
  refine N_putFR (S2 := zs117) dX1_init_44 ff_X1_23 rfl rfl (show zs116[46]? = some (.inr (1, [2, 50, 52, 2, 0])) by decide +kernel) rfl rfl ?_
  refine V_aload_n dX1_init_47 rfl ?_
  refine V_aload_n dX1_init_48 rfl ?_
  refine N_putFR (S2 := zs118) dX1_init_49 ff_X1_26 rfl rfl (show zs117[46]? = some (.inr (1, [2, 50, 52, 54, 0])) by decide +kernel) rfl rfl ?_
  exact V_vret dX1_init_52 rfl rfl rfl ⟨_, _, rfl, k⟩
theorem nX1_init_26z {I : hI_} {J : hJ_} (hZ : ZA 47 I J) : ZA 53 (upI (upI (upI (upI (upI (upI I 47 0 (24 : Int32)) 47 1 (3 : Int32)) 49 0 (12 : Int32)) 49 1 (8 : Int32)) 51 0 (24 : Int32)) 51 1 (5 : Int32)) J := (nX5_init_29z (ZA_mono (M := 52) (by decide) (nX5_init_28z (ZA_mono (M := 50) (by decide) (nX5_init_27z (ZA_mono (M := 48) (by decide) hZ))))))
def zs119 : List aC := pR zs118 28 0 (46 + 3)
theorem nX11_30 {E : aE} {K : Value → aH → Prop} {I : hI_} {J : hJ_} (hZ : ZA 46 I J) (k : V E mX11_init K 202 [.ref 0, .int (0 : Int32)] [] (zs119, upI (upI (upI (upI (upI (upI I 47 0 (24 : Int32)) 47 1 (3 : Int32)) 49 0 (12 : Int32)) 49 1 (8 : Int32)) 51 0 (24 : Int32)) 51 1 (5 : Int32), J) (52, 1490)) : V E mX11_init K 178 [.ref 0, .retAddr 0] [] (zs104, I, J) (45, 1113) := by
  refine V_iconst (v := (0 : Int32)) dX11_init_178 rfl ?_
  refine U_istore_n (L2 := [.ref 0, .int (0 : Int32)]) dX11_init_179 (by decide) rfl ?_
  refine V_iload_n dX11_init_180 rfl ?_
  refine V_iconst (v := (2 : Int32)) dX11_init_181 rfl ?_
  refine V_icmp_ge dX11_init_182 (fun q => absurd q (by decide)) (fun _ => ?_)
  refine V_aload_n dX11_init_185 rfl ?_
  refine U_getR dX11_init_186 fl_X11_51 (show zs104[0]? = some (.inr (11, [4, 6, 13, 20, 21, 24, 31, 32, 39, 43, 45, 48, 0, 0])) by decide +kernel) rfl ?_
  refine V_iload_n dX11_init_189 rfl ?_
  refine N_new (S2 := zs105) (a := 46) dX11_init_190 rfl (gt_1 185 rfl rfl) (gt_1 186 rfl rfl) (gt_1 7 rfl rfl) bok_1 rfl (by decide +kernel) hZ rfl ?_
  refine V_dupR dX11_init_193 ?_
  refine V_aload_n dX11_init_194 rfl ?_
  refine U_getR dX11_init_195 fl_X11_19 (show zs105[0]? = some (.inr (11, [4, 6, 13, 20, 21, 24, 31, 32, 39, 43, 45, 48, 0, 0])) by decide +kernel) rfl ?_
  refine N_callI0 (S2 := zs118) [.ref 3] dX11_init_198 oi_X11_46 rfl rfl rfl rfl rfl (nX1_init_26 (ZA_mono (M := 47) (by decide) hZ) ?_)
  refine N_aast0 (S2 := zs119) (q := 0) dX11_init_201 (show zs118[28]? = some (.inl (4, 2, [2, 2])) by decide +kernel) (show zs118[46]? = some (.inr (1, [6, 50, 52, 54, 0])) by decide +kernel) rfl (by unfold vp_in; decide) (by decide) (by decide) rfl ?_
  exact k
theorem nX11_30z {I : hI_} {J : hJ_} (hZ : ZA 46 I J) : ZA 53 (upI (upI (upI (upI (upI (upI I 47 0 (24 : Int32)) 47 1 (3 : Int32)) 49 0 (12 : Int32)) 49 1 (8 : Int32)) 51 0 (24 : Int32)) 51 1 (5 : Int32)) J := (ZA_up (by decide) (ZA_up (by decide) (ZA_up (by decide) (ZA_up (by decide) (ZA_up (by decide) (ZA_up (by decide) (ZA_mono (M := 53) (by decide) hZ)))))))
def zs120 : List aC := zs119 ++ [.inr (1, bfs 1 5)]
def zs121 : List aC := zs120 ++ [.inr (5, bfs 5 4)]
def zs122 : List aC := zs121 ++ [.inl (0, 72, [])]
def zs123 : List aC := pR zs122 54 2 (55 + 3)
theorem nX5_init_32 {E : aE} {P : hI_ → hJ_ → Prop} {I : hI_} {J : hJ_} (hZ : ZA 55 I J) (k : P (upI (upI I 54 0 (24 : Int32)) 54 1 (3 : Int32)) J) : CallN E mX5_init [.ref 54, .int (24 : Int32), .int (3 : Int32)] zs121 I J zs123 P := by
  refine Call_of (L := [.ref 54, .int (24 : Int32), .int (3 : Int32)]) ok_X5_init.1 rfl rfl ?_
  refine V_aload_n dX5_init_0 rfl ?_
  refine V_oinit dX5_init_1 oo_X5_1 rfl ?_
  refine V_aload_n dX5_init_4 rfl ?_
  refine V_iload_n dX5_init_5 rfl ?_
  refine V_iconst (v := (0 : Int32)) dX5_init_6 rfl ?_
  refine N_mmax (v := (24 : Int32)) dX5_init_7 om_X5_7 rfl (by decide) ?_
  refine N_putFI dX5_init_10 ff_X5_13 rfl (show zs121[54]? = some (.inr (5, [0, 0, 2, 0])) by decide +kernel) rfl ?_
  refine V_aload_n dX5_init_13 rfl ?_
  refine V_iload_n dX5_init_14 rfl ?_
  refine V_iconst (v := (0 : Int32)) dX5_init_15 rfl ?_
  refine N_mmax (v := (3 : Int32)) dX5_init_16 om_X5_7 rfl (by decide) ?_
  refine N_putFI dX5_init_19 ff_X5_19 rfl (show zs121[54]? = some (.inr (5, [0, 0, 2, 0])) by decide +kernel) rfl ?_
  refine V_aload_n dX5_init_22 rfl ?_
  refine V_aload_n dX5_init_23 rfl ?_
  refine U_getIx (x := (24 : Int32)) dX5_init_24 fl_X5_13 (show zs121[54]? = some (.inr (5, [0, 0, 2, 0])) by decide +kernel) rfl rfl ?_
  refine V_aload_n dX5_init_27 rfl ?_
  refine U_getIx (x := (3 : Int32)) dX5_init_28 fl_X5_19 (show zs121[54]? = some (.inr (5, [0, 0, 2, 0])) by decide +kernel) rfl rfl ?_
  refine N_imul (v := (72 : Int32)) dX5_init_31 (by decide) ?_
  refine N_newI (S2 := zs122) (N := 72) (a := 55) dX5_init_32 (by decide) (by decide) (by decide) rfl (by decide +kernel) (ZA_up (by decide) (ZA_up (by decide) hZ)) rfl ?_
  refine N_putFR (S2 := zs123) dX5_init_34 ff_X5_22 rfl rfl (show zs122[54]? = some (.inr (5, [0, 0, 2, 0])) by decide +kernel) rfl rfl ?_
  refine V_wslots (n := 120) rfl ?_
  exact V_vret dX5_init_37 rfl rfl rfl ⟨_, _, rfl, k⟩
theorem nX5_init_32z {I : hI_} {J : hJ_} (hZ : ZA 55 I J) : ZA 56 (upI (upI I 54 0 (24 : Int32)) 54 1 (3 : Int32)) J := (ZA_mono (M := 56) (by decide) (ZA_up (by decide) (ZA_up (by decide) hZ)))
def zs124 : List aC := pR zs123 53 1 (54 + 3)
def zs125 : List aC := zs124 ++ [.inr (5, bfs 5 4)]
def zs126 : List aC := zs125 ++ [.inl (0, 96, [])]
def zs127 : List aC := pR zs126 56 2 (57 + 3)
theorem nX5_init_33 {E : aE} {P : hI_ → hJ_ → Prop} {I : hI_} {J : hJ_} (hZ : ZA 57 I J) (k : P (upI (upI I 56 0 (12 : Int32)) 56 1 (8 : Int32)) J) : CallN E mX5_init [.ref 56, .int (12 : Int32), .int (8 : Int32)] zs125 I J zs127 P := by
  refine Call_of (L := [.ref 56, .int (12 : Int32), .int (8 : Int32)]) ok_X5_init.1 rfl rfl ?_
  refine V_aload_n dX5_init_0 rfl ?_
  refine V_oinit dX5_init_1 oo_X5_1 rfl ?_
  refine V_aload_n dX5_init_4 rfl ?_
  refine V_iload_n dX5_init_5 rfl ?_
  refine V_iconst (v := (0 : Int32)) dX5_init_6 rfl ?_
  refine N_mmax (v := (12 : Int32)) dX5_init_7 om_X5_7 rfl (by decide) ?_
  refine N_putFI dX5_init_10 ff_X5_13 rfl (show zs125[56]? = some (.inr (5, [0, 0, 2, 0])) by decide +kernel) rfl ?_
  refine V_aload_n dX5_init_13 rfl ?_
  refine V_iload_n dX5_init_14 rfl ?_
  refine V_iconst (v := (0 : Int32)) dX5_init_15 rfl ?_
  refine N_mmax (v := (8 : Int32)) dX5_init_16 om_X5_7 rfl (by decide) ?_
  refine N_putFI dX5_init_19 ff_X5_19 rfl (show zs125[56]? = some (.inr (5, [0, 0, 2, 0])) by decide +kernel) rfl ?_
  refine V_aload_n dX5_init_22 rfl ?_
  refine V_aload_n dX5_init_23 rfl ?_
  refine U_getIx (x := (12 : Int32)) dX5_init_24 fl_X5_13 (show zs125[56]? = some (.inr (5, [0, 0, 2, 0])) by decide +kernel) rfl rfl ?_
  refine V_aload_n dX5_init_27 rfl ?_
  refine U_getIx (x := (8 : Int32)) dX5_init_28 fl_X5_19 (show zs125[56]? = some (.inr (5, [0, 0, 2, 0])) by decide +kernel) rfl rfl ?_
  refine N_imul (v := (96 : Int32)) dX5_init_31 (by decide) ?_
  refine N_newI (S2 := zs126) (N := 96) (a := 57) dX5_init_32 (by decide) (by decide) (by decide) rfl (by decide +kernel) (ZA_up (by decide) (ZA_up (by decide) hZ)) rfl ?_
  refine N_putFR (S2 := zs127) dX5_init_34 ff_X5_22 rfl rfl (show zs126[56]? = some (.inr (5, [0, 0, 2, 0])) by decide +kernel) rfl rfl ?_
  refine V_wslots (n := 120) rfl ?_
  exact V_vret dX5_init_37 rfl rfl rfl ⟨_, _, rfl, k⟩
theorem nX5_init_33z {I : hI_} {J : hJ_} (hZ : ZA 57 I J) : ZA 58 (upI (upI I 56 0 (12 : Int32)) 56 1 (8 : Int32)) J := (ZA_mono (M := 58) (by decide) (ZA_up (by decide) (ZA_up (by decide) hZ)))
def zs128 : List aC := pR zs127 53 2 (56 + 3)
def zs129 : List aC := zs128 ++ [.inr (5, bfs 5 4)]
def zs130 : List aC := zs129 ++ [.inl (0, 120, [])]
def zs131 : List aC := pR zs130 58 2 (59 + 3)
theorem nX5_init_34 {E : aE} {P : hI_ → hJ_ → Prop} {I : hI_} {J : hJ_} (hZ : ZA 59 I J) (k : P (upI (upI I 58 0 (24 : Int32)) 58 1 (5 : Int32)) J) : CallN E mX5_init [.ref 58, .int (24 : Int32), .int (5 : Int32)] zs129 I J zs131 P := by
  refine Call_of (L := [.ref 58, .int (24 : Int32), .int (5 : Int32)]) ok_X5_init.1 rfl rfl ?_
  refine V_aload_n dX5_init_0 rfl ?_
  refine V_oinit dX5_init_1 oo_X5_1 rfl ?_
  refine V_aload_n dX5_init_4 rfl ?_
  refine V_iload_n dX5_init_5 rfl ?_
  refine V_iconst (v := (0 : Int32)) dX5_init_6 rfl ?_
  refine N_mmax (v := (24 : Int32)) dX5_init_7 om_X5_7 rfl (by decide) ?_
  refine N_putFI dX5_init_10 ff_X5_13 rfl (show zs129[58]? = some (.inr (5, [0, 0, 2, 0])) by decide +kernel) rfl ?_
  refine V_aload_n dX5_init_13 rfl ?_
  refine V_iload_n dX5_init_14 rfl ?_
  refine V_iconst (v := (0 : Int32)) dX5_init_15 rfl ?_
  refine N_mmax (v := (5 : Int32)) dX5_init_16 om_X5_7 rfl (by decide) ?_
  refine N_putFI dX5_init_19 ff_X5_19 rfl (show zs129[58]? = some (.inr (5, [0, 0, 2, 0])) by decide +kernel) rfl ?_
  refine V_aload_n dX5_init_22 rfl ?_
  refine V_aload_n dX5_init_23 rfl ?_
  refine U_getIx (x := (24 : Int32)) dX5_init_24 fl_X5_13 (show zs129[58]? = some (.inr (5, [0, 0, 2, 0])) by decide +kernel) rfl rfl ?_
  refine V_aload_n dX5_init_27 rfl ?_
  refine U_getIx (x := (5 : Int32)) dX5_init_28 fl_X5_19 (show zs129[58]? = some (.inr (5, [0, 0, 2, 0])) by decide +kernel) rfl rfl ?_
  refine N_imul (v := (120 : Int32)) dX5_init_31 (by decide) ?_
  refine N_newI (S2 := zs130) (N := 120) (a := 59) dX5_init_32 (by decide) (by decide) (by decide) rfl (by decide +kernel) (ZA_up (by decide) (ZA_up (by decide) hZ)) rfl ?_
  refine N_putFR (S2 := zs131) dX5_init_34 ff_X5_22 rfl rfl (show zs130[58]? = some (.inr (5, [0, 0, 2, 0])) by decide +kernel) rfl rfl ?_
  exact V_vret dX5_init_37 rfl rfl rfl ⟨_, _, rfl, k⟩
theorem nX5_init_34z {I : hI_} {J : hJ_} (hZ : ZA 59 I J) : ZA 60 (upI (upI I 58 0 (24 : Int32)) 58 1 (5 : Int32)) J := (ZA_mono (M := 60) (by decide) (ZA_up (by decide) (ZA_up (by decide) hZ)))
def zs132 : List aC := pR zs131 53 3 (58 + 3)
def zs133 : List aC := pR zs132 53 0 (3 + 3)
theorem nX1_init_31 {E : aE} {P : hI_ → hJ_ → Prop} {I : hI_} {J : hJ_} (hZ : ZA 54 I J) (k : P (upI (upI (upI (upI (upI (upI I 54 0 (24 : Int32)) 54 1 (3 : Int32)) 56 0 (12 : Int32)) 56 1 (8 : Int32)) 58 0 (24 : Int32)) 58 1 (5 : Int32)) J) : CallN E mX1_init [.ref 53, .ref 3] zs120 I J zs133 P := by
  refine Call_of (L := [.ref 53, .ref 3]) ok_X1_init.1 rfl rfl ?_
  refine V_aload_n dX1_init_0 rfl ?_
  refine V_oinit dX1_init_1 oo_X1_3 rfl ?_
  refine V_aload_n dX1_init_4 rfl ?_
  refine N_new (S2 := zs121) (a := 54) dX1_init_5 rfl (gt_1 191 rfl rfl) (gt_1 192 rfl rfl) (gt_1 8 rfl rfl) bok_5 rfl (by decide +kernel) hZ rfl ?_
  refine V_dupR dX1_init_8 ?_
  refine V_bipush (v := (24 : Int32)) dX1_init_9 rfl ?_
  refine V_iconst (v := (3 : Int32)) dX1_init_11 rfl ?_
  refine N_callI0 (S2 := zs123) [.int (24 : Int32), .int (3 : Int32)] dX1_init_12 oi_X1_11 rfl rfl rfl rfl rfl (nX5_init_32 (ZA_mono (M := 55) (by decide) hZ) ?_)
  refine N_putFR (S2 := zs124) dX1_init_15 ff_X1_14 rfl rfl (show zs123[53]? = some (.inr (1, [2, 2, 2, 2, 0])) by decide +kernel) rfl rfl ?_
  refine V_aload_n dX1_init_18 rfl ?_
  refine N_new (S2 := zs125) (a := 56) dX1_init_19 rfl (gt_1 191 rfl rfl) (gt_1 192 rfl rfl) (gt_1 8 rfl rfl) bok_5 rfl (by decide +kernel) (nX5_init_32z (ZA_mono (M := 55) (by decide) hZ)) rfl ?_
  refine V_dupR dX1_init_22 ?_
  refine V_bipush (v := (12 : Int32)) dX1_init_23 rfl ?_
  refine V_bipush (v := (8 : Int32)) dX1_init_25 rfl ?_
  refine N_callI0 (S2 := zs127) [.int (12 : Int32), .int (8 : Int32)] dX1_init_27 oi_X1_11 rfl rfl rfl rfl rfl (nX5_init_33 (ZA_mono (M := 57) (by decide) (nX5_init_32z (ZA_mono (M := 55) (by decide) hZ))) ?_)
  refine N_putFR (S2 := zs128) dX1_init_30 ff_X1_20 rfl rfl (show zs127[53]? = some (.inr (1, [2, 57, 2, 2, 0])) by decide +kernel) rfl rfl ?_
  refine V_aload_n dX1_init_33 rfl ?_
  refine N_new (S2 := zs129) (a := 58) dX1_init_34 rfl (gt_1 191 rfl rfl) (gt_1 192 rfl rfl) (gt_1 8 rfl rfl) bok_5 rfl (by decide +kernel) (nX5_init_33z (ZA_mono (M := 57) (by decide) (nX5_init_32z (ZA_mono (M := 55) (by decide) hZ)))) rfl ?_
  refine V_dupR dX1_init_37 ?_
  refine V_bipush (v := (24 : Int32)) dX1_init_38 rfl ?_
  refine V_iconst (v := (5 : Int32)) dX1_init_40 rfl ?_
  refine N_callI0 (S2 := zs131) [.int (24 : Int32), .int (5 : Int32)] dX1_init_41 oi_X1_11 rfl rfl rfl rfl rfl (nX5_init_34 (ZA_mono (M := 59) (by decide) (nX5_init_33z (ZA_mono (M := 57) (by decide) (nX5_init_32z (ZA_mono (M := 55) (by decide) hZ))))) ?_)
  refine N_putFR (S2 := zs132) dX1_init_44 ff_X1_23 rfl rfl (show zs131[53]? = some (.inr (1, [2, 57, 59, 2, 0])) by decide +kernel) rfl rfl ?_
  refine V_aload_n dX1_init_47 rfl ?_
  refine V_aload_n dX1_init_48 rfl ?_
  refine N_putFR (S2 := zs133) dX1_init_49 ff_X1_26 rfl rfl (show zs132[53]? = some (.inr (1, [2, 57, 59, 61, 0])) by decide +kernel) rfl rfl ?_
  exact V_vret dX1_init_52 rfl rfl rfl ⟨_, _, rfl, k⟩
theorem nX1_init_31z {I : hI_} {J : hJ_} (hZ : ZA 54 I J) : ZA 60 (upI (upI (upI (upI (upI (upI I 54 0 (24 : Int32)) 54 1 (3 : Int32)) 56 0 (12 : Int32)) 56 1 (8 : Int32)) 58 0 (24 : Int32)) 58 1 (5 : Int32)) J := (nX5_init_34z (ZA_mono (M := 59) (by decide) (nX5_init_33z (ZA_mono (M := 57) (by decide) (nX5_init_32z (ZA_mono (M := 55) (by decide) hZ))))))
def zs134 : List aC := pR zs133 28 1 (53 + 3)
theorem nX11_35 {E : aE} {K : Value → aH → Prop} {I : hI_} {J : hJ_} (hZ : ZA 53 I J) (k : V E mX11_init K 202 [.ref 0, .int (1 : Int32)] [] (zs134, upI (upI (upI (upI (upI (upI I 54 0 (24 : Int32)) 54 1 (3 : Int32)) 56 0 (12 : Int32)) 56 1 (8 : Int32)) 58 0 (24 : Int32)) 58 1 (5 : Int32), J) (59, 1867)) : V E mX11_init K 202 [.ref 0, .int (0 : Int32)] [] (zs119, I, J) (52, 1490) := by
  refine U_iinc (v := (1 : Int32)) (L2 := [.ref 0, .int (1 : Int32)]) dX11_init_202 (by decide) rfl rfl rfl ?_
  refine V_goto dX11_init_205 ?_
  refine V_iload_n dX11_init_180 rfl ?_
  refine V_iconst (v := (2 : Int32)) dX11_init_181 rfl ?_
  refine V_icmp_ge dX11_init_182 (fun q => absurd q (by decide)) (fun _ => ?_)
  refine V_aload_n dX11_init_185 rfl ?_
  refine U_getR dX11_init_186 fl_X11_51 (show zs119[0]? = some (.inr (11, [4, 6, 13, 20, 21, 24, 31, 32, 39, 43, 45, 48, 0, 0])) by decide +kernel) rfl ?_
  refine V_iload_n dX11_init_189 rfl ?_
  refine N_new (S2 := zs120) (a := 53) dX11_init_190 rfl (gt_1 185 rfl rfl) (gt_1 186 rfl rfl) (gt_1 7 rfl rfl) bok_1 rfl (by decide +kernel) hZ rfl ?_
  refine V_dupR dX11_init_193 ?_
  refine V_aload_n dX11_init_194 rfl ?_
  refine U_getR dX11_init_195 fl_X11_19 (show zs120[0]? = some (.inr (11, [4, 6, 13, 20, 21, 24, 31, 32, 39, 43, 45, 48, 0, 0])) by decide +kernel) rfl ?_
  refine N_callI0 (S2 := zs133) [.ref 3] dX11_init_198 oi_X11_46 rfl rfl rfl rfl rfl (nX1_init_31 (ZA_mono (M := 54) (by decide) hZ) ?_)
  refine N_aast0 (S2 := zs134) (q := 1) dX11_init_201 (show zs133[28]? = some (.inl (4, 2, [49, 2])) by decide +kernel) (show zs133[53]? = some (.inr (1, [6, 57, 59, 61, 0])) by decide +kernel) rfl (by unfold vp_in; decide) (by decide) (by decide) rfl ?_
  exact k
theorem nX11_35z {I : hI_} {J : hJ_} (hZ : ZA 53 I J) : ZA 60 (upI (upI (upI (upI (upI (upI I 54 0 (24 : Int32)) 54 1 (3 : Int32)) 56 0 (12 : Int32)) 56 1 (8 : Int32)) 58 0 (24 : Int32)) 58 1 (5 : Int32)) J := (ZA_up (by decide) (ZA_up (by decide) (ZA_up (by decide) (ZA_up (by decide) (ZA_up (by decide) (ZA_up (by decide) (ZA_mono (M := 60) (by decide) hZ)))))))
def zs135 : List aC := zs134 ++ [.inr (6, bfs 6 3)]
def zs136 : List aC := zs135 ++ [.inl (0, 40, [])]
def zs137 : List aC := pR zs136 60 0 (61 + 3)
theorem nX6_init_36 {E : aE} {P : hI_ → hJ_ → Prop} {I : hI_} {J : hJ_} (hZ : ZA 61 I J) (k : P (upI I 60 1 (-1 : Int32)) J) : CallN E mX6_init [.ref 60] zs135 I J zs137 P := by
  refine Call_of (L := [.ref 60]) ok_X6_init.1 rfl rfl ?_
  refine V_aload_n dX6_init_0 rfl ?_
  refine V_oinit dX6_init_1 oo_X6_3 rfl ?_
  refine V_aload_n dX6_init_4 rfl ?_
  refine V_bipush (v := (40 : Int32)) dX6_init_5 rfl ?_
  refine N_newI (S2 := zs136) (N := 40) (a := 61) dX6_init_7 (by decide) (by decide) (by decide) rfl (by decide +kernel) hZ rfl ?_
  refine N_putFR (S2 := zs137) dX6_init_9 ff_X6_9 rfl rfl (show zs136[60]? = some (.inr (6, [2, 0, 0])) by decide +kernel) rfl rfl ?_
  refine V_aload_n dX6_init_12 rfl ?_
  refine V_iconst (v := (-1 : Int32)) dX6_init_13 rfl ?_
  refine U_putI dX6_init_14 fp_X6_15 (show zs137[60]? = some (.inr (6, [64, 0, 0])) by decide +kernel) rfl ?_
  exact V_vret dX6_init_17 rfl rfl rfl ⟨_, _, rfl, k⟩
theorem nX6_init_36z {I : hI_} {J : hJ_} (hZ : ZA 61 I J) : ZA 62 (upI I 60 1 (-1 : Int32)) J := (ZA_up (by decide) (ZA_mono (M := 62) (by decide) hZ))
def zs138 : List aC := pR zs137 45 0 (60 + 3)
theorem nX11_37 {E : aE} {K : Value → aH → Prop} {I : hI_} {J : hJ_} (hZ : ZA 60 I J) (k : V E mX11_init K 228 [.ref 0, .int (0 : Int32)] [] (zs138, upI I 60 1 (-1 : Int32), J) (61, 1910)) : V E mX11_init K 202 [.ref 0, .int (1 : Int32)] [] (zs134, I, J) (59, 1867) := by
  refine U_iinc (v := (2 : Int32)) (L2 := [.ref 0, .int (2 : Int32)]) dX11_init_202 (by decide) rfl rfl rfl ?_
  refine V_goto dX11_init_205 ?_
  refine V_iload_n dX11_init_180 rfl ?_
  refine V_iconst (v := (2 : Int32)) dX11_init_181 rfl ?_
  refine V_icmp_ge dX11_init_182 (fun _ => ?_) (fun q => absurd q (by decide))
  refine V_iconst (v := (0 : Int32)) dX11_init_208 rfl ?_
  refine U_istore_n (L2 := [.ref 0, .int (0 : Int32)]) dX11_init_209 (by decide) rfl ?_
  refine V_iload_n dX11_init_210 rfl ?_
  refine V_iconst (v := (4 : Int32)) dX11_init_211 rfl ?_
  refine V_icmp_ge dX11_init_212 (fun q => absurd q (by decide)) (fun _ => ?_)
  refine V_aload_n dX11_init_215 rfl ?_
  refine U_getR dX11_init_216 fl_X11_91 (show zs134[0]? = some (.inr (11, [4, 6, 13, 20, 21, 24, 31, 32, 39, 43, 45, 48, 0, 0])) by decide +kernel) rfl ?_
  refine V_iload_n dX11_init_219 rfl ?_
  refine N_new (S2 := zs135) (a := 60) dX11_init_220 rfl (gt_2 111 rfl rfl) (gt_2 113 rfl rfl) (gt_1 14 rfl rfl) bok_6 rfl (by decide +kernel) hZ rfl ?_
  refine V_dupR dX11_init_223 ?_
  refine N_callN1 (S2 := zs137) [] dX11_init_224 rfl rfl ok_X6_init (gt_2 115 rfl rfl) rfl rfl rfl rfl rfl (nX6_init_36 (ZA_mono (M := 61) (by decide) hZ) ?_)
  refine N_aast1 (S2 := zs138) (q := 0) dX11_init_227 (show zs137[45]? = some (.inl (5, 4, [2, 2, 2, 2])) by decide +kernel) (show zs137[60]? = some (.inr (6, [64, 0, 0])) by decide +kernel) rfl (by unfold vp_in; decide) (by decide) (by decide) rfl ?_
  exact k
theorem nX11_37z {I : hI_} {J : hJ_} (hZ : ZA 60 I J) : ZA 62 (upI I 60 1 (-1 : Int32)) J := (ZA_up (by decide) (ZA_mono (M := 62) (by decide) hZ))
def zs139 : List aC := zs138 ++ [.inr (6, bfs 6 3)]
def zs140 : List aC := zs139 ++ [.inl (0, 40, [])]
def zs141 : List aC := pR zs140 62 0 (63 + 3)
theorem nX6_init_38 {E : aE} {P : hI_ → hJ_ → Prop} {I : hI_} {J : hJ_} (hZ : ZA 63 I J) (k : P (upI I 62 1 (-1 : Int32)) J) : CallN E mX6_init [.ref 62] zs139 I J zs141 P := by
  refine Call_of (L := [.ref 62]) ok_X6_init.1 rfl rfl ?_
  refine V_aload_n dX6_init_0 rfl ?_
  refine V_oinit dX6_init_1 oo_X6_3 rfl ?_
  refine V_aload_n dX6_init_4 rfl ?_
  refine V_bipush (v := (40 : Int32)) dX6_init_5 rfl ?_
  refine N_newI (S2 := zs140) (N := 40) (a := 63) dX6_init_7 (by decide) (by decide) (by decide) rfl (by decide +kernel) hZ rfl ?_
  refine N_putFR (S2 := zs141) dX6_init_9 ff_X6_9 rfl rfl (show zs140[62]? = some (.inr (6, [2, 0, 0])) by decide +kernel) rfl rfl ?_
  refine V_aload_n dX6_init_12 rfl ?_
  refine V_iconst (v := (-1 : Int32)) dX6_init_13 rfl ?_
  refine U_putI dX6_init_14 fp_X6_15 (show zs141[62]? = some (.inr (6, [66, 0, 0])) by decide +kernel) rfl ?_
  exact V_vret dX6_init_17 rfl rfl rfl ⟨_, _, rfl, k⟩
theorem nX6_init_38z {I : hI_} {J : hJ_} (hZ : ZA 63 I J) : ZA 64 (upI I 62 1 (-1 : Int32)) J := (ZA_up (by decide) (ZA_mono (M := 64) (by decide) hZ))
def zs142 : List aC := pR zs141 45 1 (62 + 3)
theorem nX11_39 {E : aE} {K : Value → aH → Prop} {I : hI_} {J : hJ_} (hZ : ZA 62 I J) (k : V E mX11_init K 228 [.ref 0, .int (1 : Int32)] [] (zs142, upI I 62 1 (-1 : Int32), J) (63, 1953)) : V E mX11_init K 228 [.ref 0, .int (0 : Int32)] [] (zs138, I, J) (61, 1910) := by
  refine U_iinc (v := (1 : Int32)) (L2 := [.ref 0, .int (1 : Int32)]) dX11_init_228 (by decide) rfl rfl rfl ?_
  refine V_goto dX11_init_231 ?_
  refine V_iload_n dX11_init_210 rfl ?_
  refine V_iconst (v := (4 : Int32)) dX11_init_211 rfl ?_
  refine V_icmp_ge dX11_init_212 (fun q => absurd q (by decide)) (fun _ => ?_)
  refine V_aload_n dX11_init_215 rfl ?_
  refine U_getR dX11_init_216 fl_X11_91 (show zs138[0]? = some (.inr (11, [4, 6, 13, 20, 21, 24, 31, 32, 39, 43, 45, 48, 0, 0])) by decide +kernel) rfl ?_
  refine V_iload_n dX11_init_219 rfl ?_
  refine N_new (S2 := zs139) (a := 62) dX11_init_220 rfl (gt_2 111 rfl rfl) (gt_2 113 rfl rfl) (gt_1 14 rfl rfl) bok_6 rfl (by decide +kernel) hZ rfl ?_
  refine V_dupR dX11_init_223 ?_
  refine N_callN1 (S2 := zs141) [] dX11_init_224 rfl rfl ok_X6_init (gt_2 115 rfl rfl) rfl rfl rfl rfl rfl (nX6_init_38 (ZA_mono (M := 63) (by decide) hZ) ?_)
  refine N_aast1 (S2 := zs142) (q := 1) dX11_init_227 (show zs141[45]? = some (.inl (5, 4, [63, 2, 2, 2])) by decide +kernel) (show zs141[62]? = some (.inr (6, [66, 0, 0])) by decide +kernel) rfl (by unfold vp_in; decide) (by decide) (by decide) rfl ?_
  exact k
theorem nX11_39z {I : hI_} {J : hJ_} (hZ : ZA 62 I J) : ZA 64 (upI I 62 1 (-1 : Int32)) J := (ZA_up (by decide) (ZA_mono (M := 64) (by decide) hZ))
def zs143 : List aC := zs142 ++ [.inr (6, bfs 6 3)]
def zs144 : List aC := zs143 ++ [.inl (0, 40, [])]
def zs145 : List aC := pR zs144 64 0 (65 + 3)
theorem nX6_init_40 {E : aE} {P : hI_ → hJ_ → Prop} {I : hI_} {J : hJ_} (hZ : ZA 65 I J) (k : P (upI I 64 1 (-1 : Int32)) J) : CallN E mX6_init [.ref 64] zs143 I J zs145 P := by
  refine Call_of (L := [.ref 64]) ok_X6_init.1 rfl rfl ?_
  refine V_aload_n dX6_init_0 rfl ?_
  refine V_oinit dX6_init_1 oo_X6_3 rfl ?_
  refine V_aload_n dX6_init_4 rfl ?_
  refine V_bipush (v := (40 : Int32)) dX6_init_5 rfl ?_
  refine N_newI (S2 := zs144) (N := 40) (a := 65) dX6_init_7 (by decide) (by decide) (by decide) rfl (by decide +kernel) hZ rfl ?_
  refine N_putFR (S2 := zs145) dX6_init_9 ff_X6_9 rfl rfl (show zs144[64]? = some (.inr (6, [2, 0, 0])) by decide +kernel) rfl rfl ?_
  refine V_aload_n dX6_init_12 rfl ?_
  refine V_iconst (v := (-1 : Int32)) dX6_init_13 rfl ?_
  refine U_putI dX6_init_14 fp_X6_15 (show zs145[64]? = some (.inr (6, [68, 0, 0])) by decide +kernel) rfl ?_
  exact V_vret dX6_init_17 rfl rfl rfl ⟨_, _, rfl, k⟩
theorem nX6_init_40z {I : hI_} {J : hJ_} (hZ : ZA 65 I J) : ZA 66 (upI I 64 1 (-1 : Int32)) J := (ZA_up (by decide) (ZA_mono (M := 66) (by decide) hZ))
def zs146 : List aC := pR zs145 45 2 (64 + 3)
theorem nX11_41 {E : aE} {K : Value → aH → Prop} {I : hI_} {J : hJ_} (hZ : ZA 64 I J) (k : V E mX11_init K 228 [.ref 0, .int (2 : Int32)] [] (zs146, upI I 64 1 (-1 : Int32), J) (65, 1996)) : V E mX11_init K 228 [.ref 0, .int (1 : Int32)] [] (zs142, I, J) (63, 1953) := by
  refine U_iinc (v := (2 : Int32)) (L2 := [.ref 0, .int (2 : Int32)]) dX11_init_228 (by decide) rfl rfl rfl ?_
  refine V_goto dX11_init_231 ?_
  refine V_iload_n dX11_init_210 rfl ?_
  refine V_iconst (v := (4 : Int32)) dX11_init_211 rfl ?_
  refine V_icmp_ge dX11_init_212 (fun q => absurd q (by decide)) (fun _ => ?_)
  refine V_aload_n dX11_init_215 rfl ?_
  refine U_getR dX11_init_216 fl_X11_91 (show zs142[0]? = some (.inr (11, [4, 6, 13, 20, 21, 24, 31, 32, 39, 43, 45, 48, 0, 0])) by decide +kernel) rfl ?_
  refine V_iload_n dX11_init_219 rfl ?_
  refine N_new (S2 := zs143) (a := 64) dX11_init_220 rfl (gt_2 111 rfl rfl) (gt_2 113 rfl rfl) (gt_1 14 rfl rfl) bok_6 rfl (by decide +kernel) hZ rfl ?_
  refine V_dupR dX11_init_223 ?_
  refine N_callN1 (S2 := zs145) [] dX11_init_224 rfl rfl ok_X6_init (gt_2 115 rfl rfl) rfl rfl rfl rfl rfl (nX6_init_40 (ZA_mono (M := 65) (by decide) hZ) ?_)
  refine N_aast1 (S2 := zs146) (q := 2) dX11_init_227 (show zs145[45]? = some (.inl (5, 4, [63, 65, 2, 2])) by decide +kernel) (show zs145[64]? = some (.inr (6, [68, 0, 0])) by decide +kernel) rfl (by unfold vp_in; decide) (by decide) (by decide) rfl ?_
  exact k
theorem nX11_41z {I : hI_} {J : hJ_} (hZ : ZA 64 I J) : ZA 66 (upI I 64 1 (-1 : Int32)) J := (ZA_up (by decide) (ZA_mono (M := 66) (by decide) hZ))
def zs147 : List aC := zs146 ++ [.inr (6, bfs 6 3)]
def zs148 : List aC := zs147 ++ [.inl (0, 40, [])]
def zs149 : List aC := pR zs148 66 0 (67 + 3)
theorem nX6_init_42 {E : aE} {P : hI_ → hJ_ → Prop} {I : hI_} {J : hJ_} (hZ : ZA 67 I J) (k : P (upI I 66 1 (-1 : Int32)) J) : CallN E mX6_init [.ref 66] zs147 I J zs149 P := by
  refine Call_of (L := [.ref 66]) ok_X6_init.1 rfl rfl ?_
  refine V_aload_n dX6_init_0 rfl ?_
  refine V_oinit dX6_init_1 oo_X6_3 rfl ?_
  refine V_aload_n dX6_init_4 rfl ?_
  refine V_bipush (v := (40 : Int32)) dX6_init_5 rfl ?_
  refine N_newI (S2 := zs148) (N := 40) (a := 67) dX6_init_7 (by decide) (by decide) (by decide) rfl (by decide +kernel) hZ rfl ?_
  refine N_putFR (S2 := zs149) dX6_init_9 ff_X6_9 rfl rfl (show zs148[66]? = some (.inr (6, [2, 0, 0])) by decide +kernel) rfl rfl ?_
  refine V_aload_n dX6_init_12 rfl ?_
  refine V_iconst (v := (-1 : Int32)) dX6_init_13 rfl ?_
  refine U_putI dX6_init_14 fp_X6_15 (show zs149[66]? = some (.inr (6, [70, 0, 0])) by decide +kernel) rfl ?_
  exact V_vret dX6_init_17 rfl rfl rfl ⟨_, _, rfl, k⟩
theorem nX6_init_42z {I : hI_} {J : hJ_} (hZ : ZA 67 I J) : ZA 68 (upI I 66 1 (-1 : Int32)) J := (ZA_up (by decide) (ZA_mono (M := 68) (by decide) hZ))
def zs150 : List aC := pR zs149 45 3 (66 + 3)
theorem nX11_43 {E : aE} {K : Value → aH → Prop} {I : hI_} {J : hJ_} (hZ : ZA 66 I J) (k : V E mX11_init K 228 [.ref 0, .int (3 : Int32)] [] (zs150, upI I 66 1 (-1 : Int32), J) (67, 2039)) : V E mX11_init K 228 [.ref 0, .int (2 : Int32)] [] (zs146, I, J) (65, 1996) := by
  refine U_iinc (v := (3 : Int32)) (L2 := [.ref 0, .int (3 : Int32)]) dX11_init_228 (by decide) rfl rfl rfl ?_
  refine V_goto dX11_init_231 ?_
  refine V_iload_n dX11_init_210 rfl ?_
  refine V_iconst (v := (4 : Int32)) dX11_init_211 rfl ?_
  refine V_icmp_ge dX11_init_212 (fun q => absurd q (by decide)) (fun _ => ?_)
  refine V_aload_n dX11_init_215 rfl ?_
  refine U_getR dX11_init_216 fl_X11_91 (show zs146[0]? = some (.inr (11, [4, 6, 13, 20, 21, 24, 31, 32, 39, 43, 45, 48, 0, 0])) by decide +kernel) rfl ?_
  refine V_iload_n dX11_init_219 rfl ?_
  refine N_new (S2 := zs147) (a := 66) dX11_init_220 rfl (gt_2 111 rfl rfl) (gt_2 113 rfl rfl) (gt_1 14 rfl rfl) bok_6 rfl (by decide +kernel) hZ rfl ?_
  refine V_dupR dX11_init_223 ?_
  refine N_callN1 (S2 := zs149) [] dX11_init_224 rfl rfl ok_X6_init (gt_2 115 rfl rfl) rfl rfl rfl rfl rfl (nX6_init_42 (ZA_mono (M := 67) (by decide) hZ) ?_)
  refine N_aast1 (S2 := zs150) (q := 3) dX11_init_227 (show zs149[45]? = some (.inl (5, 4, [63, 65, 67, 2])) by decide +kernel) (show zs149[66]? = some (.inr (6, [70, 0, 0])) by decide +kernel) rfl (by unfold vp_in; decide) (by decide) (by decide) rfl ?_
  exact k
theorem nX11_43z {I : hI_} {J : hJ_} (hZ : ZA 66 I J) : ZA 68 (upI I 66 1 (-1 : Int32)) J := (ZA_up (by decide) (ZA_mono (M := 68) (by decide) hZ))
theorem nX11_e {E : aE} {P : hI_ → hJ_ → Prop} {I : hI_} {J : hJ_} (k : P (I) J) : V E mX11_init (kV zs150 P) 228 [.ref 0, .int (3 : Int32)] [] (zs150, I, J) (67, 2039) := by
  refine U_iinc (v := (4 : Int32)) (L2 := [.ref 0, .int (4 : Int32)]) dX11_init_228 (by decide) rfl rfl rfl ?_
  refine V_goto dX11_init_231 ?_
  refine V_iload_n dX11_init_210 rfl ?_
  refine V_iconst (v := (4 : Int32)) dX11_init_211 rfl ?_
  refine V_icmp_ge dX11_init_212 (fun _ => ?_) (fun q => absurd q (by decide))
  exact V_vret dX11_init_234 rfl rfl rfl ⟨_, _, rfl, k⟩
theorem nX11 {E : aE} {P : hI_ → hJ_ → Prop} {I : hI_} {J : hJ_} (hZ : ZA 1 I J) (k : P (upI (upI (upI (upI (upI (upI (upI (upI (upI (upI (upI (upI (upI (upI (upI (upI (upI (upI (upI (upI (upI (upI (upI (upI (upI (upI (upI (upI (upI (upI (flI (upI (upI (upI (upI (upI (upI (upI (upI (flI I 5 25 (0 : Int32)) 9 0 (1 : Int32)) 9 1 (2 : Int32)) 9 2 (1 : Int32)) 3 6 (0 : Int32)) 3 7 (0 : Int32)) 3 8 (0 : Int32)) 3 9 (0 : Int32)) 3 10 (999 : Int32)) 12 25 (0 : Int32)) 16 0 (1 : Int32)) 16 1 (2 : Int32)) 16 2 (1 : Int32)) 10 6 (0 : Int32)) 10 7 (0 : Int32)) 10 8 (0 : Int32)) 10 9 (0 : Int32)) 10 10 (999 : Int32)) 22 0 (24 : Int32)) 22 1 (3 : Int32)) 24 0 (12 : Int32)) 24 1 (8 : Int32)) 26 0 (24 : Int32)) 26 1 (5 : Int32)) 47 0 (24 : Int32)) 47 1 (3 : Int32)) 49 0 (12 : Int32)) 49 1 (8 : Int32)) 51 0 (24 : Int32)) 51 1 (5 : Int32)) 54 0 (24 : Int32)) 54 1 (3 : Int32)) 56 0 (12 : Int32)) 56 1 (8 : Int32)) 58 0 (24 : Int32)) 58 1 (5 : Int32)) 60 1 (-1 : Int32)) 62 1 (-1 : Int32)) 64 1 (-1 : Int32)) 66 1 (-1 : Int32)) J) : CallN E mX11_init [.ref 0] zs0 I J zs150 P := by
  refine Call_of (L := [.ref 0, .retAddr 0]) ok_X11_init.1 rfl rfl ?_
  refine nX11_2 hZ ?_
  refine nX11_4 (nX11_2z hZ) ?_
  refine nX11_6 (nX11_4z (nX11_2z hZ)) ?_
  refine nX11_8 (nX11_6z (nX11_4z (nX11_2z hZ))) ?_
  refine nX11_10 (nX11_8z (nX11_6z (nX11_4z (nX11_2z hZ)))) ?_
  refine nX11_15 (nX11_10z (nX11_8z (nX11_6z (nX11_4z (nX11_2z hZ))))) ?_
  refine nX11_16 (nX11_15z (nX11_10z (nX11_8z (nX11_6z (nX11_4z (nX11_2z hZ)))))) ?_
  refine nX11_18 (nX11_16z (nX11_15z (nX11_10z (nX11_8z (nX11_6z (nX11_4z (nX11_2z hZ))))))) ?_
  refine nX11_20 (nX11_18z (nX11_16z (nX11_15z (nX11_10z (nX11_8z (nX11_6z (nX11_4z (nX11_2z hZ)))))))) ?_
  refine nX11_22 (nX11_20z (nX11_18z (nX11_16z (nX11_15z (nX11_10z (nX11_8z (nX11_6z (nX11_4z (nX11_2z hZ))))))))) ?_
  refine nX11_24 (nX11_22z (nX11_20z (nX11_18z (nX11_16z (nX11_15z (nX11_10z (nX11_8z (nX11_6z (nX11_4z (nX11_2z hZ)))))))))) ?_
  refine nX11_25 (nX11_24z (nX11_22z (nX11_20z (nX11_18z (nX11_16z (nX11_15z (nX11_10z (nX11_8z (nX11_6z (nX11_4z (nX11_2z hZ))))))))))) ?_
  refine nX11_30 (nX11_25z (nX11_24z (nX11_22z (nX11_20z (nX11_18z (nX11_16z (nX11_15z (nX11_10z (nX11_8z (nX11_6z (nX11_4z (nX11_2z hZ)))))))))))) ?_
  refine nX11_35 (nX11_30z (nX11_25z (nX11_24z (nX11_22z (nX11_20z (nX11_18z (nX11_16z (nX11_15z (nX11_10z (nX11_8z (nX11_6z (nX11_4z (nX11_2z hZ))))))))))))) ?_
  refine nX11_37 (nX11_35z (nX11_30z (nX11_25z (nX11_24z (nX11_22z (nX11_20z (nX11_18z (nX11_16z (nX11_15z (nX11_10z (nX11_8z (nX11_6z (nX11_4z (nX11_2z hZ)))))))))))))) ?_
  refine nX11_39 (nX11_37z (nX11_35z (nX11_30z (nX11_25z (nX11_24z (nX11_22z (nX11_20z (nX11_18z (nX11_16z (nX11_15z (nX11_10z (nX11_8z (nX11_6z (nX11_4z (nX11_2z hZ))))))))))))))) ?_
  refine nX11_41 (nX11_39z (nX11_37z (nX11_35z (nX11_30z (nX11_25z (nX11_24z (nX11_22z (nX11_20z (nX11_18z (nX11_16z (nX11_15z (nX11_10z (nX11_8z (nX11_6z (nX11_4z (nX11_2z hZ)))))))))))))))) ?_
  refine nX11_43 (nX11_41z (nX11_39z (nX11_37z (nX11_35z (nX11_30z (nX11_25z (nX11_24z (nX11_22z (nX11_20z (nX11_18z (nX11_16z (nX11_15z (nX11_10z (nX11_8z (nX11_6z (nX11_4z (nX11_2z hZ))))))))))))))))) ?_
  exact nX11_e k
