theorem iMade_Z : ZA 68 iMade (fun _ _ => 0) := (ZA_up (by decide) (ZA_up (by decide) (ZA_up (by decide) (ZA_up (by decide) (ZA_up (by decide) (ZA_up (by decide) (ZA_up (by decide) (ZA_up (by decide) (ZA_up (by decide) (ZA_up (by decide) (ZA_up (by decide) (ZA_up (by decide) (ZA_up (by decide) (ZA_up (by decide) (ZA_up (by decide) (ZA_up (by decide) (ZA_up (by decide) (ZA_up (by decide) (ZA_up (by decide) (ZA_up (by decide) (ZA_up (by decide) (ZA_up (by decide) (ZA_up (by decide) (ZA_up (by decide) (ZA_up (by decide) (ZA_up (by decide) (ZA_up (by decide) (ZA_up (by decide) (ZA_up (by decide) (ZA_up (by decide) (ZA_fl (by decide) (ZA_up (by decide) (ZA_up (by decide) (ZA_up (by decide) (ZA_up (by decide) (ZA_up (by decide) (ZA_up (by decide) (ZA_up (by decide) (ZA_up (by decide) (ZA_fl (by decide) (fun _ _ => ⟨rfl, rfl⟩)))))))))))))))))))))))))))))))))))))))))
theorem law_start {E : aE} {P : Int32 → hI_ → hJ_ → Prop} (hE : E.2.1 ≤ 4096) (k1 : ∀ I J, P 1 I J) : V E mLw (kI SH P) 0 [.float 32, .retAddr 0, .retAddr 0, .retAddr 0] [] ([], (fun _ _ => 0), (fun _ _ => 0)) (0, 0) := by
  refine N_new (S2 := zs0) (a := 0) dL_law_0 rfl (gt_1 21 rfl rfl) (gt_1 22 rfl rfl) (gt_1 1 rfl rfl) bok_11 rfl rfl (fun _ _ => ⟨rfl, rfl⟩) rfl ?_
  refine V_dupR dL_law_3 ?_
  refine N_callI0 (S2 := zs150) [] dL_law_4 oi_L_9 rfl rfl rfl rfl rfl (nX11 (fun _ _ => ⟨rfl, rfl⟩) ?_)
  refine U_astore_n (L2 := [.float 32, .ref 0, .retAddr 0, .retAddr 0]) dL_law_7 (by decide) rfl ?_
  show V E mLw (kI SH P) 8 [.float 32, .ref 0, .retAddr 0, .retAddr 0] [] (zs150, iMade, (fun _ _ => 0)) (68, 2053)
  refine N_new (S2 := zs151) (a := 68) dL_law_8 rfl (gt_5 53 rfl rfl) (gt_5 54 rfl rfl) (gt_1 15 rfl rfl) bok_12 rfl (by decide +kernel) iMade_Z rfl ?_
  refine V_dupR dL_law_11 ?_
  refine N_callI0 (S2 := zs201) [] dL_law_12 oi_L_12 rfl rfl rfl rfl rfl (nX12 (ZA_mono (M := 69) (by decide) iMade_Z) ?_)
  refine U_astore_n (L2 := [.float 32, .ref 0, .ref 68, .retAddr 0]) dL_law_15 (by decide) rfl ?_
  refine V_iconst (v := (0 : Int32)) dL_law_16 rfl ?_
  refine U_istore_n (L2 := [.float 32, .ref 0, .ref 68, .int (0 : Int32)]) dL_law_17 (by decide) rfl ?_
  show V E mLw (kI SH P) 18 [.float 32, .ref 0, .ref 68, .int (0 : Int32)] [] (zs201, iAll, (fun _ _ => 0)) (94, 3874)
  rw [sh_94]
  exact law_loop hE k1 513 0 iAll (fun _ _ => 0) (by omega) (by omega) Rel_made
