theorem sh_68 : zs150 = SH.take 68 := by decide +kernel
def zs151 : List aC := zs150 ++ [.inr (12, bfs 12 38)]
def zs152 : List aC := zs151 ++ [.inl (0, 320, [])]
def zs153 : List aC := pR zs152 68 0 (69 + 3)
theorem nX12_45 {E : aE} {K : Value → aH → Prop} {I : hI_} {J : hJ_} (hZ : ZA 69 I J) (k : V E mX12_init K 13 [.ref 68] [] (zs153, I, J) (1, 320)) : V E mX12_init K 0 [.ref 68] [] (zs151, I, J) (0, 0) := by
  refine V_aload_n dX12_init_0 rfl ?_
  refine V_oinit dX12_init_1 oo_X12_1 rfl ?_
  refine V_aload_n dX12_init_4 rfl ?_
  refine V_sipush (v := (320 : Int32)) dX12_init_5 rfl ?_
  refine N_newI (S2 := zs152) (N := 320) (a := 69) dX12_init_8 (by decide) (by decide) (by decide) rfl (by decide +kernel) hZ rfl ?_
  refine N_putFR (S2 := zs153) dX12_init_10 ff_X12_7 rfl rfl (show zs152[68]? = some (.inr (12, [2, 0, 0, 0, 0, 0, 0, 0, 0, 2, 2, 2, 2, 2, 2, 2, 2, 2, 2, 2, 0, 2, 2, 2, 2, 2, 2, 2, 0, 0, 2, 2, 1, 2, 2, 2, 2, 0])) by decide +kernel) rfl rfl ?_
  exact k
theorem nX12_45z {I : hI_} {J : hJ_} (hZ : ZA 69 I J) : ZA 70 (I) J := (ZA_mono (M := 70) (by decide) hZ)
def zs154 : List aC := zs153 ++ [.inl (0, 10, [])]
def zs155 : List aC := pR zs154 68 9 (70 + 3)
theorem nX12_46 {E : aE} {K : Value → aH → Prop} {I : hI_} {J : hJ_} (hZ : ZA 70 I J) (k : V E mX12_init K 73 [.ref 68] [] (zs155, upI (upI (upI (upI (upI (upI (upI (upI (upI (upI I 70 0 (0 : Int32)) 70 1 (5 : Int32)) 70 2 (8 : Int32)) 70 3 (12 : Int32)) 70 4 (17 : Int32)) 70 5 (22 : Int32)) 70 6 (26 : Int32)) 70 7 (30 : Int32)) 70 8 (34 : Int32)) 70 9 (40 : Int32), J) (2, 330)) : V E mX12_init K 13 [.ref 68] [] (zs153, I, J) (1, 320) := by
  refine V_aload_n dX12_init_13 rfl ?_
  refine V_bipush (v := (10 : Int32)) dX12_init_14 rfl ?_
  refine N_newI (S2 := zs154) (N := 10) (a := 70) dX12_init_16 (by decide) (by decide) (by decide) rfl (by decide +kernel) hZ rfl ?_
  refine V_dupR dX12_init_18 ?_
  refine V_iconst (v := (0 : Int32)) dX12_init_19 rfl ?_
  refine V_iconst (v := (0 : Int32)) dX12_init_20 rfl ?_
  refine U_iast dX12_init_21 (show zs154[70]? = some (.inl (0, 10, [])) by decide +kernel) (by unfold vp_in; decide) ?_
  refine V_dupR dX12_init_22 ?_
  refine V_iconst (v := (1 : Int32)) dX12_init_23 rfl ?_
  refine V_iconst (v := (5 : Int32)) dX12_init_24 rfl ?_
  refine U_iast dX12_init_25 (show zs154[70]? = some (.inl (0, 10, [])) by decide +kernel) (by unfold vp_in; decide) ?_
  refine V_dupR dX12_init_26 ?_
  refine V_iconst (v := (2 : Int32)) dX12_init_27 rfl ?_
  refine V_bipush (v := (8 : Int32)) dX12_init_28 rfl ?_
  refine U_iast dX12_init_30 (show zs154[70]? = some (.inl (0, 10, [])) by decide +kernel) (by unfold vp_in; decide) ?_
  refine V_dupR dX12_init_31 ?_
  refine V_iconst (v := (3 : Int32)) dX12_init_32 rfl ?_
  refine V_bipush (v := (12 : Int32)) dX12_init_33 rfl ?_
  refine U_iast dX12_init_35 (show zs154[70]? = some (.inl (0, 10, [])) by decide +kernel) (by unfold vp_in; decide) ?_
  refine V_dupR dX12_init_36 ?_
  refine V_iconst (v := (4 : Int32)) dX12_init_37 rfl ?_
  refine V_bipush (v := (17 : Int32)) dX12_init_38 rfl ?_
  refine U_iast dX12_init_40 (show zs154[70]? = some (.inl (0, 10, [])) by decide +kernel) (by unfold vp_in; decide) ?_
  refine V_dupR dX12_init_41 ?_
  refine V_iconst (v := (5 : Int32)) dX12_init_42 rfl ?_
  refine V_bipush (v := (22 : Int32)) dX12_init_43 rfl ?_
  refine U_iast dX12_init_45 (show zs154[70]? = some (.inl (0, 10, [])) by decide +kernel) (by unfold vp_in; decide) ?_
  refine V_dupR dX12_init_46 ?_
  refine V_bipush (v := (6 : Int32)) dX12_init_47 rfl ?_
  refine V_bipush (v := (26 : Int32)) dX12_init_49 rfl ?_
  refine U_iast dX12_init_51 (show zs154[70]? = some (.inl (0, 10, [])) by decide +kernel) (by unfold vp_in; decide) ?_
  refine V_dupR dX12_init_52 ?_
  refine V_bipush (v := (7 : Int32)) dX12_init_53 rfl ?_
  refine V_bipush (v := (30 : Int32)) dX12_init_55 rfl ?_
  refine U_iast dX12_init_57 (show zs154[70]? = some (.inl (0, 10, [])) by decide +kernel) (by unfold vp_in; decide) ?_
  refine V_dupR dX12_init_58 ?_
  refine V_bipush (v := (8 : Int32)) dX12_init_59 rfl ?_
  refine V_bipush (v := (34 : Int32)) dX12_init_61 rfl ?_
  refine U_iast dX12_init_63 (show zs154[70]? = some (.inl (0, 10, [])) by decide +kernel) (by unfold vp_in; decide) ?_
  refine V_dupR dX12_init_64 ?_
  refine V_bipush (v := (9 : Int32)) dX12_init_65 rfl ?_
  refine V_bipush (v := (40 : Int32)) dX12_init_67 rfl ?_
  refine U_iast dX12_init_69 (show zs154[70]? = some (.inl (0, 10, [])) by decide +kernel) (by unfold vp_in; decide) ?_
  refine N_putFR (S2 := zs155) dX12_init_70 ff_X12_13 rfl rfl (show zs154[68]? = some (.inr (12, [72, 0, 0, 0, 0, 0, 0, 0, 0, 2, 2, 2, 2, 2, 2, 2, 2, 2, 2, 2, 0, 2, 2, 2, 2, 2, 2, 2, 0, 0, 2, 2, 1, 2, 2, 2, 2, 0])) by decide +kernel) rfl rfl ?_
  exact k
theorem nX12_46z {I : hI_} {J : hJ_} (hZ : ZA 70 I J) : ZA 71 (upI (upI (upI (upI (upI (upI (upI (upI (upI (upI I 70 0 (0 : Int32)) 70 1 (5 : Int32)) 70 2 (8 : Int32)) 70 3 (12 : Int32)) 70 4 (17 : Int32)) 70 5 (22 : Int32)) 70 6 (26 : Int32)) 70 7 (30 : Int32)) 70 8 (34 : Int32)) 70 9 (40 : Int32)) J := (ZA_up (by decide) (ZA_up (by decide) (ZA_up (by decide) (ZA_up (by decide) (ZA_up (by decide) (ZA_up (by decide) (ZA_up (by decide) (ZA_up (by decide) (ZA_up (by decide) (ZA_up (by decide) (ZA_mono (M := 71) (by decide) hZ)))))))))))
def zs156 : List aC := zs155 ++ [.inl (0, 40, [])]
def zs157 : List aC := pR zs156 68 10 (71 + 3)
theorem nX12_47 {E : aE} {K : Value → aH → Prop} {I : hI_} {J : hJ_} (hZ : ZA 71 I J) (k : V E mX12_init K 315 [.ref 68] [] (zs157, upI (upI (upI (upI (upI (upI (upI (upI (upI (upI (upI (upI (upI (upI (upI (upI (upI (upI (upI (upI (upI (upI (upI (upI (upI (upI (upI (upI (upI (upI (upI (upI (upI (upI (upI (upI (upI (upI (upI (upI I 71 0 (112 : Int32)) 71 1 (108 : Int32)) 71 2 (97 : Int32)) 71 3 (99 : Int32)) 71 4 (101 : Int32)) 71 5 (119 : Int32)) 71 6 (97 : Int32)) 71 7 (121 : Int32)) 71 8 (115 : Int32)) 71 9 (104 : Int32)) 71 10 (117 : Int32)) 71 11 (116 : Int32)) 71 12 (109 : Int32)) 71 13 (111 : Int32)) 71 14 (118 : Int32)) 71 15 (101 : Int32)) 71 16 (115 : Int32)) 71 17 (102 : Int32)) 71 18 (105 : Int32)) 71 19 (114 : Int32)) 71 20 (115 : Int32)) 71 21 (116 : Int32)) 71 22 (109 : Int32)) 71 23 (111 : Int32)) 71 24 (115 : Int32)) 71 25 (116 : Int32)) 71 26 (115 : Int32)) 71 27 (101 : Int32)) 71 28 (110 : Int32)) 71 29 (116 : Int32)) 71 30 (110 : Int32)) 71 31 (101 : Int32)) 71 32 (97 : Int32)) 71 33 (114 : Int32)) 71 34 (110 : Int32)) 71 35 (117 : Int32)) 71 36 (109 : Int32)) 71 37 (98 : Int32)) 71 38 (101 : Int32)) 71 39 (114 : Int32), J) (3, 370)) : V E mX12_init K 73 [.ref 68] [] (zs155, I, J) (2, 330) := by
  refine V_aload_n dX12_init_73 rfl ?_
  refine V_bipush (v := (40 : Int32)) dX12_init_74 rfl ?_
  refine N_newI (S2 := zs156) (N := 40) (a := 71) dX12_init_76 (by decide) (by decide) (by decide) rfl (by decide +kernel) hZ rfl ?_
  refine V_dupR dX12_init_78 ?_
  refine V_iconst (v := (0 : Int32)) dX12_init_79 rfl ?_
  refine V_bipush (v := (112 : Int32)) dX12_init_80 rfl ?_
  refine U_iast dX12_init_82 (show zs156[71]? = some (.inl (0, 40, [])) by decide +kernel) (by unfold vp_in; decide) ?_
  refine V_dupR dX12_init_83 ?_
  refine V_iconst (v := (1 : Int32)) dX12_init_84 rfl ?_
  refine V_bipush (v := (108 : Int32)) dX12_init_85 rfl ?_
  refine U_iast dX12_init_87 (show zs156[71]? = some (.inl (0, 40, [])) by decide +kernel) (by unfold vp_in; decide) ?_
  refine V_dupR dX12_init_88 ?_
  refine V_iconst (v := (2 : Int32)) dX12_init_89 rfl ?_
  refine V_bipush (v := (97 : Int32)) dX12_init_90 rfl ?_
  refine U_iast dX12_init_92 (show zs156[71]? = some (.inl (0, 40, [])) by decide +kernel) (by unfold vp_in; decide) ?_
  refine V_dupR dX12_init_93 ?_
  refine V_iconst (v := (3 : Int32)) dX12_init_94 rfl ?_
  refine V_bipush (v := (99 : Int32)) dX12_init_95 rfl ?_
  refine U_iast dX12_init_97 (show zs156[71]? = some (.inl (0, 40, [])) by decide +kernel) (by unfold vp_in; decide) ?_
  refine V_dupR dX12_init_98 ?_
  refine V_iconst (v := (4 : Int32)) dX12_init_99 rfl ?_
  refine V_bipush (v := (101 : Int32)) dX12_init_100 rfl ?_
  refine U_iast dX12_init_102 (show zs156[71]? = some (.inl (0, 40, [])) by decide +kernel) (by unfold vp_in; decide) ?_
  refine V_dupR dX12_init_103 ?_
  refine V_iconst (v := (5 : Int32)) dX12_init_104 rfl ?_
  refine V_bipush (v := (119 : Int32)) dX12_init_105 rfl ?_
  refine U_iast dX12_init_107 (show zs156[71]? = some (.inl (0, 40, [])) by decide +kernel) (by unfold vp_in; decide) ?_
  refine V_dupR dX12_init_108 ?_
  refine V_bipush (v := (6 : Int32)) dX12_init_109 rfl ?_
  refine V_bipush (v := (97 : Int32)) dX12_init_111 rfl ?_
  refine U_iast dX12_init_113 (show zs156[71]? = some (.inl (0, 40, [])) by decide +kernel) (by unfold vp_in; decide) ?_
  refine V_dupR dX12_init_114 ?_
  refine V_bipush (v := (7 : Int32)) dX12_init_115 rfl ?_
  refine V_bipush (v := (121 : Int32)) dX12_init_117 rfl ?_
  refine U_iast dX12_init_119 (show zs156[71]? = some (.inl (0, 40, [])) by decide +kernel) (by unfold vp_in; decide) ?_
  refine V_dupR dX12_init_120 ?_
  refine V_bipush (v := (8 : Int32)) dX12_init_121 rfl ?_
  refine V_bipush (v := (115 : Int32)) dX12_init_123 rfl ?_
  refine U_iast dX12_init_125 (show zs156[71]? = some (.inl (0, 40, [])) by decide +kernel) (by unfold vp_in; decide) ?_
  refine V_dupR dX12_init_126 ?_
  refine V_bipush (v := (9 : Int32)) dX12_init_127 rfl ?_
  refine V_bipush (v := (104 : Int32)) dX12_init_129 rfl ?_
  refine U_iast dX12_init_131 (show zs156[71]? = some (.inl (0, 40, [])) by decide +kernel) (by unfold vp_in; decide) ?_
  refine V_dupR dX12_init_132 ?_
  refine V_bipush (v := (10 : Int32)) dX12_init_133 rfl ?_
  refine V_bipush (v := (117 : Int32)) dX12_init_135 rfl ?_
  refine U_iast dX12_init_137 (show zs156[71]? = some (.inl (0, 40, [])) by decide +kernel) (by unfold vp_in; decide) ?_
  refine V_dupR dX12_init_138 ?_
  refine V_bipush (v := (11 : Int32)) dX12_init_139 rfl ?_
  refine V_bipush (v := (116 : Int32)) dX12_init_141 rfl ?_
  refine U_iast dX12_init_143 (show zs156[71]? = some (.inl (0, 40, [])) by decide +kernel) (by unfold vp_in; decide) ?_
  refine V_dupR dX12_init_144 ?_
  refine V_bipush (v := (12 : Int32)) dX12_init_145 rfl ?_
  refine V_bipush (v := (109 : Int32)) dX12_init_147 rfl ?_
  refine U_iast dX12_init_149 (show zs156[71]? = some (.inl (0, 40, [])) by decide +kernel) (by unfold vp_in; decide) ?_
  refine V_dupR dX12_init_150 ?_
  refine V_bipush (v := (13 : Int32)) dX12_init_151 rfl ?_
  refine V_bipush (v := (111 : Int32)) dX12_init_153 rfl ?_
  refine U_iast dX12_init_155 (show zs156[71]? = some (.inl (0, 40, [])) by decide +kernel) (by unfold vp_in; decide) ?_
  refine V_dupR dX12_init_156 ?_
  refine V_bipush (v := (14 : Int32)) dX12_init_157 rfl ?_
  refine V_bipush (v := (118 : Int32)) dX12_init_159 rfl ?_
  refine U_iast dX12_init_161 (show zs156[71]? = some (.inl (0, 40, [])) by decide +kernel) (by unfold vp_in; decide) ?_
  refine V_dupR dX12_init_162 ?_
  refine V_bipush (v := (15 : Int32)) dX12_init_163 rfl ?_
  refine V_bipush (v := (101 : Int32)) dX12_init_165 rfl ?_
  refine U_iast dX12_init_167 (show zs156[71]? = some (.inl (0, 40, [])) by decide +kernel) (by unfold vp_in; decide) ?_
  refine V_dupR dX12_init_168 ?_
  refine V_bipush (v := (16 : Int32)) dX12_init_169 rfl ?_
  refine V_bipush (v := (115 : Int32)) dX12_init_171 rfl ?_
  refine U_iast dX12_init_173 (show zs156[71]? = some (.inl (0, 40, [])) by decide +kernel) (by unfold vp_in; decide) ?_
  refine V_dupR dX12_init_174 ?_
  refine V_bipush (v := (17 : Int32)) dX12_init_175 rfl ?_
  refine V_bipush (v := (102 : Int32)) dX12_init_177 rfl ?_
  refine U_iast dX12_init_179 (show zs156[71]? = some (.inl (0, 40, [])) by decide +kernel) (by unfold vp_in; decide) ?_
  refine V_dupR dX12_init_180 ?_
  refine V_bipush (v := (18 : Int32)) dX12_init_181 rfl ?_
  refine V_bipush (v := (105 : Int32)) dX12_init_183 rfl ?_
  refine U_iast dX12_init_185 (show zs156[71]? = some (.inl (0, 40, [])) by decide +kernel) (by unfold vp_in; decide) ?_
  refine V_dupR dX12_init_186 ?_
  refine V_bipush (v := (19 : Int32)) dX12_init_187 rfl ?_
  refine V_bipush (v := (114 : Int32)) dX12_init_189 rfl ?_
  refine U_iast dX12_init_191 (show zs156[71]? = some (.inl (0, 40, [])) by decide +kernel) (by unfold vp_in; decide) ?_
  refine V_dupR dX12_init_192 ?_
  refine V_bipush (v := (20 : Int32)) dX12_init_193 rfl ?_
  refine V_bipush (v := (115 : Int32)) dX12_init_195 rfl ?_
  refine U_iast dX12_init_197 (show zs156[71]? = some (.inl (0, 40, [])) by decide +kernel) (by unfold vp_in; decide) ?_
  refine V_dupR dX12_init_198 ?_
  refine V_bipush (v := (21 : Int32)) dX12_init_199 rfl ?_
  refine V_bipush (v := (116 : Int32)) dX12_init_201 rfl ?_
  refine U_iast dX12_init_203 (show zs156[71]? = some (.inl (0, 40, [])) by decide +kernel) (by unfold vp_in; decide) ?_
  refine V_dupR dX12_init_204 ?_
  refine V_bipush (v := (22 : Int32)) dX12_init_205 rfl ?_
  refine V_bipush (v := (109 : Int32)) dX12_init_207 rfl ?_
  refine U_iast dX12_init_209 (show zs156[71]? = some (.inl (0, 40, [])) by decide +kernel) (by unfold vp_in; decide) ?_
  refine V_dupR dX12_init_210 ?_
  refine V_bipush (v := (23 : Int32)) dX12_init_211 rfl ?_
  refine V_bipush (v := (111 : Int32)) dX12_init_213 rfl ?_
  refine U_iast dX12_init_215 (show zs156[71]? = some (.inl (0, 40, [])) by decide +kernel) (by unfold vp_in; decide) ?_
  refine V_dupR dX12_init_216 ?_
  refine V_bipush (v := (24 : Int32)) dX12_init_217 rfl ?_
  refine V_bipush (v := (115 : Int32)) dX12_init_219 rfl ?_
  refine U_iast dX12_init_221 (show zs156[71]? = some (.inl (0, 40, [])) by decide +kernel) (by unfold vp_in; decide) ?_
  refine V_dupR dX12_init_222 ?_
  refine V_bipush (v := (25 : Int32)) dX12_init_223 rfl ?_
  refine V_bipush (v := (116 : Int32)) dX12_init_225 rfl ?_
  refine U_iast dX12_init_227 (show zs156[71]? = some (.inl (0, 40, [])) by decide +kernel) (by unfold vp_in; decide) ?_
  refine V_dupR dX12_init_228 ?_
  refine V_bipush (v := (26 : Int32)) dX12_init_229 rfl ?_
  refine V_bipush (v := (115 : Int32)) dX12_init_231 rfl ?_
  refine U_iast dX12_init_233 (show zs156[71]? = some (.inl (0, 40, [])) by decide +kernel) (by unfold vp_in; decide) ?_
  refine V_dupR dX12_init_234 ?_
  refine V_bipush (v := (27 : Int32)) dX12_init_235 rfl ?_
  refine V_bipush (v := (101 : Int32)) dX12_init_237 rfl ?_
  refine U_iast dX12_init_239 (show zs156[71]? = some (.inl (0, 40, [])) by decide +kernel) (by unfold vp_in; decide) ?_
  refine V_dupR dX12_init_240 ?_
  refine V_bipush (v := (28 : Int32)) dX12_init_241 rfl ?_
  refine V_bipush (v := (110 : Int32)) dX12_init_243 rfl ?_
  refine U_iast dX12_init_245 (show zs156[71]? = some (.inl (0, 40, [])) by decide +kernel) (by unfold vp_in; decide) ?_
  refine V_dupR dX12_init_246 ?_
  refine V_bipush (v := (29 : Int32)) dX12_init_247 rfl ?_
  refine V_bipush (v := (116 : Int32)) dX12_init_249 rfl ?_
  refine U_iast dX12_init_251 (show zs156[71]? = some (.inl (0, 40, [])) by decide +kernel) (by unfold vp_in; decide) ?_
  refine V_dupR dX12_init_252 ?_
  refine V_bipush (v := (30 : Int32)) dX12_init_253 rfl ?_
  refine V_bipush (v := (110 : Int32)) dX12_init_255 rfl ?_
  refine U_iast dX12_init_257 (show zs156[71]? = some (.inl (0, 40, [])) by decide +kernel) (by unfold vp_in; decide) ?_
  refine V_dupR dX12_init_258 ?_
  refine V_bipush (v := (31 : Int32)) dX12_init_259 rfl ?_
  refine V_bipush (v := (101 : Int32)) dX12_init_261 rfl ?_
  refine U_iast dX12_init_263 (show zs156[71]? = some (.inl (0, 40, [])) by decide +kernel) (by unfold vp_in; decide) ?_
  refine V_dupR dX12_init_264 ?_
  refine V_bipush (v := (32 : Int32)) dX12_init_265 rfl ?_
  refine V_bipush (v := (97 : Int32)) dX12_init_267 rfl ?_
  refine U_iast dX12_init_269 (show zs156[71]? = some (.inl (0, 40, [])) by decide +kernel) (by unfold vp_in; decide) ?_
  refine V_dupR dX12_init_270 ?_
  refine V_bipush (v := (33 : Int32)) dX12_init_271 rfl ?_
  refine V_bipush (v := (114 : Int32)) dX12_init_273 rfl ?_
  refine U_iast dX12_init_275 (show zs156[71]? = some (.inl (0, 40, [])) by decide +kernel) (by unfold vp_in; decide) ?_
  refine V_dupR dX12_init_276 ?_
  refine V_bipush (v := (34 : Int32)) dX12_init_277 rfl ?_
  refine V_bipush (v := (110 : Int32)) dX12_init_279 rfl ?_
  refine U_iast dX12_init_281 (show zs156[71]? = some (.inl (0, 40, [])) by decide +kernel) (by unfold vp_in; decide) ?_
  refine V_dupR dX12_init_282 ?_
  refine V_bipush (v := (35 : Int32)) dX12_init_283 rfl ?_
  refine V_bipush (v := (117 : Int32)) dX12_init_285 rfl ?_
  refine U_iast dX12_init_287 (show zs156[71]? = some (.inl (0, 40, [])) by decide +kernel) (by unfold vp_in; decide) ?_
  refine V_dupR dX12_init_288 ?_
  refine V_bipush (v := (36 : Int32)) dX12_init_289 rfl ?_
  refine V_bipush (v := (109 : Int32)) dX12_init_291 rfl ?_
  refine U_iast dX12_init_293 (show zs156[71]? = some (.inl (0, 40, [])) by decide +kernel) (by unfold vp_in; decide) ?_
  refine V_dupR dX12_init_294 ?_
  refine V_bipush (v := (37 : Int32)) dX12_init_295 rfl ?_
  refine V_bipush (v := (98 : Int32)) dX12_init_297 rfl ?_
  refine U_iast dX12_init_299 (show zs156[71]? = some (.inl (0, 40, [])) by decide +kernel) (by unfold vp_in; decide) ?_
  refine V_dupR dX12_init_300 ?_
  refine V_bipush (v := (38 : Int32)) dX12_init_301 rfl ?_
  refine V_bipush (v := (101 : Int32)) dX12_init_303 rfl ?_
  refine U_iast dX12_init_305 (show zs156[71]? = some (.inl (0, 40, [])) by decide +kernel) (by unfold vp_in; decide) ?_
  refine V_dupR dX12_init_306 ?_
  refine V_bipush (v := (39 : Int32)) dX12_init_307 rfl ?_
  refine V_bipush (v := (114 : Int32)) dX12_init_309 rfl ?_
  refine U_iast dX12_init_311 (show zs156[71]? = some (.inl (0, 40, [])) by decide +kernel) (by unfold vp_in; decide) ?_
  refine N_putFR (S2 := zs157) dX12_init_312 ff_X12_16 rfl rfl (show zs156[68]? = some (.inr (12, [72, 0, 0, 0, 0, 0, 0, 0, 0, 73, 2, 2, 2, 2, 2, 2, 2, 2, 2, 2, 0, 2, 2, 2, 2, 2, 2, 2, 0, 0, 2, 2, 1, 2, 2, 2, 2, 0])) by decide +kernel) rfl rfl ?_
  exact k
theorem nX12_47z {I : hI_} {J : hJ_} (hZ : ZA 71 I J) : ZA 72 (upI (upI (upI (upI (upI (upI (upI (upI (upI (upI (upI (upI (upI (upI (upI (upI (upI (upI (upI (upI (upI (upI (upI (upI (upI (upI (upI (upI (upI (upI (upI (upI (upI (upI (upI (upI (upI (upI (upI (upI I 71 0 (112 : Int32)) 71 1 (108 : Int32)) 71 2 (97 : Int32)) 71 3 (99 : Int32)) 71 4 (101 : Int32)) 71 5 (119 : Int32)) 71 6 (97 : Int32)) 71 7 (121 : Int32)) 71 8 (115 : Int32)) 71 9 (104 : Int32)) 71 10 (117 : Int32)) 71 11 (116 : Int32)) 71 12 (109 : Int32)) 71 13 (111 : Int32)) 71 14 (118 : Int32)) 71 15 (101 : Int32)) 71 16 (115 : Int32)) 71 17 (102 : Int32)) 71 18 (105 : Int32)) 71 19 (114 : Int32)) 71 20 (115 : Int32)) 71 21 (116 : Int32)) 71 22 (109 : Int32)) 71 23 (111 : Int32)) 71 24 (115 : Int32)) 71 25 (116 : Int32)) 71 26 (115 : Int32)) 71 27 (101 : Int32)) 71 28 (110 : Int32)) 71 29 (116 : Int32)) 71 30 (110 : Int32)) 71 31 (101 : Int32)) 71 32 (97 : Int32)) 71 33 (114 : Int32)) 71 34 (110 : Int32)) 71 35 (117 : Int32)) 71 36 (109 : Int32)) 71 37 (98 : Int32)) 71 38 (101 : Int32)) 71 39 (114 : Int32)) J := (ZA_up (by decide) (ZA_up (by decide) (ZA_up (by decide) (ZA_up (by decide) (ZA_up (by decide) (ZA_up (by decide) (ZA_up (by decide) (ZA_up (by decide) (ZA_up (by decide) (ZA_up (by decide) (ZA_up (by decide) (ZA_up (by decide) (ZA_up (by decide) (ZA_up (by decide) (ZA_up (by decide) (ZA_up (by decide) (ZA_up (by decide) (ZA_up (by decide) (ZA_up (by decide) (ZA_up (by decide) (ZA_up (by decide) (ZA_up (by decide) (ZA_up (by decide) (ZA_up (by decide) (ZA_up (by decide) (ZA_up (by decide) (ZA_up (by decide) (ZA_up (by decide) (ZA_up (by decide) (ZA_up (by decide) (ZA_up (by decide) (ZA_up (by decide) (ZA_up (by decide) (ZA_up (by decide) (ZA_up (by decide) (ZA_up (by decide) (ZA_up (by decide) (ZA_up (by decide) (ZA_up (by decide) (ZA_up (by decide) (ZA_mono (M := 72) (by decide) hZ)))))))))))))))))))))))))))))))))))))))))
def zs158 : List aC := zs157 ++ [.inl (0, 8, [])]
def zs159 : List aC := pR zs158 68 11 (72 + 3)
theorem nX12_48 {E : aE} {K : Value → aH → Prop} {I : hI_} {J : hJ_} (hZ : ZA 72 I J) (k : V E mX12_init K 359 [.ref 68] [] (zs159, upI (upI (upI (upI (upI (upI (upI (upI I 72 0 (0 : Int32)) 72 1 (0 : Int32)) 72 2 (0 : Int32)) 72 3 (1 : Int32)) 72 4 (2 : Int32)) 72 5 (1 : Int32)) 72 6 (0 : Int32)) 72 7 (999 : Int32), J) (4, 378)) : V E mX12_init K 315 [.ref 68] [] (zs157, I, J) (3, 370) := by
  refine V_aload_n dX12_init_315 rfl ?_
  refine V_bipush (v := (8 : Int32)) dX12_init_316 rfl ?_
  refine N_newI (S2 := zs158) (N := 8) (a := 72) dX12_init_318 (by decide) (by decide) (by decide) rfl (by decide +kernel) hZ rfl ?_
  refine V_dupR dX12_init_320 ?_
  refine V_iconst (v := (0 : Int32)) dX12_init_321 rfl ?_
  refine V_iconst (v := (0 : Int32)) dX12_init_322 rfl ?_
  refine U_iast dX12_init_323 (show zs158[72]? = some (.inl (0, 8, [])) by decide +kernel) (by unfold vp_in; decide) ?_
  refine V_dupR dX12_init_324 ?_
  refine V_iconst (v := (1 : Int32)) dX12_init_325 rfl ?_
  refine V_iconst (v := (0 : Int32)) dX12_init_326 rfl ?_
  refine U_iast dX12_init_327 (show zs158[72]? = some (.inl (0, 8, [])) by decide +kernel) (by unfold vp_in; decide) ?_
  refine V_dupR dX12_init_328 ?_
  refine V_iconst (v := (2 : Int32)) dX12_init_329 rfl ?_
  refine V_iconst (v := (0 : Int32)) dX12_init_330 rfl ?_
  refine U_iast dX12_init_331 (show zs158[72]? = some (.inl (0, 8, [])) by decide +kernel) (by unfold vp_in; decide) ?_
  refine V_dupR dX12_init_332 ?_
  refine V_iconst (v := (3 : Int32)) dX12_init_333 rfl ?_
  refine V_iconst (v := (1 : Int32)) dX12_init_334 rfl ?_
  refine U_iast dX12_init_335 (show zs158[72]? = some (.inl (0, 8, [])) by decide +kernel) (by unfold vp_in; decide) ?_
  refine V_dupR dX12_init_336 ?_
  refine V_iconst (v := (4 : Int32)) dX12_init_337 rfl ?_
  refine V_iconst (v := (2 : Int32)) dX12_init_338 rfl ?_
  refine U_iast dX12_init_339 (show zs158[72]? = some (.inl (0, 8, [])) by decide +kernel) (by unfold vp_in; decide) ?_
  refine V_dupR dX12_init_340 ?_
  refine V_iconst (v := (5 : Int32)) dX12_init_341 rfl ?_
  refine V_iconst (v := (1 : Int32)) dX12_init_342 rfl ?_
  refine U_iast dX12_init_343 (show zs158[72]? = some (.inl (0, 8, [])) by decide +kernel) (by unfold vp_in; decide) ?_
  refine V_dupR dX12_init_344 ?_
  refine V_bipush (v := (6 : Int32)) dX12_init_345 rfl ?_
  refine V_iconst (v := (0 : Int32)) dX12_init_347 rfl ?_
  refine U_iast dX12_init_348 (show zs158[72]? = some (.inl (0, 8, [])) by decide +kernel) (by unfold vp_in; decide) ?_
  refine V_dupR dX12_init_349 ?_
  refine V_bipush (v := (7 : Int32)) dX12_init_350 rfl ?_
  refine V_sipush (v := (999 : Int32)) dX12_init_352 rfl ?_
  refine U_iast dX12_init_355 (show zs158[72]? = some (.inl (0, 8, [])) by decide +kernel) (by unfold vp_in; decide) ?_
  refine N_putFR (S2 := zs159) dX12_init_356 ff_X12_19 rfl rfl (show zs158[68]? = some (.inr (12, [72, 0, 0, 0, 0, 0, 0, 0, 0, 73, 74, 2, 2, 2, 2, 2, 2, 2, 2, 2, 0, 2, 2, 2, 2, 2, 2, 2, 0, 0, 2, 2, 1, 2, 2, 2, 2, 0])) by decide +kernel) rfl rfl ?_
  exact k
theorem nX12_48z {I : hI_} {J : hJ_} (hZ : ZA 72 I J) : ZA 73 (upI (upI (upI (upI (upI (upI (upI (upI I 72 0 (0 : Int32)) 72 1 (0 : Int32)) 72 2 (0 : Int32)) 72 3 (1 : Int32)) 72 4 (2 : Int32)) 72 5 (1 : Int32)) 72 6 (0 : Int32)) 72 7 (999 : Int32)) J := (ZA_up (by decide) (ZA_up (by decide) (ZA_up (by decide) (ZA_up (by decide) (ZA_up (by decide) (ZA_up (by decide) (ZA_up (by decide) (ZA_up (by decide) (ZA_mono (M := 73) (by decide) hZ)))))))))
def zs160 : List aC := zs159 ++ [.inl (0, 8, [])]
def zs161 : List aC := pR zs160 68 12 (73 + 3)
theorem nX12_49 {E : aE} {K : Value → aH → Prop} {I : hI_} {J : hJ_} (hZ : ZA 73 I J) (k : V E mX12_init K 403 [.ref 68] [] (zs161, upI (upI (upI (upI (upI (upI (upI (upI I 73 0 (0 : Int32)) 73 1 (0 : Int32)) 73 2 (0 : Int32)) 73 3 (1 : Int32)) 73 4 (2 : Int32)) 73 5 (1 : Int32)) 73 6 (0 : Int32)) 73 7 (999 : Int32), J) (5, 386)) : V E mX12_init K 359 [.ref 68] [] (zs159, I, J) (4, 378) := by
  refine V_aload_n dX12_init_359 rfl ?_
  refine V_bipush (v := (8 : Int32)) dX12_init_360 rfl ?_
  refine N_newI (S2 := zs160) (N := 8) (a := 73) dX12_init_362 (by decide) (by decide) (by decide) rfl (by decide +kernel) hZ rfl ?_
  refine V_dupR dX12_init_364 ?_
  refine V_iconst (v := (0 : Int32)) dX12_init_365 rfl ?_
  refine V_iconst (v := (0 : Int32)) dX12_init_366 rfl ?_
  refine U_iast dX12_init_367 (show zs160[73]? = some (.inl (0, 8, [])) by decide +kernel) (by unfold vp_in; decide) ?_
  refine V_dupR dX12_init_368 ?_
  refine V_iconst (v := (1 : Int32)) dX12_init_369 rfl ?_
  refine V_iconst (v := (0 : Int32)) dX12_init_370 rfl ?_
  refine U_iast dX12_init_371 (show zs160[73]? = some (.inl (0, 8, [])) by decide +kernel) (by unfold vp_in; decide) ?_
  refine V_dupR dX12_init_372 ?_
  refine V_iconst (v := (2 : Int32)) dX12_init_373 rfl ?_
  refine V_iconst (v := (0 : Int32)) dX12_init_374 rfl ?_
  refine U_iast dX12_init_375 (show zs160[73]? = some (.inl (0, 8, [])) by decide +kernel) (by unfold vp_in; decide) ?_
  refine V_dupR dX12_init_376 ?_
  refine V_iconst (v := (3 : Int32)) dX12_init_377 rfl ?_
  refine V_iconst (v := (1 : Int32)) dX12_init_378 rfl ?_
  refine U_iast dX12_init_379 (show zs160[73]? = some (.inl (0, 8, [])) by decide +kernel) (by unfold vp_in; decide) ?_
  refine V_dupR dX12_init_380 ?_
  refine V_iconst (v := (4 : Int32)) dX12_init_381 rfl ?_
  refine V_iconst (v := (2 : Int32)) dX12_init_382 rfl ?_
  refine U_iast dX12_init_383 (show zs160[73]? = some (.inl (0, 8, [])) by decide +kernel) (by unfold vp_in; decide) ?_
  refine V_dupR dX12_init_384 ?_
  refine V_iconst (v := (5 : Int32)) dX12_init_385 rfl ?_
  refine V_iconst (v := (1 : Int32)) dX12_init_386 rfl ?_
  refine U_iast dX12_init_387 (show zs160[73]? = some (.inl (0, 8, [])) by decide +kernel) (by unfold vp_in; decide) ?_
  refine V_dupR dX12_init_388 ?_
  refine V_bipush (v := (6 : Int32)) dX12_init_389 rfl ?_
  refine V_iconst (v := (0 : Int32)) dX12_init_391 rfl ?_
  refine U_iast dX12_init_392 (show zs160[73]? = some (.inl (0, 8, [])) by decide +kernel) (by unfold vp_in; decide) ?_
  refine V_dupR dX12_init_393 ?_
  refine V_bipush (v := (7 : Int32)) dX12_init_394 rfl ?_
  refine V_sipush (v := (999 : Int32)) dX12_init_396 rfl ?_
  refine U_iast dX12_init_399 (show zs160[73]? = some (.inl (0, 8, [])) by decide +kernel) (by unfold vp_in; decide) ?_
  refine N_putFR (S2 := zs161) dX12_init_400 ff_X12_22 rfl rfl (show zs160[68]? = some (.inr (12, [72, 0, 0, 0, 0, 0, 0, 0, 0, 73, 74, 75, 2, 2, 2, 2, 2, 2, 2, 2, 0, 2, 2, 2, 2, 2, 2, 2, 0, 0, 2, 2, 1, 2, 2, 2, 2, 0])) by decide +kernel) rfl rfl ?_
  exact k
theorem nX12_49z {I : hI_} {J : hJ_} (hZ : ZA 73 I J) : ZA 74 (upI (upI (upI (upI (upI (upI (upI (upI I 73 0 (0 : Int32)) 73 1 (0 : Int32)) 73 2 (0 : Int32)) 73 3 (1 : Int32)) 73 4 (2 : Int32)) 73 5 (1 : Int32)) 73 6 (0 : Int32)) 73 7 (999 : Int32)) J := (ZA_up (by decide) (ZA_up (by decide) (ZA_up (by decide) (ZA_up (by decide) (ZA_up (by decide) (ZA_up (by decide) (ZA_up (by decide) (ZA_up (by decide) (ZA_mono (M := 74) (by decide) hZ)))))))))
def zs162 : List aC := zs161 ++ [.inl (0, 5, [])]
def zs163 : List aC := pR zs162 68 13 (74 + 3)
theorem nX12_50 {E : aE} {K : Value → aH → Prop} {I : hI_} {J : hJ_} (hZ : ZA 74 I J) (k : V E mX12_init K 410 [.ref 68] [] (zs163, I, J) (6, 391)) : V E mX12_init K 403 [.ref 68] [] (zs161, I, J) (5, 386) := by
  refine V_aload_n dX12_init_403 rfl ?_
  refine V_iconst (v := (5 : Int32)) dX12_init_404 rfl ?_
  refine N_newI (S2 := zs162) (N := 5) (a := 74) dX12_init_405 (by decide) (by decide) (by decide) rfl (by decide +kernel) hZ rfl ?_
  refine N_putFR (S2 := zs163) dX12_init_407 ff_X12_25 rfl rfl (show zs162[68]? = some (.inr (12, [72, 0, 0, 0, 0, 0, 0, 0, 0, 73, 74, 75, 76, 2, 2, 2, 2, 2, 2, 2, 0, 2, 2, 2, 2, 2, 2, 2, 0, 0, 2, 2, 1, 2, 2, 2, 2, 0])) by decide +kernel) rfl rfl ?_
  exact k
theorem nX12_50z {I : hI_} {J : hJ_} (hZ : ZA 74 I J) : ZA 75 (I) J := (ZA_mono (M := 75) (by decide) hZ)
def zs164 : List aC := zs163 ++ [.inl (0, 25, [])]
def zs165 : List aC := pR zs164 68 14 (75 + 3)
theorem nX12_51 {E : aE} {K : Value → aH → Prop} {I : hI_} {J : hJ_} (hZ : ZA 75 I J) (k : V E mX12_init K 418 [.ref 68] [] (zs165, I, J) (7, 416)) : V E mX12_init K 410 [.ref 68] [] (zs163, I, J) (6, 391) := by
  refine V_aload_n dX12_init_410 rfl ?_
  refine V_bipush (v := (25 : Int32)) dX12_init_411 rfl ?_
  refine N_newI (S2 := zs164) (N := 25) (a := 75) dX12_init_413 (by decide) (by decide) (by decide) rfl (by decide +kernel) hZ rfl ?_
  refine N_putFR (S2 := zs165) dX12_init_415 ff_X12_28 rfl rfl (show zs164[68]? = some (.inr (12, [72, 0, 0, 0, 0, 0, 0, 0, 0, 73, 74, 75, 76, 77, 2, 2, 2, 2, 2, 2, 0, 2, 2, 2, 2, 2, 2, 2, 0, 0, 2, 2, 1, 2, 2, 2, 2, 0])) by decide +kernel) rfl rfl ?_
  exact k
theorem nX12_51z {I : hI_} {J : hJ_} (hZ : ZA 75 I J) : ZA 76 (I) J := (ZA_mono (M := 76) (by decide) hZ)
def zs166 : List aC := zs165 ++ [.inl (0, 48, [])]
def zs167 : List aC := pR zs166 68 15 (76 + 3)
theorem nX12_52 {E : aE} {K : Value → aH → Prop} {I : hI_} {J : hJ_} (hZ : ZA 76 I J) (k : V E mX12_init K 426 [.ref 68] [] (zs167, I, J) (8, 464)) : V E mX12_init K 418 [.ref 68] [] (zs165, I, J) (7, 416) := by
  refine V_aload_n dX12_init_418 rfl ?_
  refine V_bipush (v := (48 : Int32)) dX12_init_419 rfl ?_
  refine N_newI (S2 := zs166) (N := 48) (a := 76) dX12_init_421 (by decide) (by decide) (by decide) rfl (by decide +kernel) hZ rfl ?_
  refine N_putFR (S2 := zs167) dX12_init_423 ff_X12_31 rfl rfl (show zs166[68]? = some (.inr (12, [72, 0, 0, 0, 0, 0, 0, 0, 0, 73, 74, 75, 76, 77, 78, 2, 2, 2, 2, 2, 0, 2, 2, 2, 2, 2, 2, 2, 0, 0, 2, 2, 1, 2, 2, 2, 2, 0])) by decide +kernel) rfl rfl ?_
  exact k
theorem nX12_52z {I : hI_} {J : hJ_} (hZ : ZA 76 I J) : ZA 77 (I) J := (ZA_mono (M := 77) (by decide) hZ)
def zs168 : List aC := zs167 ++ [.inl (0, 8, [])]
def zs169 : List aC := pR zs168 68 16 (77 + 3)
theorem nX12_53 {E : aE} {K : Value → aH → Prop} {I : hI_} {J : hJ_} (hZ : ZA 77 I J) (k : V E mX12_init K 434 [.ref 68] [] (zs169, I, J) (9, 472)) : V E mX12_init K 426 [.ref 68] [] (zs167, I, J) (8, 464) := by
  refine V_aload_n dX12_init_426 rfl ?_
  refine V_bipush (v := (8 : Int32)) dX12_init_427 rfl ?_
  refine N_newI (S2 := zs168) (N := 8) (a := 77) dX12_init_429 (by decide) (by decide) (by decide) rfl (by decide +kernel) hZ rfl ?_
  refine N_putFR (S2 := zs169) dX12_init_431 ff_X12_34 rfl rfl (show zs168[68]? = some (.inr (12, [72, 0, 0, 0, 0, 0, 0, 0, 0, 73, 74, 75, 76, 77, 78, 79, 2, 2, 2, 2, 0, 2, 2, 2, 2, 2, 2, 2, 0, 0, 2, 2, 1, 2, 2, 2, 2, 0])) by decide +kernel) rfl rfl ?_
  exact k
theorem nX12_53z {I : hI_} {J : hJ_} (hZ : ZA 77 I J) : ZA 78 (I) J := (ZA_mono (M := 78) (by decide) hZ)
def zs170 : List aC := zs169 ++ [.inl (0, 5, [])]
def zs171 : List aC := pR zs170 68 17 (78 + 3)
theorem nX12_54 {E : aE} {K : Value → aH → Prop} {I : hI_} {J : hJ_} (hZ : ZA 78 I J) (k : V E mX12_init K 441 [.ref 68] [] (zs171, I, J) (10, 477)) : V E mX12_init K 434 [.ref 68] [] (zs169, I, J) (9, 472) := by
  refine V_aload_n dX12_init_434 rfl ?_
  refine V_iconst (v := (5 : Int32)) dX12_init_435 rfl ?_
  refine N_newI (S2 := zs170) (N := 5) (a := 78) dX12_init_436 (by decide) (by decide) (by decide) rfl (by decide +kernel) hZ rfl ?_
  refine N_putFR (S2 := zs171) dX12_init_438 ff_X12_37 rfl rfl (show zs170[68]? = some (.inr (12, [72, 0, 0, 0, 0, 0, 0, 0, 0, 73, 74, 75, 76, 77, 78, 79, 80, 2, 2, 2, 0, 2, 2, 2, 2, 2, 2, 2, 0, 0, 2, 2, 1, 2, 2, 2, 2, 0])) by decide +kernel) rfl rfl ?_
  exact k
theorem nX12_54z {I : hI_} {J : hJ_} (hZ : ZA 78 I J) : ZA 79 (I) J := (ZA_mono (M := 79) (by decide) hZ)
def zs172 : List aC := zs171 ++ [.inl (0, 25, [])]
def zs173 : List aC := pR zs172 68 18 (79 + 3)
theorem nX12_55 {E : aE} {K : Value → aH → Prop} {I : hI_} {J : hJ_} (hZ : ZA 79 I J) (k : V E mX12_init K 449 [.ref 68] [] (zs173, I, J) (11, 502)) : V E mX12_init K 441 [.ref 68] [] (zs171, I, J) (10, 477) := by
  refine V_aload_n dX12_init_441 rfl ?_
  refine V_bipush (v := (25 : Int32)) dX12_init_442 rfl ?_
  refine N_newI (S2 := zs172) (N := 25) (a := 79) dX12_init_444 (by decide) (by decide) (by decide) rfl (by decide +kernel) hZ rfl ?_
  refine N_putFR (S2 := zs173) dX12_init_446 ff_X12_40 rfl rfl (show zs172[68]? = some (.inr (12, [72, 0, 0, 0, 0, 0, 0, 0, 0, 73, 74, 75, 76, 77, 78, 79, 80, 81, 2, 2, 0, 2, 2, 2, 2, 2, 2, 2, 0, 0, 2, 2, 1, 2, 2, 2, 2, 0])) by decide +kernel) rfl rfl ?_
  exact k
theorem nX12_55z {I : hI_} {J : hJ_} (hZ : ZA 79 I J) : ZA 80 (I) J := (ZA_mono (M := 80) (by decide) hZ)
def zs174 : List aC := zs173 ++ [.inl (0, 48, [])]
def zs175 : List aC := pR zs174 68 19 (80 + 3)
theorem nX12_56 {E : aE} {K : Value → aH → Prop} {I : hI_} {J : hJ_} (hZ : ZA 80 I J) (k : V E mX12_init K 457 [.ref 68] [] (zs175, I, J) (12, 550)) : V E mX12_init K 449 [.ref 68] [] (zs173, I, J) (11, 502) := by
  refine V_aload_n dX12_init_449 rfl ?_
  refine V_bipush (v := (48 : Int32)) dX12_init_450 rfl ?_
  refine N_newI (S2 := zs174) (N := 48) (a := 80) dX12_init_452 (by decide) (by decide) (by decide) rfl (by decide +kernel) hZ rfl ?_
  refine N_putFR (S2 := zs175) dX12_init_454 ff_X12_43 rfl rfl (show zs174[68]? = some (.inr (12, [72, 0, 0, 0, 0, 0, 0, 0, 0, 73, 74, 75, 76, 77, 78, 79, 80, 81, 82, 2, 0, 2, 2, 2, 2, 2, 2, 2, 0, 0, 2, 2, 1, 2, 2, 2, 2, 0])) by decide +kernel) rfl rfl ?_
  exact k
theorem nX12_56z {I : hI_} {J : hJ_} (hZ : ZA 80 I J) : ZA 81 (I) J := (ZA_mono (M := 81) (by decide) hZ)
def zs176 : List aC := zs175 ++ [.inl (0, 5, [])]
def zs177 : List aC := pR zs176 68 21 (81 + 3)
theorem nX12_57 {E : aE} {K : Value → aH → Prop} {I : hI_} {J : hJ_} (hZ : ZA 81 I J) (k : V E mX12_init K 464 [.ref 68] [] (zs177, I, J) (13, 555)) : V E mX12_init K 457 [.ref 68] [] (zs175, I, J) (12, 550) := by
  refine V_aload_n dX12_init_457 rfl ?_
  refine V_iconst (v := (5 : Int32)) dX12_init_458 rfl ?_
  refine N_newI (S2 := zs176) (N := 5) (a := 81) dX12_init_459 (by decide) (by decide) (by decide) rfl (by decide +kernel) hZ rfl ?_
  refine N_putFR (S2 := zs177) dX12_init_461 ff_X12_46 rfl rfl (show zs176[68]? = some (.inr (12, [72, 0, 0, 0, 0, 0, 0, 0, 0, 73, 74, 75, 76, 77, 78, 79, 80, 81, 82, 83, 0, 2, 2, 2, 2, 2, 2, 2, 0, 0, 2, 2, 1, 2, 2, 2, 2, 0])) by decide +kernel) rfl rfl ?_
  exact k
theorem nX12_57z {I : hI_} {J : hJ_} (hZ : ZA 81 I J) : ZA 82 (I) J := (ZA_mono (M := 82) (by decide) hZ)
def zs178 : List aC := zs177 ++ [.inl (0, 900, [])]
def zs179 : List aC := pR zs178 68 22 (82 + 3)
theorem nX12_58 {E : aE} {K : Value → aH → Prop} {I : hI_} {J : hJ_} (hZ : ZA 82 I J) (k : V E mX12_init K 473 [.ref 68] [] (zs179, I, J) (14, 1455)) : V E mX12_init K 464 [.ref 68] [] (zs177, I, J) (13, 555) := by
  refine V_aload_n dX12_init_464 rfl ?_
  refine V_sipush (v := (900 : Int32)) dX12_init_465 rfl ?_
  refine N_newI (S2 := zs178) (N := 900) (a := 82) dX12_init_468 (by decide) (by decide) (by decide) rfl (by decide +kernel) hZ rfl ?_
  refine N_putFR (S2 := zs179) dX12_init_470 ff_X12_49 rfl rfl (show zs178[68]? = some (.inr (12, [72, 0, 0, 0, 0, 0, 0, 0, 0, 73, 74, 75, 76, 77, 78, 79, 80, 81, 82, 83, 0, 84, 2, 2, 2, 2, 2, 2, 0, 0, 2, 2, 1, 2, 2, 2, 2, 0])) by decide +kernel) rfl rfl ?_
  exact k
theorem nX12_58z {I : hI_} {J : hJ_} (hZ : ZA 82 I J) : ZA 83 (I) J := (ZA_mono (M := 83) (by decide) hZ)
def zs180 : List aC := zs179 ++ [.inl (0, 24, [])]
def zs181 : List aC := pR zs180 68 23 (83 + 3)
theorem nX12_59 {E : aE} {K : Value → aH → Prop} {I : hI_} {J : hJ_} (hZ : ZA 83 I J) (k : V E mX12_init K 481 [.ref 68] [] (zs181, I, J) (15, 1479)) : V E mX12_init K 473 [.ref 68] [] (zs179, I, J) (14, 1455) := by
  refine V_aload_n dX12_init_473 rfl ?_
  refine V_bipush (v := (24 : Int32)) dX12_init_474 rfl ?_
  refine N_newI (S2 := zs180) (N := 24) (a := 83) dX12_init_476 (by decide) (by decide) (by decide) rfl (by decide +kernel) hZ rfl ?_
  refine N_putFR (S2 := zs181) dX12_init_478 ff_X12_52 rfl rfl (show zs180[68]? = some (.inr (12, [72, 0, 0, 0, 0, 0, 0, 0, 0, 73, 74, 75, 76, 77, 78, 79, 80, 81, 82, 83, 0, 84, 85, 2, 2, 2, 2, 2, 0, 0, 2, 2, 1, 2, 2, 2, 2, 0])) by decide +kernel) rfl rfl ?_
  exact k
theorem nX12_59z {I : hI_} {J : hJ_} (hZ : ZA 83 I J) : ZA 84 (I) J := (ZA_mono (M := 84) (by decide) hZ)
def zs182 : List aC := zs181 ++ [.inl (0, 24, [])]
def zs183 : List aC := pR zs182 68 24 (84 + 3)
theorem nX12_60 {E : aE} {K : Value → aH → Prop} {I : hI_} {J : hJ_} (hZ : ZA 84 I J) (k : V E mX12_init K 489 [.ref 68] [] (zs183, I, J) (16, 1503)) : V E mX12_init K 481 [.ref 68] [] (zs181, I, J) (15, 1479) := by
  refine V_aload_n dX12_init_481 rfl ?_
  refine V_bipush (v := (24 : Int32)) dX12_init_482 rfl ?_
  refine N_newI (S2 := zs182) (N := 24) (a := 84) dX12_init_484 (by decide) (by decide) (by decide) rfl (by decide +kernel) hZ rfl ?_
  refine N_putFR (S2 := zs183) dX12_init_486 ff_X12_55 rfl rfl (show zs182[68]? = some (.inr (12, [72, 0, 0, 0, 0, 0, 0, 0, 0, 73, 74, 75, 76, 77, 78, 79, 80, 81, 82, 83, 0, 84, 85, 86, 2, 2, 2, 2, 0, 0, 2, 2, 1, 2, 2, 2, 2, 0])) by decide +kernel) rfl rfl ?_
  exact k
theorem nX12_60z {I : hI_} {J : hJ_} (hZ : ZA 84 I J) : ZA 85 (I) J := (ZA_mono (M := 85) (by decide) hZ)
def zs184 : List aC := zs183 ++ [.inl (2, 24, [])]
def zs185 : List aC := pR zs184 68 25 (85 + 3)
theorem nX12_61 {E : aE} {K : Value → aH → Prop} {I : hI_} {J : hJ_} (hZ : ZA 85 I J) (k : V E mX12_init K 497 [.ref 68] [] (zs185, I, J) (17, 1527)) : V E mX12_init K 489 [.ref 68] [] (zs183, I, J) (16, 1503) := by
  refine V_aload_n dX12_init_489 rfl ?_
  refine V_bipush (v := (24 : Int32)) dX12_init_490 rfl ?_
  refine N_newZ (S2 := zs184) (N := 24) (a := 85) dX12_init_492 (by decide) (by decide) (by decide) rfl (by decide +kernel) hZ rfl ?_
  refine N_putFR (S2 := zs185) dX12_init_494 ff_X12_58 rfl rfl (show zs184[68]? = some (.inr (12, [72, 0, 0, 0, 0, 0, 0, 0, 0, 73, 74, 75, 76, 77, 78, 79, 80, 81, 82, 83, 0, 84, 85, 86, 87, 2, 2, 2, 0, 0, 2, 2, 1, 2, 2, 2, 2, 0])) by decide +kernel) rfl rfl ?_
  exact k
theorem nX12_61z {I : hI_} {J : hJ_} (hZ : ZA 85 I J) : ZA 86 (I) J := (ZA_mono (M := 86) (by decide) hZ)
def zs186 : List aC := zs185 ++ [.inl (2, 24, [])]
def zs187 : List aC := pR zs186 68 26 (86 + 3)
theorem nX12_62 {E : aE} {K : Value → aH → Prop} {I : hI_} {J : hJ_} (hZ : ZA 86 I J) (k : V E mX12_init K 505 [.ref 68] [] (zs187, I, J) (18, 1551)) : V E mX12_init K 497 [.ref 68] [] (zs185, I, J) (17, 1527) := by
  refine V_aload_n dX12_init_497 rfl ?_
  refine V_bipush (v := (24 : Int32)) dX12_init_498 rfl ?_
  refine N_newZ (S2 := zs186) (N := 24) (a := 86) dX12_init_500 (by decide) (by decide) (by decide) rfl (by decide +kernel) hZ rfl ?_
  refine N_putFR (S2 := zs187) dX12_init_502 ff_X12_62 rfl rfl (show zs186[68]? = some (.inr (12, [72, 0, 0, 0, 0, 0, 0, 0, 0, 73, 74, 75, 76, 77, 78, 79, 80, 81, 82, 83, 0, 84, 85, 86, 87, 88, 2, 2, 0, 0, 2, 2, 1, 2, 2, 2, 2, 0])) by decide +kernel) rfl rfl ?_
  exact k
theorem nX12_62z {I : hI_} {J : hJ_} (hZ : ZA 86 I J) : ZA 87 (I) J := (ZA_mono (M := 87) (by decide) hZ)
def zs188 : List aC := zs187 ++ [.inl (0, 12, [])]
def zs189 : List aC := pR zs188 68 27 (87 + 3)
theorem nX12_63 {E : aE} {K : Value → aH → Prop} {I : hI_} {J : hJ_} (hZ : ZA 87 I J) (k : V E mX12_init K 513 [.ref 68] [] (zs189, I, J) (19, 1563)) : V E mX12_init K 505 [.ref 68] [] (zs187, I, J) (18, 1551) := by
  refine V_aload_n dX12_init_505 rfl ?_
  refine V_bipush (v := (12 : Int32)) dX12_init_506 rfl ?_
  refine N_newI (S2 := zs188) (N := 12) (a := 87) dX12_init_508 (by decide) (by decide) (by decide) rfl (by decide +kernel) hZ rfl ?_
  refine N_putFR (S2 := zs189) dX12_init_510 ff_X12_65 rfl rfl (show zs188[68]? = some (.inr (12, [72, 0, 0, 0, 0, 0, 0, 0, 0, 73, 74, 75, 76, 77, 78, 79, 80, 81, 82, 83, 0, 84, 85, 86, 87, 88, 89, 2, 0, 0, 2, 2, 1, 2, 2, 2, 2, 0])) by decide +kernel) rfl rfl ?_
  exact k
theorem nX12_63z {I : hI_} {J : hJ_} (hZ : ZA 87 I J) : ZA 88 (I) J := (ZA_mono (M := 88) (by decide) hZ)
def zs190 : List aC := zs189 ++ [.inl (3, 25, [])]
def zs191 : List aC := pR zs190 68 30 (88 + 3)
theorem nX12_64 {E : aE} {K : Value → aH → Prop} {I : hI_} {J : hJ_} (hZ : ZA 88 I J) (k : V E mX12_init K 521 [.ref 68] [] (zs191, I, J) (20, 1588)) : V E mX12_init K 513 [.ref 68] [] (zs189, I, J) (19, 1563) := by
  refine V_aload_n dX12_init_513 rfl ?_
  refine V_bipush (v := (25 : Int32)) dX12_init_514 rfl ?_
  refine N_newJ (S2 := zs190) (N := 25) (a := 88) dX12_init_516 (by decide) (by decide) (by decide) rfl (by decide +kernel) hZ rfl ?_
  refine N_putFR (S2 := zs191) dX12_init_518 ff_X12_68 rfl rfl (show zs190[68]? = some (.inr (12, [72, 0, 0, 0, 0, 0, 0, 0, 0, 73, 74, 75, 76, 77, 78, 79, 80, 81, 82, 83, 0, 84, 85, 86, 87, 88, 89, 90, 0, 0, 2, 2, 1, 2, 2, 2, 2, 0])) by decide +kernel) rfl rfl ?_
  exact k
theorem nX12_64z {I : hI_} {J : hJ_} (hZ : ZA 88 I J) : ZA 89 (I) J := (ZA_mono (M := 89) (by decide) hZ)
def zs192 : List aC := zs191 ++ [.inl (3, 25, [])]
def zs193 : List aC := pR zs192 68 31 (89 + 3)
theorem nX12_65 {E : aE} {K : Value → aH → Prop} {I : hI_} {J : hJ_} (hZ : ZA 89 I J) (k : V E mX12_init K 529 [.ref 68] [] (zs193, I, J) (21, 1613)) : V E mX12_init K 521 [.ref 68] [] (zs191, I, J) (20, 1588) := by
  refine V_aload_n dX12_init_521 rfl ?_
  refine V_bipush (v := (25 : Int32)) dX12_init_522 rfl ?_
  refine N_newJ (S2 := zs192) (N := 25) (a := 89) dX12_init_524 (by decide) (by decide) (by decide) rfl (by decide +kernel) hZ rfl ?_
  refine N_putFR (S2 := zs193) dX12_init_526 ff_X12_72 rfl rfl (show zs192[68]? = some (.inr (12, [72, 0, 0, 0, 0, 0, 0, 0, 0, 73, 74, 75, 76, 77, 78, 79, 80, 81, 82, 83, 0, 84, 85, 86, 87, 88, 89, 90, 0, 0, 91, 2, 1, 2, 2, 2, 2, 0])) by decide +kernel) rfl rfl ?_
  exact k
theorem nX12_65z {I : hI_} {J : hJ_} (hZ : ZA 89 I J) : ZA 90 (I) J := (ZA_mono (M := 90) (by decide) hZ)
def zs194 : List aC := zs193 ++ [.inl (2, 2, [])]
def zs195 : List aC := pR zs194 68 33 (90 + 3)
theorem nX12_66 {E : aE} {K : Value → aH → Prop} {I : hI_} {J : hJ_} (hZ : ZA 90 I J) (k : V E mX12_init K 536 [.ref 68] [] (zs195, I, J) (22, 1615)) : V E mX12_init K 529 [.ref 68] [] (zs193, I, J) (21, 1613) := by
  refine V_aload_n dX12_init_529 rfl ?_
  refine V_iconst (v := (2 : Int32)) dX12_init_530 rfl ?_
  refine N_newZ (S2 := zs194) (N := 2) (a := 90) dX12_init_531 (by decide) (by decide) (by decide) rfl (by decide +kernel) hZ rfl ?_
  refine N_putFR (S2 := zs195) dX12_init_533 ff_X12_75 rfl rfl (show zs194[68]? = some (.inr (12, [72, 0, 0, 0, 0, 0, 0, 0, 0, 73, 74, 75, 76, 77, 78, 79, 80, 81, 82, 83, 0, 84, 85, 86, 87, 88, 89, 90, 0, 0, 91, 92, 1, 2, 2, 2, 2, 0])) by decide +kernel) rfl rfl ?_
  exact k
theorem nX12_66z {I : hI_} {J : hJ_} (hZ : ZA 90 I J) : ZA 91 (I) J := (ZA_mono (M := 91) (by decide) hZ)
def zs196 : List aC := zs195 ++ [.inl (0, 4, [])]
def zs197 : List aC := pR zs196 68 34 (91 + 3)
theorem nX12_67 {E : aE} {K : Value → aH → Prop} {I : hI_} {J : hJ_} (hZ : ZA 91 I J) (k : V E mX12_init K 563 [.ref 68] [] (zs197, upI (upI (upI (upI I 91 0 (-4 : Int32)) 91 1 (-4 : Int32)) 91 2 (-4 : Int32)) 91 3 (-4 : Int32), J) (23, 1619)) : V E mX12_init K 536 [.ref 68] [] (zs195, I, J) (22, 1615) := by
  refine V_aload_n dX12_init_536 rfl ?_
  refine V_iconst (v := (4 : Int32)) dX12_init_537 rfl ?_
  refine N_newI (S2 := zs196) (N := 4) (a := 91) dX12_init_538 (by decide) (by decide) (by decide) rfl (by decide +kernel) hZ rfl ?_
  refine V_dupR dX12_init_540 ?_
  refine V_iconst (v := (0 : Int32)) dX12_init_541 rfl ?_
  refine V_bipush (v := (-4 : Int32)) dX12_init_542 rfl ?_
  refine U_iast dX12_init_544 (show zs196[91]? = some (.inl (0, 4, [])) by decide +kernel) (by unfold vp_in; decide) ?_
  refine V_dupR dX12_init_545 ?_
  refine V_iconst (v := (1 : Int32)) dX12_init_546 rfl ?_
  refine V_bipush (v := (-4 : Int32)) dX12_init_547 rfl ?_
  refine U_iast dX12_init_549 (show zs196[91]? = some (.inl (0, 4, [])) by decide +kernel) (by unfold vp_in; decide) ?_
  refine V_dupR dX12_init_550 ?_
  refine V_iconst (v := (2 : Int32)) dX12_init_551 rfl ?_
  refine V_bipush (v := (-4 : Int32)) dX12_init_552 rfl ?_
  refine U_iast dX12_init_554 (show zs196[91]? = some (.inl (0, 4, [])) by decide +kernel) (by unfold vp_in; decide) ?_
  refine V_dupR dX12_init_555 ?_
  refine V_iconst (v := (3 : Int32)) dX12_init_556 rfl ?_
  refine V_bipush (v := (-4 : Int32)) dX12_init_557 rfl ?_
  refine U_iast dX12_init_559 (show zs196[91]? = some (.inl (0, 4, [])) by decide +kernel) (by unfold vp_in; decide) ?_
  refine N_putFR (S2 := zs197) dX12_init_560 ff_X12_78 rfl rfl (show zs196[68]? = some (.inr (12, [72, 0, 0, 0, 0, 0, 0, 0, 0, 73, 74, 75, 76, 77, 78, 79, 80, 81, 82, 83, 0, 84, 85, 86, 87, 88, 89, 90, 0, 0, 91, 92, 1, 93, 2, 2, 2, 0])) by decide +kernel) rfl rfl ?_
  exact k
theorem nX12_67z {I : hI_} {J : hJ_} (hZ : ZA 91 I J) : ZA 92 (upI (upI (upI (upI I 91 0 (-4 : Int32)) 91 1 (-4 : Int32)) 91 2 (-4 : Int32)) 91 3 (-4 : Int32)) J := (ZA_up (by decide) (ZA_up (by decide) (ZA_up (by decide) (ZA_up (by decide) (ZA_mono (M := 92) (by decide) hZ)))))
def zs198 : List aC := zs197 ++ [.inl (0, 4, [])]
def zs199 : List aC := pR zs198 68 35 (92 + 3)
theorem nX12_68 {E : aE} {K : Value → aH → Prop} {I : hI_} {J : hJ_} (hZ : ZA 92 I J) (k : V E mX12_init K 570 [.ref 68] [] (zs199, I, J) (24, 1623)) : V E mX12_init K 563 [.ref 68] [] (zs197, I, J) (23, 1619) := by
  refine V_aload_n dX12_init_563 rfl ?_
  refine V_iconst (v := (4 : Int32)) dX12_init_564 rfl ?_
  refine N_newI (S2 := zs198) (N := 4) (a := 92) dX12_init_565 (by decide) (by decide) (by decide) rfl (by decide +kernel) hZ rfl ?_
  refine N_putFR (S2 := zs199) dX12_init_567 ff_X12_81 rfl rfl (show zs198[68]? = some (.inr (12, [72, 0, 0, 0, 0, 0, 0, 0, 0, 73, 74, 75, 76, 77, 78, 79, 80, 81, 82, 83, 0, 84, 85, 86, 87, 88, 89, 90, 0, 0, 91, 92, 1, 93, 94, 2, 2, 0])) by decide +kernel) rfl rfl ?_
  exact k
theorem nX12_68z {I : hI_} {J : hJ_} (hZ : ZA 92 I J) : ZA 93 (I) J := (ZA_mono (M := 93) (by decide) hZ)
def zs200 : List aC := zs199 ++ [.inl (0, 160, [])]
def zs201 : List aC := pR zs200 68 36 (93 + 3)
theorem nX12_69 {E : aE} {K : Value → aH → Prop} {I : hI_} {J : hJ_} (hZ : ZA 93 I J) (k : V E mX12_init K 579 [.ref 68] [] (zs201, I, J) (25, 1783)) : V E mX12_init K 570 [.ref 68] [] (zs199, I, J) (24, 1623) := by
  refine V_aload_n dX12_init_570 rfl ?_
  refine V_sipush (v := (160 : Int32)) dX12_init_571 rfl ?_
  refine N_newI (S2 := zs200) (N := 160) (a := 93) dX12_init_574 (by decide) (by decide) (by decide) rfl (by decide +kernel) hZ rfl ?_
  refine N_putFR (S2 := zs201) dX12_init_576 ff_X12_84 rfl rfl (show zs200[68]? = some (.inr (12, [72, 0, 0, 0, 0, 0, 0, 0, 0, 73, 74, 75, 76, 77, 78, 79, 80, 81, 82, 83, 0, 84, 85, 86, 87, 88, 89, 90, 0, 0, 91, 92, 1, 93, 94, 95, 2, 0])) by decide +kernel) rfl rfl ?_
  exact k
theorem nX12_69z {I : hI_} {J : hJ_} (hZ : ZA 93 I J) : ZA 94 (I) J := (ZA_mono (M := 94) (by decide) hZ)
theorem nX12_e {E : aE} {P : hI_ → hJ_ → Prop} {I : hI_} {J : hJ_} (k : P (I) J) : V E mX12_init (kV zs201 P) 579 [.ref 68] [] (zs201, I, J) (25, 1783) := by
  exact V_vret dX12_init_579 rfl rfl rfl ⟨_, _, rfl, k⟩
theorem nX12 {E : aE} {P : hI_ → hJ_ → Prop} {I : hI_} {J : hJ_} (hZ : ZA 69 I J) (k : P (upI (upI (upI (upI (upI (upI (upI (upI (upI (upI (upI (upI (upI (upI (upI (upI (upI (upI (upI (upI (upI (upI (upI (upI (upI (upI (upI (upI (upI (upI (upI (upI (upI (upI (upI (upI (upI (upI (upI (upI (upI (upI (upI (upI (upI (upI (upI (upI (upI (upI (upI (upI (upI (upI (upI (upI (upI (upI (upI (upI (upI (upI (upI (upI (upI (upI (upI (upI (upI (upI I 70 0 (0 : Int32)) 70 1 (5 : Int32)) 70 2 (8 : Int32)) 70 3 (12 : Int32)) 70 4 (17 : Int32)) 70 5 (22 : Int32)) 70 6 (26 : Int32)) 70 7 (30 : Int32)) 70 8 (34 : Int32)) 70 9 (40 : Int32)) 71 0 (112 : Int32)) 71 1 (108 : Int32)) 71 2 (97 : Int32)) 71 3 (99 : Int32)) 71 4 (101 : Int32)) 71 5 (119 : Int32)) 71 6 (97 : Int32)) 71 7 (121 : Int32)) 71 8 (115 : Int32)) 71 9 (104 : Int32)) 71 10 (117 : Int32)) 71 11 (116 : Int32)) 71 12 (109 : Int32)) 71 13 (111 : Int32)) 71 14 (118 : Int32)) 71 15 (101 : Int32)) 71 16 (115 : Int32)) 71 17 (102 : Int32)) 71 18 (105 : Int32)) 71 19 (114 : Int32)) 71 20 (115 : Int32)) 71 21 (116 : Int32)) 71 22 (109 : Int32)) 71 23 (111 : Int32)) 71 24 (115 : Int32)) 71 25 (116 : Int32)) 71 26 (115 : Int32)) 71 27 (101 : Int32)) 71 28 (110 : Int32)) 71 29 (116 : Int32)) 71 30 (110 : Int32)) 71 31 (101 : Int32)) 71 32 (97 : Int32)) 71 33 (114 : Int32)) 71 34 (110 : Int32)) 71 35 (117 : Int32)) 71 36 (109 : Int32)) 71 37 (98 : Int32)) 71 38 (101 : Int32)) 71 39 (114 : Int32)) 72 0 (0 : Int32)) 72 1 (0 : Int32)) 72 2 (0 : Int32)) 72 3 (1 : Int32)) 72 4 (2 : Int32)) 72 5 (1 : Int32)) 72 6 (0 : Int32)) 72 7 (999 : Int32)) 73 0 (0 : Int32)) 73 1 (0 : Int32)) 73 2 (0 : Int32)) 73 3 (1 : Int32)) 73 4 (2 : Int32)) 73 5 (1 : Int32)) 73 6 (0 : Int32)) 73 7 (999 : Int32)) 91 0 (-4 : Int32)) 91 1 (-4 : Int32)) 91 2 (-4 : Int32)) 91 3 (-4 : Int32)) J) : CallN E mX12_init [.ref 68] zs151 I J zs201 P := by
  refine Call_of (L := [.ref 68]) ok_X12_init.1 rfl rfl ?_
  refine nX12_45 hZ ?_
  refine nX12_46 (nX12_45z hZ) ?_
  refine nX12_47 (nX12_46z (nX12_45z hZ)) ?_
  refine nX12_48 (nX12_47z (nX12_46z (nX12_45z hZ))) ?_
  refine nX12_49 (nX12_48z (nX12_47z (nX12_46z (nX12_45z hZ)))) ?_
  refine nX12_50 (nX12_49z (nX12_48z (nX12_47z (nX12_46z (nX12_45z hZ))))) ?_
  refine nX12_51 (nX12_50z (nX12_49z (nX12_48z (nX12_47z (nX12_46z (nX12_45z hZ)))))) ?_
  refine nX12_52 (nX12_51z (nX12_50z (nX12_49z (nX12_48z (nX12_47z (nX12_46z (nX12_45z hZ))))))) ?_
  refine nX12_53 (nX12_52z (nX12_51z (nX12_50z (nX12_49z (nX12_48z (nX12_47z (nX12_46z (nX12_45z hZ)))))))) ?_
  refine nX12_54 (nX12_53z (nX12_52z (nX12_51z (nX12_50z (nX12_49z (nX12_48z (nX12_47z (nX12_46z (nX12_45z hZ))))))))) ?_
  refine nX12_55 (nX12_54z (nX12_53z (nX12_52z (nX12_51z (nX12_50z (nX12_49z (nX12_48z (nX12_47z (nX12_46z (nX12_45z hZ)))))))))) ?_
  refine nX12_56 (nX12_55z (nX12_54z (nX12_53z (nX12_52z (nX12_51z (nX12_50z (nX12_49z (nX12_48z (nX12_47z (nX12_46z (nX12_45z hZ))))))))))) ?_
  refine nX12_57 (nX12_56z (nX12_55z (nX12_54z (nX12_53z (nX12_52z (nX12_51z (nX12_50z (nX12_49z (nX12_48z (nX12_47z (nX12_46z (nX12_45z hZ)))))))))))) ?_
  refine nX12_58 (nX12_57z (nX12_56z (nX12_55z (nX12_54z (nX12_53z (nX12_52z (nX12_51z (nX12_50z (nX12_49z (nX12_48z (nX12_47z (nX12_46z (nX12_45z hZ))))))))))))) ?_
  refine nX12_59 (nX12_58z (nX12_57z (nX12_56z (nX12_55z (nX12_54z (nX12_53z (nX12_52z (nX12_51z (nX12_50z (nX12_49z (nX12_48z (nX12_47z (nX12_46z (nX12_45z hZ)))))))))))))) ?_
  refine nX12_60 (nX12_59z (nX12_58z (nX12_57z (nX12_56z (nX12_55z (nX12_54z (nX12_53z (nX12_52z (nX12_51z (nX12_50z (nX12_49z (nX12_48z (nX12_47z (nX12_46z (nX12_45z hZ))))))))))))))) ?_
  refine nX12_61 (nX12_60z (nX12_59z (nX12_58z (nX12_57z (nX12_56z (nX12_55z (nX12_54z (nX12_53z (nX12_52z (nX12_51z (nX12_50z (nX12_49z (nX12_48z (nX12_47z (nX12_46z (nX12_45z hZ)))))))))))))))) ?_
  refine nX12_62 (nX12_61z (nX12_60z (nX12_59z (nX12_58z (nX12_57z (nX12_56z (nX12_55z (nX12_54z (nX12_53z (nX12_52z (nX12_51z (nX12_50z (nX12_49z (nX12_48z (nX12_47z (nX12_46z (nX12_45z hZ))))))))))))))))) ?_
  refine nX12_63 (nX12_62z (nX12_61z (nX12_60z (nX12_59z (nX12_58z (nX12_57z (nX12_56z (nX12_55z (nX12_54z (nX12_53z (nX12_52z (nX12_51z (nX12_50z (nX12_49z (nX12_48z (nX12_47z (nX12_46z (nX12_45z hZ)))))))))))))))))) ?_
  refine nX12_64 (nX12_63z (nX12_62z (nX12_61z (nX12_60z (nX12_59z (nX12_58z (nX12_57z (nX12_56z (nX12_55z (nX12_54z (nX12_53z (nX12_52z (nX12_51z (nX12_50z (nX12_49z (nX12_48z (nX12_47z (nX12_46z (nX12_45z hZ))))))))))))))))))) ?_
  refine nX12_65 (nX12_64z (nX12_63z (nX12_62z (nX12_61z (nX12_60z (nX12_59z (nX12_58z (nX12_57z (nX12_56z (nX12_55z (nX12_54z (nX12_53z (nX12_52z (nX12_51z (nX12_50z (nX12_49z (nX12_48z (nX12_47z (nX12_46z (nX12_45z hZ)))))))))))))))))))) ?_
  refine nX12_66 (nX12_65z (nX12_64z (nX12_63z (nX12_62z (nX12_61z (nX12_60z (nX12_59z (nX12_58z (nX12_57z (nX12_56z (nX12_55z (nX12_54z (nX12_53z (nX12_52z (nX12_51z (nX12_50z (nX12_49z (nX12_48z (nX12_47z (nX12_46z (nX12_45z hZ))))))))))))))))))))) ?_
  refine nX12_67 (nX12_66z (nX12_65z (nX12_64z (nX12_63z (nX12_62z (nX12_61z (nX12_60z (nX12_59z (nX12_58z (nX12_57z (nX12_56z (nX12_55z (nX12_54z (nX12_53z (nX12_52z (nX12_51z (nX12_50z (nX12_49z (nX12_48z (nX12_47z (nX12_46z (nX12_45z hZ)))))))))))))))))))))) ?_
  refine nX12_68 (nX12_67z (nX12_66z (nX12_65z (nX12_64z (nX12_63z (nX12_62z (nX12_61z (nX12_60z (nX12_59z (nX12_58z (nX12_57z (nX12_56z (nX12_55z (nX12_54z (nX12_53z (nX12_52z (nX12_51z (nX12_50z (nX12_49z (nX12_48z (nX12_47z (nX12_46z (nX12_45z hZ))))))))))))))))))))))) ?_
  refine nX12_69 (nX12_68z (nX12_67z (nX12_66z (nX12_65z (nX12_64z (nX12_63z (nX12_62z (nX12_61z (nX12_60z (nX12_59z (nX12_58z (nX12_57z (nX12_56z (nX12_55z (nX12_54z (nX12_53z (nX12_52z (nX12_51z (nX12_50z (nX12_49z (nX12_48z (nX12_47z (nX12_46z (nX12_45z hZ)))))))))))))))))))))))) ?_
  exact nX12_e k
theorem sh_94 : zs201 = SH := by decide +kernel
def iMade : hI_ := upI (upI (upI (upI (upI (upI (upI (upI (upI (upI (upI (upI (upI (upI (upI (upI (upI (upI (upI (upI (upI (upI (upI (upI (upI (upI (upI (upI (upI (upI (flI (upI (upI (upI (upI (upI (upI (upI (upI (flI ((fun _ _ => 0)) 5 25 (0 : Int32)) 9 0 (1 : Int32)) 9 1 (2 : Int32)) 9 2 (1 : Int32)) 3 6 (0 : Int32)) 3 7 (0 : Int32)) 3 8 (0 : Int32)) 3 9 (0 : Int32)) 3 10 (999 : Int32)) 12 25 (0 : Int32)) 16 0 (1 : Int32)) 16 1 (2 : Int32)) 16 2 (1 : Int32)) 10 6 (0 : Int32)) 10 7 (0 : Int32)) 10 8 (0 : Int32)) 10 9 (0 : Int32)) 10 10 (999 : Int32)) 22 0 (24 : Int32)) 22 1 (3 : Int32)) 24 0 (12 : Int32)) 24 1 (8 : Int32)) 26 0 (24 : Int32)) 26 1 (5 : Int32)) 47 0 (24 : Int32)) 47 1 (3 : Int32)) 49 0 (12 : Int32)) 49 1 (8 : Int32)) 51 0 (24 : Int32)) 51 1 (5 : Int32)) 54 0 (24 : Int32)) 54 1 (3 : Int32)) 56 0 (12 : Int32)) 56 1 (8 : Int32)) 58 0 (24 : Int32)) 58 1 (5 : Int32)) 60 1 (-1 : Int32)) 62 1 (-1 : Int32)) 64 1 (-1 : Int32)) 66 1 (-1 : Int32)
def iAll : hI_ := upI (upI (upI (upI (upI (upI (upI (upI (upI (upI (upI (upI (upI (upI (upI (upI (upI (upI (upI (upI (upI (upI (upI (upI (upI (upI (upI (upI (upI (upI (upI (upI (upI (upI (upI (upI (upI (upI (upI (upI (upI (upI (upI (upI (upI (upI (upI (upI (upI (upI (upI (upI (upI (upI (upI (upI (upI (upI (upI (upI (upI (upI (upI (upI (upI (upI (upI (upI (upI (upI iMade 70 0 (0 : Int32)) 70 1 (5 : Int32)) 70 2 (8 : Int32)) 70 3 (12 : Int32)) 70 4 (17 : Int32)) 70 5 (22 : Int32)) 70 6 (26 : Int32)) 70 7 (30 : Int32)) 70 8 (34 : Int32)) 70 9 (40 : Int32)) 71 0 (112 : Int32)) 71 1 (108 : Int32)) 71 2 (97 : Int32)) 71 3 (99 : Int32)) 71 4 (101 : Int32)) 71 5 (119 : Int32)) 71 6 (97 : Int32)) 71 7 (121 : Int32)) 71 8 (115 : Int32)) 71 9 (104 : Int32)) 71 10 (117 : Int32)) 71 11 (116 : Int32)) 71 12 (109 : Int32)) 71 13 (111 : Int32)) 71 14 (118 : Int32)) 71 15 (101 : Int32)) 71 16 (115 : Int32)) 71 17 (102 : Int32)) 71 18 (105 : Int32)) 71 19 (114 : Int32)) 71 20 (115 : Int32)) 71 21 (116 : Int32)) 71 22 (109 : Int32)) 71 23 (111 : Int32)) 71 24 (115 : Int32)) 71 25 (116 : Int32)) 71 26 (115 : Int32)) 71 27 (101 : Int32)) 71 28 (110 : Int32)) 71 29 (116 : Int32)) 71 30 (110 : Int32)) 71 31 (101 : Int32)) 71 32 (97 : Int32)) 71 33 (114 : Int32)) 71 34 (110 : Int32)) 71 35 (117 : Int32)) 71 36 (109 : Int32)) 71 37 (98 : Int32)) 71 38 (101 : Int32)) 71 39 (114 : Int32)) 72 0 (0 : Int32)) 72 1 (0 : Int32)) 72 2 (0 : Int32)) 72 3 (1 : Int32)) 72 4 (2 : Int32)) 72 5 (1 : Int32)) 72 6 (0 : Int32)) 72 7 (999 : Int32)) 73 0 (0 : Int32)) 73 1 (0 : Int32)) 73 2 (0 : Int32)) 73 3 (1 : Int32)) 73 4 (2 : Int32)) 73 5 (1 : Int32)) 73 6 (0 : Int32)) 73 7 (999 : Int32)) 91 0 (-4 : Int32)) 91 1 (-4 : Int32)) 91 2 (-4 : Int32)) 91 3 (-4 : Int32)
