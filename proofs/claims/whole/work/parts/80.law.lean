def mLw : aM := (x, code, 4, ret, 1, 1, { frames := 12, cells := 94, slots := 3874, locals := 428 })
def HL_law_18 (E : aE) (P : Int32 → hI_ → hJ_ → Prop) (v3 : Int32) (I : hI_) (J : hJ_) : Prop := V E mLw (kI SH P) 18 [.float 32, .ref 0, .ref 68, .int v3] [] (SH, I, J) (94, 3874)
set_option maxHeartbeats 40000000 in
set_option maxRecDepth 20000 in
theorem wL_law_18 {E : aE} {P : Int32 → hI_ → hJ_ → Prop} {I : hI_} {J : hJ_} {v3 : Int32} (k : ((((Int32.ofNat E.2.1) - (8 : Int32)) < v3 → P (1 : Int32) I J) ∧ (¬ (((Int32.ofNat E.2.1) - (8 : Int32)) < v3) → (vp_in v3 E.2.1) ∧ ((((E.2.2 v3.toNatClampNeg) &&& (63 : Int32)) = (0 : Int32) → (vp_in (v3 + (1 : Int32)) E.2.1) ∧ (vp_in (v3 + (2 : Int32)) E.2.1) ∧ CallI E mX11_feed [.ref 0, .long ((((E.2.2 (v3 + (1 : Int32)).toNatClampNeg).toInt64) <<< ((32 : Int32).toInt64 &&& 63)) ||| (((E.2.2 (v3 + (2 : Int32)).toNatClampNeg).toInt64) &&& (4294967295 : Int64)))] SH I J (fun x5 I6 J7 => (vp_in (v3 + (1 : Int32)) E.2.1) ∧ (vp_in (v3 + (2 : Int32)) E.2.1) ∧ CallI E mX12_feed [.ref 68, .long ((((E.2.2 (v3 + (1 : Int32)).toNatClampNeg).toInt64) <<< ((32 : Int32).toInt64 &&& 63)) ||| (((E.2.2 (v3 + (2 : Int32)).toNatClampNeg).toInt64) &&& (4294967295 : Int64)))] SH I6 J7 (fun x10 I11 J12 => ((x5 = x10 → HL_law_18 E P (v3 + (8 : Int32)) I11 J12) ∧ (¬ (x5 = x10) → P (0 : Int32) I11 J12))))) ∧ (((E.2.2 v3.toNatClampNeg) &&& (63 : Int32)) = (1 : Int32) → (vp_in (v3 + (1 : Int32)) E.2.1) ∧ CallI E mX11_end [.ref 0, .int (E.2.2 (v3 + (1 : Int32)).toNatClampNeg)] SH I J (fun x16 I17 J18 => (vp_in (v3 + (1 : Int32)) E.2.1) ∧ CallI E mX12_end [.ref 68, .int (E.2.2 (v3 + (1 : Int32)).toNatClampNeg)] SH I17 J18 (fun x20 I21 J22 => ((x16 = x20 → HL_law_18 E P (v3 + (8 : Int32)) I21 J22) ∧ (¬ (x16 = x20) → P (0 : Int32) I21 J22))))) ∧ (((E.2.2 v3.toNatClampNeg) &&& (63 : Int32)) = (2 : Int32) → CallI E mX11_system [.ref 0] SH I J (fun x25 I26 J27 => CallI E mX12_system [.ref 68] SH I26 J27 (fun x28 I29 J30 => ((x25 = x28 → HL_law_18 E P (v3 + (8 : Int32)) I29 J30) ∧ (¬ (x25 = x28) → P (0 : Int32) I29 J30))))) ∧ (((E.2.2 v3.toNatClampNeg) &&& (63 : Int32)) = (3 : Int32) → CallI E mX11_fault [.ref 0] SH I J (fun x33 I34 J35 => CallI E mX12_fault [.ref 68] SH I34 J35 (fun x36 I37 J38 => ((x33 = x36 → HL_law_18 E P (v3 + (8 : Int32)) I37 J38) ∧ (¬ (x33 = x36) → P (0 : Int32) I37 J38))))) ∧ (((E.2.2 v3.toNatClampNeg) &&& (63 : Int32)) = (4 : Int32) → (vp_in (v3 + (1 : Int32)) E.2.1) ∧ CallI E mX11_told [.ref 0, .int (E.2.2 (v3 + (1 : Int32)).toNatClampNeg)] SH I J (fun x42 I43 J44 => (vp_in (v3 + (1 : Int32)) E.2.1) ∧ CallI E mX12_told [.ref 68, .int (E.2.2 (v3 + (1 : Int32)).toNatClampNeg)] SH I43 J44 (fun x46 I47 J48 => ((x42 = x46 → HL_law_18 E P (v3 + (8 : Int32)) I47 J48) ∧ (¬ (x42 = x46) → P (0 : Int32) I47 J48))))) ∧ (((E.2.2 v3.toNatClampNeg) &&& (63 : Int32)) = (5 : Int32) → (vp_in (v3 + (1 : Int32)) E.2.1) ∧ (vp_in (v3 + (2 : Int32)) E.2.1) ∧ CallI E mX11_way [.ref 0, .int (E.2.2 (v3 + (1 : Int32)).toNatClampNeg), .int (E.2.2 (v3 + (2 : Int32)).toNatClampNeg)] SH I J (fun x53 I54 J55 => (vp_in (v3 + (1 : Int32)) E.2.1) ∧ (vp_in (v3 + (2 : Int32)) E.2.1) ∧ CallI E mX12_way [.ref 68, .int (E.2.2 (v3 + (1 : Int32)).toNatClampNeg), .int (E.2.2 (v3 + (2 : Int32)).toNatClampNeg)] SH I54 J55 (fun x58 I59 J60 => ((x53 = x58 → HL_law_18 E P (v3 + (8 : Int32)) I59 J60) ∧ (¬ (x53 = x58) → P (0 : Int32) I59 J60))))) ∧ (((E.2.2 v3.toNatClampNeg) &&& (63 : Int32)) = (6 : Int32) → (vp_in (v3 + (1 : Int32)) E.2.1) ∧ (vp_in (v3 + (2 : Int32)) E.2.1) ∧ (vp_in (v3 + (3 : Int32)) E.2.1) ∧ CallI E mX11_comes [.ref 0, .int (E.2.2 (v3 + (1 : Int32)).toNatClampNeg), .int (E.2.2 (v3 + (2 : Int32)).toNatClampNeg), .int (E.2.2 (v3 + (3 : Int32)).toNatClampNeg)] SH I J (fun x66 I67 J68 => (vp_in (v3 + (1 : Int32)) E.2.1) ∧ (vp_in (v3 + (2 : Int32)) E.2.1) ∧ (vp_in (v3 + (3 : Int32)) E.2.1) ∧ CallI E mX12_comes [.ref 68, .int (E.2.2 (v3 + (1 : Int32)).toNatClampNeg), .int (E.2.2 (v3 + (2 : Int32)).toNatClampNeg), .int (E.2.2 (v3 + (3 : Int32)).toNatClampNeg)] SH I67 J68 (fun x72 I73 J74 => ((x66 = x72 → HL_law_18 E P (v3 + (8 : Int32)) I73 J74) ∧ (¬ (x66 = x72) → P (0 : Int32) I73 J74))))) ∧ (((E.2.2 v3.toNatClampNeg) &&& (63 : Int32)) = (7 : Int32) → (vp_in (v3 + (1 : Int32)) E.2.1) ∧ (vp_in (v3 + (2 : Int32)) E.2.1) ∧ (vp_in (v3 + (3 : Int32)) E.2.1) ∧ (vp_in (v3 + (4 : Int32)) E.2.1) ∧ CallI E mX11_knows [.ref 0, .int (E.2.2 (v3 + (1 : Int32)).toNatClampNeg), .int (E.2.2 (v3 + (2 : Int32)).toNatClampNeg), .int (E.2.2 (v3 + (3 : Int32)).toNatClampNeg), .int (E.2.2 (v3 + (4 : Int32)).toNatClampNeg)] SH I J (fun x81 I82 J83 => (vp_in (v3 + (1 : Int32)) E.2.1) ∧ (vp_in (v3 + (2 : Int32)) E.2.1) ∧ (vp_in (v3 + (3 : Int32)) E.2.1) ∧ (vp_in (v3 + (4 : Int32)) E.2.1) ∧ CallI E mX12_knows [.ref 68, .int (E.2.2 (v3 + (1 : Int32)).toNatClampNeg), .int (E.2.2 (v3 + (2 : Int32)).toNatClampNeg), .int (E.2.2 (v3 + (3 : Int32)).toNatClampNeg), .int (E.2.2 (v3 + (4 : Int32)).toNatClampNeg)] SH I82 J83 (fun x88 I89 J90 => ((x81 = x88 → HL_law_18 E P (v3 + (8 : Int32)) I89 J90) ∧ (¬ (x81 = x88) → P (0 : Int32) I89 J90))))) ∧ (((E.2.2 v3.toNatClampNeg) &&& (63 : Int32)) = (8 : Int32) → (vp_in (v3 + (1 : Int32)) E.2.1) ∧ (vp_in (v3 + (2 : Int32)) E.2.1) ∧ (vp_in (v3 + (3 : Int32)) E.2.1) ∧ CallI E mX11_step [.ref 0, .int (E.2.2 (v3 + (1 : Int32)).toNatClampNeg), .int (E.2.2 (v3 + (2 : Int32)).toNatClampNeg), .int (E.2.2 (v3 + (3 : Int32)).toNatClampNeg)] SH I J (fun x96 I97 J98 => (vp_in (v3 + (1 : Int32)) E.2.1) ∧ (vp_in (v3 + (2 : Int32)) E.2.1) ∧ (vp_in (v3 + (3 : Int32)) E.2.1) ∧ CallI E mX12_step [.ref 68, .int (E.2.2 (v3 + (1 : Int32)).toNatClampNeg), .int (E.2.2 (v3 + (2 : Int32)).toNatClampNeg), .int (E.2.2 (v3 + (3 : Int32)).toNatClampNeg)] SH I97 J98 (fun x102 I103 J104 => ((x96 = x102 → HL_law_18 E P (v3 + (8 : Int32)) I103 J104) ∧ (¬ (x96 = x102) → P (0 : Int32) I103 J104))))) ∧ (((E.2.2 v3.toNatClampNeg) &&& (63 : Int32)) = (9 : Int32) → (vp_in (v3 + (1 : Int32)) E.2.1) ∧ (vp_in (v3 + (2 : Int32)) E.2.1) ∧ CallI E mX11_price [.ref 0, .int (E.2.2 (v3 + (1 : Int32)).toNatClampNeg), .int (E.2.2 (v3 + (2 : Int32)).toNatClampNeg)] SH I J (fun x109 I110 J111 => (vp_in (v3 + (1 : Int32)) E.2.1) ∧ (vp_in (v3 + (2 : Int32)) E.2.1) ∧ CallI E mX12_price [.ref 68, .int (E.2.2 (v3 + (1 : Int32)).toNatClampNeg), .int (E.2.2 (v3 + (2 : Int32)).toNatClampNeg)] SH I110 J111 (fun x114 I115 J116 => ((x109 = x114 → HL_law_18 E P (v3 + (8 : Int32)) I115 J116) ∧ (¬ (x109 = x114) → P (0 : Int32) I115 J116))))) ∧ (((E.2.2 v3.toNatClampNeg) &&& (63 : Int32)) = (10 : Int32) → (vp_in (v3 + (1 : Int32)) E.2.1) ∧ (vp_in (v3 + (2 : Int32)) E.2.1) ∧ (vp_in (v3 + (3 : Int32)) E.2.1) ∧ CallI E mX11_dearest [.ref 0, .int (E.2.2 (v3 + (1 : Int32)).toNatClampNeg), .int (E.2.2 (v3 + (2 : Int32)).toNatClampNeg), .int (E.2.2 (v3 + (3 : Int32)).toNatClampNeg)] SH I J (fun x122 I123 J124 => (vp_in (v3 + (1 : Int32)) E.2.1) ∧ (vp_in (v3 + (2 : Int32)) E.2.1) ∧ (vp_in (v3 + (3 : Int32)) E.2.1) ∧ CallI E mX12_dearest [.ref 68, .int (E.2.2 (v3 + (1 : Int32)).toNatClampNeg), .int (E.2.2 (v3 + (2 : Int32)).toNatClampNeg), .int (E.2.2 (v3 + (3 : Int32)).toNatClampNeg)] SH I123 J124 (fun x128 I129 J130 => ((x122 = x128 → HL_law_18 E P (v3 + (8 : Int32)) I129 J130) ∧ (¬ (x122 = x128) → P (0 : Int32) I129 J130))))) ∧ (((E.2.2 v3.toNatClampNeg) &&& (63 : Int32)) = (11 : Int32) → (vp_in (v3 + (1 : Int32)) E.2.1) ∧ (vp_in (v3 + (2 : Int32)) E.2.1) ∧ (vp_in (v3 + (3 : Int32)) E.2.1) ∧ (vp_in (v3 + (4 : Int32)) E.2.1) ∧ (vp_in (v3 + (5 : Int32)) E.2.1) ∧ (vp_in (v3 + (6 : Int32)) E.2.1) ∧ (vp_in (v3 + (7 : Int32)) E.2.1) ∧ CallI E mX11_call [.ref 0, .int (E.2.2 (v3 + (1 : Int32)).toNatClampNeg), .int (E.2.2 (v3 + (2 : Int32)).toNatClampNeg), .int (E.2.2 (v3 + (3 : Int32)).toNatClampNeg), .int (E.2.2 (v3 + (4 : Int32)).toNatClampNeg), .int (E.2.2 (v3 + (5 : Int32)).toNatClampNeg), .int (E.2.2 (v3 + (6 : Int32)).toNatClampNeg), .int (E.2.2 (v3 + (7 : Int32)).toNatClampNeg)] SH I J (fun x140 I141 J142 => (vp_in (v3 + (1 : Int32)) E.2.1) ∧ (vp_in (v3 + (2 : Int32)) E.2.1) ∧ (vp_in (v3 + (3 : Int32)) E.2.1) ∧ (vp_in (v3 + (4 : Int32)) E.2.1) ∧ (vp_in (v3 + (5 : Int32)) E.2.1) ∧ (vp_in (v3 + (6 : Int32)) E.2.1) ∧ (vp_in (v3 + (7 : Int32)) E.2.1) ∧ CallI E mX12_call [.ref 68, .int (E.2.2 (v3 + (1 : Int32)).toNatClampNeg), .int (E.2.2 (v3 + (2 : Int32)).toNatClampNeg), .int (E.2.2 (v3 + (3 : Int32)).toNatClampNeg), .int (E.2.2 (v3 + (4 : Int32)).toNatClampNeg), .int (E.2.2 (v3 + (5 : Int32)).toNatClampNeg), .int (E.2.2 (v3 + (6 : Int32)).toNatClampNeg), .int (E.2.2 (v3 + (7 : Int32)).toNatClampNeg)] SH I141 J142 (fun x150 I151 J152 => ((x140 = x150 → HL_law_18 E P (v3 + (8 : Int32)) I151 J152) ∧ (¬ (x140 = x150) → P (0 : Int32) I151 J152))))) ∧ (((E.2.2 v3.toNatClampNeg) &&& (63 : Int32)) = (12 : Int32) → (vp_in (v3 + (1 : Int32)) E.2.1) ∧ (vp_in (v3 + (2 : Int32)) E.2.1) ∧ CallI E mX11_takeBack [.ref 0, .int (E.2.2 (v3 + (1 : Int32)).toNatClampNeg), .int (E.2.2 (v3 + (2 : Int32)).toNatClampNeg)] SH I J (fun x157 I158 J159 => (vp_in (v3 + (1 : Int32)) E.2.1) ∧ (vp_in (v3 + (2 : Int32)) E.2.1) ∧ CallI E mX12_takeBack [.ref 68, .int (E.2.2 (v3 + (1 : Int32)).toNatClampNeg), .int (E.2.2 (v3 + (2 : Int32)).toNatClampNeg)] SH I158 J159 (fun x162 I163 J164 => ((x157 = x162 → HL_law_18 E P (v3 + (8 : Int32)) I163 J164) ∧ (¬ (x157 = x162) → P (0 : Int32) I163 J164))))) ∧ (((E.2.2 v3.toNatClampNeg) &&& (63 : Int32)) = (13 : Int32) → (vp_in (v3 + (1 : Int32)) E.2.1) ∧ (vp_in (v3 + (2 : Int32)) E.2.1) ∧ CallI E mX11_of [.ref 0, .int (E.2.2 (v3 + (1 : Int32)).toNatClampNeg), .int (E.2.2 (v3 + (2 : Int32)).toNatClampNeg)] SH I J (fun x169 I170 J171 => (vp_in (v3 + (1 : Int32)) E.2.1) ∧ (vp_in (v3 + (2 : Int32)) E.2.1) ∧ CallI E mX12_of [.ref 68, .int (E.2.2 (v3 + (1 : Int32)).toNatClampNeg), .int (E.2.2 (v3 + (2 : Int32)).toNatClampNeg)] SH I170 J171 (fun x174 I175 J176 => ((x169 = x174 → HL_law_18 E P (v3 + (8 : Int32)) I175 J176) ∧ (¬ (x169 = x174) → P (0 : Int32) I175 J176))))) ∧ (((E.2.2 v3.toNatClampNeg) &&& (63 : Int32)) = (14 : Int32) → (vp_in (v3 + (1 : Int32)) E.2.1) ∧ (vp_in (v3 + (2 : Int32)) E.2.1) ∧ CallI E mX11_stands [.ref 0, .int (E.2.2 (v3 + (1 : Int32)).toNatClampNeg), .int (E.2.2 (v3 + (2 : Int32)).toNatClampNeg)] SH I J (fun x181 I182 J183 => (vp_in (v3 + (1 : Int32)) E.2.1) ∧ (vp_in (v3 + (2 : Int32)) E.2.1) ∧ CallI E mX12_stands [.ref 68, .int (E.2.2 (v3 + (1 : Int32)).toNatClampNeg), .int (E.2.2 (v3 + (2 : Int32)).toNatClampNeg)] SH I182 J183 (fun x186 I187 J188 => ((x181 = x186 → HL_law_18 E P (v3 + (8 : Int32)) I187 J188) ∧ (¬ (x181 = x186) → P (0 : Int32) I187 J188))))) ∧ (((E.2.2 v3.toNatClampNeg) &&& (63 : Int32)) = (15 : Int32) → (vp_in (v3 + (1 : Int32)) E.2.1) ∧ (vp_in (v3 + (2 : Int32)) E.2.1) ∧ (vp_in (v3 + (3 : Int32)) E.2.1) ∧ CallI E mX11_seen [.ref 0, .int (E.2.2 (v3 + (1 : Int32)).toNatClampNeg), .int (E.2.2 (v3 + (2 : Int32)).toNatClampNeg), .int (E.2.2 (v3 + (3 : Int32)).toNatClampNeg)] SH I J (fun x194 I195 J196 => (vp_in (v3 + (1 : Int32)) E.2.1) ∧ (vp_in (v3 + (2 : Int32)) E.2.1) ∧ (vp_in (v3 + (3 : Int32)) E.2.1) ∧ CallI E mX12_seen [.ref 68, .int (E.2.2 (v3 + (1 : Int32)).toNatClampNeg), .int (E.2.2 (v3 + (2 : Int32)).toNatClampNeg), .int (E.2.2 (v3 + (3 : Int32)).toNatClampNeg)] SH I195 J196 (fun x200 I201 J202 => ((x194 = x200 → HL_law_18 E P (v3 + (8 : Int32)) I201 J202) ∧ (¬ (x194 = x200) → P (0 : Int32) I201 J202))))) ∧ (((E.2.2 v3.toNatClampNeg) &&& (63 : Int32)) = (16 : Int32) → (vp_in (v3 + (1 : Int32)) E.2.1) ∧ (vp_in (v3 + (2 : Int32)) E.2.1) ∧ (vp_in (v3 + (3 : Int32)) E.2.1) ∧ (vp_in (v3 + (4 : Int32)) E.2.1) ∧ CallI E mX11_deal [.ref 0, .int (E.2.2 (v3 + (1 : Int32)).toNatClampNeg), .int (E.2.2 (v3 + (2 : Int32)).toNatClampNeg), .int (E.2.2 (v3 + (3 : Int32)).toNatClampNeg), .int (E.2.2 (v3 + (4 : Int32)).toNatClampNeg)] SH I J (fun x209 I210 J211 => (vp_in (v3 + (1 : Int32)) E.2.1) ∧ (vp_in (v3 + (2 : Int32)) E.2.1) ∧ (vp_in (v3 + (3 : Int32)) E.2.1) ∧ (vp_in (v3 + (4 : Int32)) E.2.1) ∧ CallI E mX12_deal [.ref 68, .int (E.2.2 (v3 + (1 : Int32)).toNatClampNeg), .int (E.2.2 (v3 + (2 : Int32)).toNatClampNeg), .int (E.2.2 (v3 + (3 : Int32)).toNatClampNeg), .int (E.2.2 (v3 + (4 : Int32)).toNatClampNeg)] SH I210 J211 (fun x216 I217 J218 => ((x209 = x216 → HL_law_18 E P (v3 + (8 : Int32)) I217 J218) ∧ (¬ (x209 = x216) → P (0 : Int32) I217 J218))))) ∧ (((E.2.2 v3.toNatClampNeg) &&& (63 : Int32)) = (17 : Int32) → (vp_in (v3 + (1 : Int32)) E.2.1) ∧ (vp_in (v3 + (2 : Int32)) E.2.1) ∧ CallI E mX11_sent [.ref 0, .int (E.2.2 (v3 + (1 : Int32)).toNatClampNeg), .int (E.2.2 (v3 + (2 : Int32)).toNatClampNeg)] SH I J (fun x223 I224 J225 => (vp_in (v3 + (1 : Int32)) E.2.1) ∧ (vp_in (v3 + (2 : Int32)) E.2.1) ∧ CallI E mX12_sent [.ref 68, .int (E.2.2 (v3 + (1 : Int32)).toNatClampNeg), .int (E.2.2 (v3 + (2 : Int32)).toNatClampNeg)] SH I224 J225 (fun x228 I229 J230 => ((x223 = x228 → HL_law_18 E P (v3 + (8 : Int32)) I229 J230) ∧ (¬ (x223 = x228) → P (0 : Int32) I229 J230))))) ∧ (((E.2.2 v3.toNatClampNeg) &&& (63 : Int32)) = (18 : Int32) → (vp_in (v3 + (1 : Int32)) E.2.1) ∧ CallI E mX11_empty [.ref 0, .int (E.2.2 (v3 + (1 : Int32)).toNatClampNeg)] SH I J (fun x234 I235 J236 => (vp_in (v3 + (1 : Int32)) E.2.1) ∧ CallI E mX12_empty [.ref 68, .int (E.2.2 (v3 + (1 : Int32)).toNatClampNeg)] SH I235 J236 (fun x238 I239 J240 => ((x234 = x238 → HL_law_18 E P (v3 + (8 : Int32)) I239 J240) ∧ (¬ (x234 = x238) → P (0 : Int32) I239 J240))))) ∧ (((E.2.2 v3.toNatClampNeg) &&& (63 : Int32)) = (19 : Int32) → (vp_in (v3 + (1 : Int32)) E.2.1) ∧ (vp_in (v3 + (2 : Int32)) E.2.1) ∧ CallI E mX11_undo [.ref 0, .int (E.2.2 (v3 + (1 : Int32)).toNatClampNeg), .int (E.2.2 (v3 + (2 : Int32)).toNatClampNeg)] SH I J (fun x245 I246 J247 => (vp_in (v3 + (1 : Int32)) E.2.1) ∧ (vp_in (v3 + (2 : Int32)) E.2.1) ∧ CallI E mX12_undo [.ref 68, .int (E.2.2 (v3 + (1 : Int32)).toNatClampNeg), .int (E.2.2 (v3 + (2 : Int32)).toNatClampNeg)] SH I246 J247 (fun x250 I251 J252 => ((x245 = x250 → HL_law_18 E P (v3 + (8 : Int32)) I251 J252) ∧ (¬ (x245 = x250) → P (0 : Int32) I251 J252))))) ∧ (((E.2.2 v3.toNatClampNeg) &&& (63 : Int32)) = (20 : Int32) → (vp_in (v3 + (1 : Int32)) E.2.1) ∧ (vp_in (v3 + (2 : Int32)) E.2.1) ∧ (vp_in (v3 + (3 : Int32)) E.2.1) ∧ (vp_in (v3 + (4 : Int32)) E.2.1) ∧ CallI E mX11_gain [.ref 0, .int (E.2.2 (v3 + (1 : Int32)).toNatClampNeg), .int (E.2.2 (v3 + (2 : Int32)).toNatClampNeg), .int (b2i (¬ ((E.2.2 (v3 + (3 : Int32)).toNatClampNeg) = (0 : Int32)))), .int (E.2.2 (v3 + (4 : Int32)).toNatClampNeg)] SH I J (fun x2261 I2262 J2263 => (vp_in (v3 + (1 : Int32)) E.2.1) ∧ (vp_in (v3 + (2 : Int32)) E.2.1) ∧ (vp_in (v3 + (3 : Int32)) E.2.1) ∧ (vp_in (v3 + (4 : Int32)) E.2.1) ∧ CallI E mX12_gain [.ref 68, .int (E.2.2 (v3 + (1 : Int32)).toNatClampNeg), .int (E.2.2 (v3 + (2 : Int32)).toNatClampNeg), .int (b2i (¬ ((E.2.2 (v3 + (3 : Int32)).toNatClampNeg) = (0 : Int32)))), .int (E.2.2 (v3 + (4 : Int32)).toNatClampNeg)] SH I2262 J2263 (fun x4270 I4271 J4272 => ((x2261 = x4270 → HL_law_18 E P (v3 + (8 : Int32)) I4271 J4272) ∧ (¬ (x2261 = x4270) → P (0 : Int32) I4271 J4272))))) ∧ (((E.2.2 v3.toNatClampNeg) &&& (63 : Int32)) = (21 : Int32) → (vp_in (v3 + (1 : Int32)) E.2.1) ∧ (vp_in (v3 + (2 : Int32)) E.2.1) ∧ (vp_in (v3 + (3 : Int32)) E.2.1) ∧ CallI E mX11_chance [.ref 0, .int (E.2.2 (v3 + (1 : Int32)).toNatClampNeg), .int (E.2.2 (v3 + (2 : Int32)).toNatClampNeg), .int (b2i (¬ ((E.2.2 (v3 + (3 : Int32)).toNatClampNeg) = (0 : Int32))))] SH I J (fun x6282 I6283 J6284 => (vp_in (v3 + (1 : Int32)) E.2.1) ∧ (vp_in (v3 + (2 : Int32)) E.2.1) ∧ (vp_in (v3 + (3 : Int32)) E.2.1) ∧ CallI E mX12_chance [.ref 68, .int (E.2.2 (v3 + (1 : Int32)).toNatClampNeg), .int (E.2.2 (v3 + (2 : Int32)).toNatClampNeg), .int (b2i (¬ ((E.2.2 (v3 + (3 : Int32)).toNatClampNeg) = (0 : Int32))))] SH I6283 J6284 (fun x8290 I8291 J8292 => ((x6282 = x8290 → HL_law_18 E P (v3 + (8 : Int32)) I8291 J8292) ∧ (¬ (x6282 = x8290) → P (0 : Int32) I8291 J8292))))) ∧ (((E.2.2 v3.toNatClampNeg) &&& (63 : Int32)) = (22 : Int32) → (vp_in (v3 + (1 : Int32)) E.2.1) ∧ (vp_in (v3 + (2 : Int32)) E.2.1) ∧ (vp_in (v3 + (3 : Int32)) E.2.1) ∧ (vp_in (v3 + (4 : Int32)) E.2.1) ∧ CallI E mX11_owes [.ref 0, .int (E.2.2 (v3 + (1 : Int32)).toNatClampNeg), .int (E.2.2 (v3 + (2 : Int32)).toNatClampNeg), .int (E.2.2 (v3 + (3 : Int32)).toNatClampNeg), .int (E.2.2 (v3 + (4 : Int32)).toNatClampNeg)] SH I J (fun x8301 I8302 J8303 => (vp_in (v3 + (1 : Int32)) E.2.1) ∧ (vp_in (v3 + (2 : Int32)) E.2.1) ∧ (vp_in (v3 + (3 : Int32)) E.2.1) ∧ (vp_in (v3 + (4 : Int32)) E.2.1) ∧ CallI E mX12_owes [.ref 68, .int (E.2.2 (v3 + (1 : Int32)).toNatClampNeg), .int (E.2.2 (v3 + (2 : Int32)).toNatClampNeg), .int (E.2.2 (v3 + (3 : Int32)).toNatClampNeg), .int (E.2.2 (v3 + (4 : Int32)).toNatClampNeg)] SH I8302 J8303 (fun x8308 I8309 J8310 => ((x8301 = x8308 → HL_law_18 E P (v3 + (8 : Int32)) I8309 J8310) ∧ (¬ (x8301 = x8308) → P (0 : Int32) I8309 J8310))))) ∧ (((E.2.2 v3.toNatClampNeg) &&& (63 : Int32)) = (23 : Int32) → (vp_in (v3 + (1 : Int32)) E.2.1) ∧ CallI E mX11_over [.ref 0, .int (E.2.2 (v3 + (1 : Int32)).toNatClampNeg)] SH I J (fun x8314 I8315 J8316 => (vp_in (v3 + (1 : Int32)) E.2.1) ∧ CallI E mX12_over [.ref 68, .int (E.2.2 (v3 + (1 : Int32)).toNatClampNeg)] SH I8315 J8316 (fun x8318 I8319 J8320 => ((x8314 = x8318 → HL_law_18 E P (v3 + (8 : Int32)) I8319 J8320) ∧ (¬ (x8314 = x8318) → P (0 : Int32) I8319 J8320))))) ∧ (((E.2.2 v3.toNatClampNeg) &&& (63 : Int32)) = (24 : Int32) → (vp_in (v3 + (1 : Int32)) E.2.1) ∧ (vp_in (v3 + (2 : Int32)) E.2.1) ∧ CallI E mX11_peak [.ref 0, .int (E.2.2 (v3 + (1 : Int32)).toNatClampNeg), .int (E.2.2 (v3 + (2 : Int32)).toNatClampNeg)] SH I J (fun x8325 I8326 J8327 => (vp_in (v3 + (1 : Int32)) E.2.1) ∧ (vp_in (v3 + (2 : Int32)) E.2.1) ∧ CallI E mX12_peak [.ref 68, .int (E.2.2 (v3 + (1 : Int32)).toNatClampNeg), .int (E.2.2 (v3 + (2 : Int32)).toNatClampNeg)] SH I8326 J8327 (fun x8330 I8331 J8332 => ((x8325 = x8330 → HL_law_18 E P (v3 + (8 : Int32)) I8331 J8332) ∧ (¬ (x8325 = x8330) → P (0 : Int32) I8331 J8332))))) ∧ (((E.2.2 v3.toNatClampNeg) &&& (63 : Int32)) = (25 : Int32) → (vp_in (v3 + (1 : Int32)) E.2.1) ∧ (vp_in (v3 + (2 : Int32)) E.2.1) ∧ CallI E mX11_waits [.ref 0, .int (E.2.2 (v3 + (1 : Int32)).toNatClampNeg), .int (E.2.2 (v3 + (2 : Int32)).toNatClampNeg)] SH I J (fun x8337 I8338 J8339 => (vp_in (v3 + (1 : Int32)) E.2.1) ∧ (vp_in (v3 + (2 : Int32)) E.2.1) ∧ CallI E mX12_waits [.ref 68, .int (E.2.2 (v3 + (1 : Int32)).toNatClampNeg), .int (E.2.2 (v3 + (2 : Int32)).toNatClampNeg)] SH I8338 J8339 (fun x8342 I8343 J8344 => ((x8337 = x8342 → HL_law_18 E P (v3 + (8 : Int32)) I8343 J8344) ∧ (¬ (x8337 = x8342) → P (0 : Int32) I8343 J8344))))) ∧ (((E.2.2 v3.toNatClampNeg) &&& (63 : Int32)) = (26 : Int32) → (vp_in (v3 + (1 : Int32)) E.2.1) ∧ (vp_in (v3 + (2 : Int32)) E.2.1) ∧ CallI E mX11_book [.ref 0, .int (E.2.2 (v3 + (1 : Int32)).toNatClampNeg), .int (E.2.2 (v3 + (2 : Int32)).toNatClampNeg)] SH I J (fun x8349 I8350 J8351 => (vp_in (v3 + (1 : Int32)) E.2.1) ∧ (vp_in (v3 + (2 : Int32)) E.2.1) ∧ CallI E mX12_book [.ref 68, .int (E.2.2 (v3 + (1 : Int32)).toNatClampNeg), .int (E.2.2 (v3 + (2 : Int32)).toNatClampNeg)] SH I8350 J8351 (fun x8354 I8355 J8356 => ((x8349 = x8354 → HL_law_18 E P (v3 + (8 : Int32)) I8355 J8356) ∧ (¬ (x8349 = x8354) → P (0 : Int32) I8355 J8356))))) ∧ (((E.2.2 v3.toNatClampNeg) &&& (63 : Int32)) = (27 : Int32) → (vp_in (v3 + (1 : Int32)) E.2.1) ∧ (vp_in (v3 + (2 : Int32)) E.2.1) ∧ (vp_in (v3 + (3 : Int32)) E.2.1) ∧ CallI E mX11_enough [.ref 0, .int (E.2.2 (v3 + (1 : Int32)).toNatClampNeg), .int (E.2.2 (v3 + (2 : Int32)).toNatClampNeg), .int (E.2.2 (v3 + (3 : Int32)).toNatClampNeg)] SH I J (fun x8362 I8363 J8364 => (vp_in (v3 + (1 : Int32)) E.2.1) ∧ (vp_in (v3 + (2 : Int32)) E.2.1) ∧ (vp_in (v3 + (3 : Int32)) E.2.1) ∧ CallI E mX12_enough [.ref 68, .int (E.2.2 (v3 + (1 : Int32)).toNatClampNeg), .int (E.2.2 (v3 + (2 : Int32)).toNatClampNeg), .int (E.2.2 (v3 + (3 : Int32)).toNatClampNeg)] SH I8363 J8364 (fun x8368 I8369 J8370 => ((x8362 = x8368 → HL_law_18 E P (v3 + (8 : Int32)) I8369 J8370) ∧ (¬ (x8362 = x8368) → P (0 : Int32) I8369 J8370))))) ∧ (((E.2.2 v3.toNatClampNeg) &&& (63 : Int32)) = (28 : Int32) → (vp_in (v3 + (1 : Int32)) E.2.1) ∧ (vp_in (v3 + (2 : Int32)) E.2.1) ∧ (vp_in (v3 + (3 : Int32)) E.2.1) ∧ CallJ E mX11_odds [.ref 0, .int (E.2.2 (v3 + (1 : Int32)).toNatClampNeg), .int (E.2.2 (v3 + (2 : Int32)).toNatClampNeg), .int (E.2.2 (v3 + (3 : Int32)).toNatClampNeg)] SH I J (fun x8376 I8377 J8378 => (vp_in (v3 + (1 : Int32)) E.2.1) ∧ (vp_in (v3 + (2 : Int32)) E.2.1) ∧ (vp_in (v3 + (3 : Int32)) E.2.1) ∧ CallJ E mX12_odds [.ref 68, .int (E.2.2 (v3 + (1 : Int32)).toNatClampNeg), .int (E.2.2 (v3 + (2 : Int32)).toNatClampNeg), .int (E.2.2 (v3 + (3 : Int32)).toNatClampNeg)] SH I8377 J8378 (fun x8382 I8383 J8384 => ((x8376 = x8382 → HL_law_18 E P (v3 + (8 : Int32)) I8383 J8384) ∧ (¬ (x8376 = x8382) → P (0 : Int32) I8383 J8384))))) ∧ (((E.2.2 v3.toNatClampNeg) &&& (63 : Int32)) = (29 : Int32) → (vp_in (v3 + (1 : Int32)) E.2.1) ∧ (vp_in (v3 + (2 : Int32)) E.2.1) ∧ (vp_in (v3 + (3 : Int32)) E.2.1) ∧ CallJ E mX11_loss [.ref 0, .int (E.2.2 (v3 + (1 : Int32)).toNatClampNeg), .int (E.2.2 (v3 + (2 : Int32)).toNatClampNeg), .int (E.2.2 (v3 + (3 : Int32)).toNatClampNeg)] SH I J (fun x8390 I8391 J8392 => (vp_in (v3 + (1 : Int32)) E.2.1) ∧ (vp_in (v3 + (2 : Int32)) E.2.1) ∧ (vp_in (v3 + (3 : Int32)) E.2.1) ∧ CallJ E mX12_loss [.ref 68, .int (E.2.2 (v3 + (1 : Int32)).toNatClampNeg), .int (E.2.2 (v3 + (2 : Int32)).toNatClampNeg), .int (E.2.2 (v3 + (3 : Int32)).toNatClampNeg)] SH I8391 J8392 (fun x8396 I8397 J8398 => ((x8390 = x8396 → HL_law_18 E P (v3 + (8 : Int32)) I8397 J8398) ∧ (¬ (x8390 = x8396) → P (0 : Int32) I8397 J8398))))) ∧ (((E.2.2 v3.toNatClampNeg) &&& (63 : Int32)) = (30 : Int32) → (vp_in (v3 + (1 : Int32)) E.2.1) ∧ (vp_in (v3 + (2 : Int32)) E.2.1) ∧ (vp_in (v3 + (3 : Int32)) E.2.1) ∧ CallI E mX11_wide [.ref 0, .int (E.2.2 (v3 + (1 : Int32)).toNatClampNeg), .int (E.2.2 (v3 + (2 : Int32)).toNatClampNeg), .int (E.2.2 (v3 + (3 : Int32)).toNatClampNeg)] SH I J (fun x8404 I8405 J8406 => (vp_in (v3 + (1 : Int32)) E.2.1) ∧ (vp_in (v3 + (2 : Int32)) E.2.1) ∧ (vp_in (v3 + (3 : Int32)) E.2.1) ∧ CallI E mX12_wide [.ref 68, .int (E.2.2 (v3 + (1 : Int32)).toNatClampNeg), .int (E.2.2 (v3 + (2 : Int32)).toNatClampNeg), .int (E.2.2 (v3 + (3 : Int32)).toNatClampNeg)] SH I8405 J8406 (fun x8410 I8411 J8412 => ((x8404 = x8410 → HL_law_18 E P (v3 + (8 : Int32)) I8411 J8412) ∧ (¬ (x8404 = x8410) → P (0 : Int32) I8411 J8412))))) ∧ (((E.2.2 v3.toNatClampNeg) &&& (63 : Int32)) = (31 : Int32) → (vp_in (v3 + (1 : Int32)) E.2.1) ∧ (vp_in (v3 + (2 : Int32)) E.2.1) ∧ (vp_in (v3 + (3 : Int32)) E.2.1) ∧ (vp_in (v3 + (4 : Int32)) E.2.1) ∧ CallJ E mX11_near [.ref 0, .int (E.2.2 (v3 + (1 : Int32)).toNatClampNeg), .int (E.2.2 (v3 + (2 : Int32)).toNatClampNeg), .int (E.2.2 (v3 + (3 : Int32)).toNatClampNeg), .int (E.2.2 (v3 + (4 : Int32)).toNatClampNeg)] SH I J (fun x8419 I8420 J8421 => (vp_in (v3 + (1 : Int32)) E.2.1) ∧ (vp_in (v3 + (2 : Int32)) E.2.1) ∧ (vp_in (v3 + (3 : Int32)) E.2.1) ∧ (vp_in (v3 + (4 : Int32)) E.2.1) ∧ CallJ E mX12_near [.ref 68, .int (E.2.2 (v3 + (1 : Int32)).toNatClampNeg), .int (E.2.2 (v3 + (2 : Int32)).toNatClampNeg), .int (E.2.2 (v3 + (3 : Int32)).toNatClampNeg), .int (E.2.2 (v3 + (4 : Int32)).toNatClampNeg)] SH I8420 J8421 (fun x8426 I8427 J8428 => ((x8419 = x8426 → HL_law_18 E P (v3 + (8 : Int32)) I8427 J8428) ∧ (¬ (x8419 = x8426) → P (0 : Int32) I8427 J8428))))) ∧ (((E.2.2 v3.toNatClampNeg) &&& (63 : Int32)) = (32 : Int32) → (vp_in (v3 + (1 : Int32)) E.2.1) ∧ CallI E mX11_keep [.ref 0, .int (E.2.2 (v3 + (1 : Int32)).toNatClampNeg)] SH I J (fun x8432 I8433 J8434 => (vp_in (v3 + (1 : Int32)) E.2.1) ∧ CallI E mX12_keep [.ref 68, .int (E.2.2 (v3 + (1 : Int32)).toNatClampNeg)] SH I8433 J8434 (fun x8436 I8437 J8438 => ((x8432 = x8436 → HL_law_18 E P (v3 + (8 : Int32)) I8437 J8438) ∧ (¬ (x8432 = x8436) → P (0 : Int32) I8437 J8438))))) ∧ (((E.2.2 v3.toNatClampNeg) &&& (63 : Int32)) = (33 : Int32) → (vp_in (v3 + (1 : Int32)) E.2.1) ∧ CallI E mX11_back [.ref 0, .int (E.2.2 (v3 + (1 : Int32)).toNatClampNeg)] SH I J (fun x8442 I8443 J8444 => (vp_in (v3 + (1 : Int32)) E.2.1) ∧ CallI E mX12_back [.ref 68, .int (E.2.2 (v3 + (1 : Int32)).toNatClampNeg)] SH I8443 J8444 (fun x8446 I8447 J8448 => ((x8442 = x8446 → HL_law_18 E P (v3 + (8 : Int32)) I8447 J8448) ∧ (¬ (x8442 = x8446) → P (0 : Int32) I8447 J8448))))) ∧ (((E.2.2 v3.toNatClampNeg) &&& (63 : Int32)) = (34 : Int32) → (vp_in (v3 + (1 : Int32)) E.2.1) ∧ (vp_in (v3 + (2 : Int32)) E.2.1) ∧ (vp_in (v3 + (3 : Int32)) E.2.1) ∧ CallI E mX11_sheet [.ref 0, .int (E.2.2 (v3 + (1 : Int32)).toNatClampNeg), .int (E.2.2 (v3 + (2 : Int32)).toNatClampNeg), .int (E.2.2 (v3 + (3 : Int32)).toNatClampNeg)] SH I J (fun x8454 I8455 J8456 => (vp_in (v3 + (1 : Int32)) E.2.1) ∧ (vp_in (v3 + (2 : Int32)) E.2.1) ∧ (vp_in (v3 + (3 : Int32)) E.2.1) ∧ CallI E mX12_sheet [.ref 68, .int (E.2.2 (v3 + (1 : Int32)).toNatClampNeg), .int (E.2.2 (v3 + (2 : Int32)).toNatClampNeg), .int (E.2.2 (v3 + (3 : Int32)).toNatClampNeg)] SH I8455 J8456 (fun x8460 I8461 J8462 => ((x8454 = x8460 → HL_law_18 E P (v3 + (8 : Int32)) I8461 J8462) ∧ (¬ (x8454 = x8460) → P (0 : Int32) I8461 J8462))))) ∧ (((E.2.2 v3.toNatClampNeg) &&& (63 : Int32)) = (35 : Int32) → (vp_in (v3 + (1 : Int32)) E.2.1) ∧ (vp_in (v3 + (2 : Int32)) E.2.1) ∧ (vp_in (v3 + (3 : Int32)) E.2.1) ∧ CallI E mX11_lay [.ref 0, .int (E.2.2 (v3 + (1 : Int32)).toNatClampNeg), .int (E.2.2 (v3 + (2 : Int32)).toNatClampNeg), .int (E.2.2 (v3 + (3 : Int32)).toNatClampNeg)] SH I J (fun x8468 I8469 J8470 => (vp_in (v3 + (1 : Int32)) E.2.1) ∧ (vp_in (v3 + (2 : Int32)) E.2.1) ∧ (vp_in (v3 + (3 : Int32)) E.2.1) ∧ CallI E mX12_lay [.ref 68, .int (E.2.2 (v3 + (1 : Int32)).toNatClampNeg), .int (E.2.2 (v3 + (2 : Int32)).toNatClampNeg), .int (E.2.2 (v3 + (3 : Int32)).toNatClampNeg)] SH I8469 J8470 (fun x8474 I8475 J8476 => ((x8468 = x8474 → HL_law_18 E P (v3 + (8 : Int32)) I8475 J8476) ∧ (¬ (x8468 = x8474) → P (0 : Int32) I8475 J8476))))) ∧ (((E.2.2 v3.toNatClampNeg) &&& (63 : Int32)) = (36 : Int32) → (vp_in (v3 + (1 : Int32)) E.2.1) ∧ (vp_in (v3 + (2 : Int32)) E.2.1) ∧ (vp_in (v3 + (3 : Int32)) E.2.1) ∧ (vp_in (v3 + (4 : Int32)) E.2.1) ∧ CallI E mX11_read [.ref 0, .int (E.2.2 (v3 + (1 : Int32)).toNatClampNeg), .int (E.2.2 (v3 + (2 : Int32)).toNatClampNeg), .int (E.2.2 (v3 + (3 : Int32)).toNatClampNeg), .int (E.2.2 (v3 + (4 : Int32)).toNatClampNeg)] SH I J (fun x8483 I8484 J8485 => (vp_in (v3 + (1 : Int32)) E.2.1) ∧ (vp_in (v3 + (2 : Int32)) E.2.1) ∧ (vp_in (v3 + (3 : Int32)) E.2.1) ∧ (vp_in (v3 + (4 : Int32)) E.2.1) ∧ CallI E mX12_read [.ref 68, .int (E.2.2 (v3 + (1 : Int32)).toNatClampNeg), .int (E.2.2 (v3 + (2 : Int32)).toNatClampNeg), .int (E.2.2 (v3 + (3 : Int32)).toNatClampNeg), .int (E.2.2 (v3 + (4 : Int32)).toNatClampNeg)] SH I8484 J8485 (fun x8490 I8491 J8492 => ((x8483 = x8490 → HL_law_18 E P (v3 + (8 : Int32)) I8491 J8492) ∧ (¬ (x8483 = x8490) → P (0 : Int32) I8491 J8492))))) ∧ (((E.2.2 v3.toNatClampNeg) &&& (63 : Int32)) = (37 : Int32) → CallI E mX11_torn [.ref 0] SH I J (fun x8495 I8496 J8497 => CallI E mX12_torn [.ref 68] SH I8496 J8497 (fun x8498 I8499 J8500 => ((x8495 = x8498 → HL_law_18 E P (v3 + (8 : Int32)) I8499 J8500) ∧ (¬ (x8495 = x8498) → P (0 : Int32) I8499 J8500))))) ∧ (((E.2.2 v3.toNatClampNeg) &&& (63 : Int32)) = (38 : Int32) → (vp_in (v3 + (1 : Int32)) E.2.1) ∧ CallI E mX11_count [.ref 0, .int (E.2.2 (v3 + (1 : Int32)).toNatClampNeg)] SH I J (fun x8504 I8505 J8506 => (vp_in (v3 + (1 : Int32)) E.2.1) ∧ CallI E mX12_count [.ref 68, .int (E.2.2 (v3 + (1 : Int32)).toNatClampNeg)] SH I8505 J8506 (fun x8508 I8509 J8510 => ((x8504 = x8508 → HL_law_18 E P (v3 + (8 : Int32)) I8509 J8510) ∧ (¬ (x8504 = x8508) → P (0 : Int32) I8509 J8510))))) ∧ ((¬ ((E.2.2 v3.toNatClampNeg) &&& (63 : Int32)) = (0 : Int32) ∧ ¬ ((E.2.2 v3.toNatClampNeg) &&& (63 : Int32)) = (1 : Int32) ∧ ¬ ((E.2.2 v3.toNatClampNeg) &&& (63 : Int32)) = (2 : Int32) ∧ ¬ ((E.2.2 v3.toNatClampNeg) &&& (63 : Int32)) = (3 : Int32) ∧ ¬ ((E.2.2 v3.toNatClampNeg) &&& (63 : Int32)) = (4 : Int32) ∧ ¬ ((E.2.2 v3.toNatClampNeg) &&& (63 : Int32)) = (5 : Int32) ∧ ¬ ((E.2.2 v3.toNatClampNeg) &&& (63 : Int32)) = (6 : Int32) ∧ ¬ ((E.2.2 v3.toNatClampNeg) &&& (63 : Int32)) = (7 : Int32) ∧ ¬ ((E.2.2 v3.toNatClampNeg) &&& (63 : Int32)) = (8 : Int32) ∧ ¬ ((E.2.2 v3.toNatClampNeg) &&& (63 : Int32)) = (9 : Int32) ∧ ¬ ((E.2.2 v3.toNatClampNeg) &&& (63 : Int32)) = (10 : Int32) ∧ ¬ ((E.2.2 v3.toNatClampNeg) &&& (63 : Int32)) = (11 : Int32) ∧ ¬ ((E.2.2 v3.toNatClampNeg) &&& (63 : Int32)) = (12 : Int32) ∧ ¬ ((E.2.2 v3.toNatClampNeg) &&& (63 : Int32)) = (13 : Int32) ∧ ¬ ((E.2.2 v3.toNatClampNeg) &&& (63 : Int32)) = (14 : Int32) ∧ ¬ ((E.2.2 v3.toNatClampNeg) &&& (63 : Int32)) = (15 : Int32) ∧ ¬ ((E.2.2 v3.toNatClampNeg) &&& (63 : Int32)) = (16 : Int32) ∧ ¬ ((E.2.2 v3.toNatClampNeg) &&& (63 : Int32)) = (17 : Int32) ∧ ¬ ((E.2.2 v3.toNatClampNeg) &&& (63 : Int32)) = (18 : Int32) ∧ ¬ ((E.2.2 v3.toNatClampNeg) &&& (63 : Int32)) = (19 : Int32) ∧ ¬ ((E.2.2 v3.toNatClampNeg) &&& (63 : Int32)) = (20 : Int32) ∧ ¬ ((E.2.2 v3.toNatClampNeg) &&& (63 : Int32)) = (21 : Int32) ∧ ¬ ((E.2.2 v3.toNatClampNeg) &&& (63 : Int32)) = (22 : Int32) ∧ ¬ ((E.2.2 v3.toNatClampNeg) &&& (63 : Int32)) = (23 : Int32) ∧ ¬ ((E.2.2 v3.toNatClampNeg) &&& (63 : Int32)) = (24 : Int32) ∧ ¬ ((E.2.2 v3.toNatClampNeg) &&& (63 : Int32)) = (25 : Int32) ∧ ¬ ((E.2.2 v3.toNatClampNeg) &&& (63 : Int32)) = (26 : Int32) ∧ ¬ ((E.2.2 v3.toNatClampNeg) &&& (63 : Int32)) = (27 : Int32) ∧ ¬ ((E.2.2 v3.toNatClampNeg) &&& (63 : Int32)) = (28 : Int32) ∧ ¬ ((E.2.2 v3.toNatClampNeg) &&& (63 : Int32)) = (29 : Int32) ∧ ¬ ((E.2.2 v3.toNatClampNeg) &&& (63 : Int32)) = (30 : Int32) ∧ ¬ ((E.2.2 v3.toNatClampNeg) &&& (63 : Int32)) = (31 : Int32) ∧ ¬ ((E.2.2 v3.toNatClampNeg) &&& (63 : Int32)) = (32 : Int32) ∧ ¬ ((E.2.2 v3.toNatClampNeg) &&& (63 : Int32)) = (33 : Int32) ∧ ¬ ((E.2.2 v3.toNatClampNeg) &&& (63 : Int32)) = (34 : Int32) ∧ ¬ ((E.2.2 v3.toNatClampNeg) &&& (63 : Int32)) = (35 : Int32) ∧ ¬ ((E.2.2 v3.toNatClampNeg) &&& (63 : Int32)) = (36 : Int32) ∧ ¬ ((E.2.2 v3.toNatClampNeg) &&& (63 : Int32)) = (37 : Int32) ∧ ¬ ((E.2.2 v3.toNatClampNeg) &&& (63 : Int32)) = (38 : Int32)) → HL_law_18 E P (v3 + (8 : Int32)) I J))))) : HL_law_18 E P v3 I J := by
  show V E mLw (kI SH P) 18 [.float 32, .ref 0, .ref 68, .int v3] [] (SH, I, J) (94, 3874)
  refine V_iload_n dL_law_18 rfl ?_
  refine V_aloadS_n dL_law_19 (Or.inr (Or.inr rfl)) rfl ?_
  refine V_slen dL_law_20 ?_
  refine V_bipush (v := (8 : Int32)) dL_law_21 rfl ?_
  refine V_isub dL_law_23 ?_
  refine V_icmp_gt dL_law_24 (fun c1 => ?_) (fun c1 => ?_)
  · have k := k.1 c1
    refine V_iconst (v := (1 : Int32)) dL_law_1706 rfl ?_
    exact V_iret dL_law_1707 ⟨_, rfl, rfl⟩ rfl rfl ⟨_, _, _, rfl, rfl, k⟩
  · have k := k.2 c1
    refine V_aloadS_n dL_law_27 (Or.inr (Or.inr rfl)) rfl ?_
    refine V_iload_n dL_law_28 rfl ?_
    obtain ⟨hb2, k⟩ := k
    refine V_sld dL_law_29 hb2 ?_
    refine V_bipush (v := (63 : Int32)) dL_law_30 rfl ?_
    refine V_iand dL_law_32 ?_
    by_cases c14 : ((E.2.2 v3.toNatClampNeg) &&& (63 : Int32)) = (0 : Int32)
    · refine V_tabIn (off := 171) (tgt := 204) dL_law_33 (by rw [c14]; decide) (by rw [c14]; decide) (by rw [c14]; rfl) rfl ?_
      have k := k.1 c14
      refine V_aload_n dL_law_204 rfl ?_
      refine V_aloadS_n dL_law_205 (Or.inr (Or.inr rfl)) rfl ?_
      refine V_iload_n dL_law_206 rfl ?_
      refine V_iconst (v := (1 : Int32)) dL_law_207 rfl ?_
      refine V_iadd dL_law_208 ?_
      obtain ⟨hb3, k⟩ := k
      refine V_sld dL_law_209 hb3 ?_
      refine V_i2l dL_law_210 ?_
      refine V_bipush (v := (32 : Int32)) dL_law_211 rfl ?_
      refine V_lshl dL_law_213 ?_
      refine V_aloadS_n dL_law_214 (Or.inr (Or.inr rfl)) rfl ?_
      refine V_iload_n dL_law_215 rfl ?_
      refine V_iconst (v := (2 : Int32)) dL_law_216 rfl ?_
      refine V_iadd dL_law_217 ?_
      obtain ⟨hb4, k⟩ := k
      refine V_sld dL_law_218 hb4 ?_
      refine V_i2l dL_law_219 ?_
      refine V_ldc2_w (v := (4294967295 : Int64)) dL_law_220 (gt_7 39 rfl rfl) ?_
      refine V_land dL_law_223 ?_
      refine V_lor dL_law_224 ?_
      refine U_callV1 [.long ((((E.2.2 (v3 + (1 : Int32)).toNatClampNeg).toInt64) <<< ((32 : Int32).toInt64 &&& 63)) ||| (((E.2.2 (v3 + (2 : Int32)).toNatClampNeg).toInt64) &&& (4294967295 : Int64)))] dL_law_225 ov_L_15 s_0 rfl ⟨rfl, rfl, rfl⟩ rfl rfl rfl (CallI_mono k (fun x5 I6 J7 k => ?_))
      refine V_aload_n dL_law_228 rfl ?_
      refine V_aloadS_n dL_law_229 (Or.inr (Or.inr rfl)) rfl ?_
      refine V_iload_n dL_law_230 rfl ?_
      refine V_iconst (v := (1 : Int32)) dL_law_231 rfl ?_
      refine V_iadd dL_law_232 ?_
      obtain ⟨hb8, k⟩ := k
      refine V_sld dL_law_233 hb8 ?_
      refine V_i2l dL_law_234 ?_
      refine V_bipush (v := (32 : Int32)) dL_law_235 rfl ?_
      refine V_lshl dL_law_237 ?_
      refine V_aloadS_n dL_law_238 (Or.inr (Or.inr rfl)) rfl ?_
      refine V_iload_n dL_law_239 rfl ?_
      refine V_iconst (v := (2 : Int32)) dL_law_240 rfl ?_
      refine V_iadd dL_law_241 ?_
      obtain ⟨hb9, k⟩ := k
      refine V_sld dL_law_242 hb9 ?_
      refine V_i2l dL_law_243 ?_
      refine V_ldc2_w (v := (4294967295 : Int64)) dL_law_244 (gt_7 39 rfl rfl) ?_
      refine V_land dL_law_247 ?_
      refine V_lor dL_law_248 ?_
      refine U_callV1 [.long ((((E.2.2 (v3 + (1 : Int32)).toNatClampNeg).toInt64) <<< ((32 : Int32).toInt64 &&& 63)) ||| (((E.2.2 (v3 + (2 : Int32)).toNatClampNeg).toInt64) &&& (4294967295 : Int64)))] dL_law_249 ov_L_19 s_68 rfl ⟨rfl, rfl, rfl⟩ rfl rfl rfl (CallI_mono k (fun x10 I11 J12 k => ?_))
      refine V_icmp_eq dL_law_252 (fun c13 => ?_) (fun c13 => ?_)
      · have k := k.1 c13
        refine U_iinc (v := v3 + (8 : Int32)) (L2 := [.float 32, .ref 0, .ref 68, .int (v3 + (8 : Int32))]) dL_law_1700 (by decide) rfl rfl rfl ?_
        refine V_goto dL_law_1703 ?_
        exact k
      · have k := k.2 c13
        refine V_iconst (v := (0 : Int32)) dL_law_255 rfl ?_
        exact V_iret dL_law_256 ⟨_, rfl, rfl⟩ rfl rfl ⟨_, _, _, rfl, rfl, k⟩
    by_cases c24 : ((E.2.2 v3.toNatClampNeg) &&& (63 : Int32)) = (1 : Int32)
    · refine V_tabIn (off := 224) (tgt := 257) dL_law_33 (by rw [c24]; decide) (by rw [c24]; decide) (by rw [c24]; rfl) rfl ?_
      have k := k.2.1 c24
      refine V_aload_n dL_law_257 rfl ?_
      refine V_aloadS_n dL_law_258 (Or.inr (Or.inr rfl)) rfl ?_
      refine V_iload_n dL_law_259 rfl ?_
      refine V_iconst (v := (1 : Int32)) dL_law_260 rfl ?_
      refine V_iadd dL_law_261 ?_
      obtain ⟨hb15, k⟩ := k
      refine V_sld dL_law_262 hb15 ?_
      refine U_callV1 [.int (E.2.2 (v3 + (1 : Int32)).toNatClampNeg)] dL_law_263 ov_L_20 s_0 rfl ⟨rfl, rfl, rfl⟩ rfl rfl rfl (CallI_mono k (fun x16 I17 J18 k => ?_))
      refine V_aload_n dL_law_266 rfl ?_
      refine V_aloadS_n dL_law_267 (Or.inr (Or.inr rfl)) rfl ?_
      refine V_iload_n dL_law_268 rfl ?_
      refine V_iconst (v := (1 : Int32)) dL_law_269 rfl ?_
      refine V_iadd dL_law_270 ?_
      obtain ⟨hb19, k⟩ := k
      refine V_sld dL_law_271 hb19 ?_
      refine U_callV1 [.int (E.2.2 (v3 + (1 : Int32)).toNatClampNeg)] dL_law_272 ov_L_24 s_68 rfl ⟨rfl, rfl, rfl⟩ rfl rfl rfl (CallI_mono k (fun x20 I21 J22 k => ?_))
      refine V_icmp_eq dL_law_275 (fun c23 => ?_) (fun c23 => ?_)
      · have k := k.1 c23
        refine U_iinc (v := v3 + (8 : Int32)) (L2 := [.float 32, .ref 0, .ref 68, .int (v3 + (8 : Int32))]) dL_law_1700 (by decide) rfl rfl rfl ?_
        refine V_goto dL_law_1703 ?_
        exact k
      · have k := k.2 c23
        refine V_iconst (v := (0 : Int32)) dL_law_278 rfl ?_
        exact V_iret dL_law_279 ⟨_, rfl, rfl⟩ rfl rfl ⟨_, _, _, rfl, rfl, k⟩
    by_cases c32 : ((E.2.2 v3.toNatClampNeg) &&& (63 : Int32)) = (2 : Int32)
    · refine V_tabIn (off := 247) (tgt := 280) dL_law_33 (by rw [c32]; decide) (by rw [c32]; decide) (by rw [c32]; rfl) rfl ?_
      have k := k.2.2.1 c32
      refine V_aload_n dL_law_280 rfl ?_
      refine U_callV1 [] dL_law_281 ov_L_25 s_0 rfl ⟨rfl, rfl, rfl⟩ rfl rfl rfl (CallI_mono k (fun x25 I26 J27 k => ?_))
      refine V_aload_n dL_law_284 rfl ?_
      refine U_callV1 [] dL_law_285 ov_L_29 s_68 rfl ⟨rfl, rfl, rfl⟩ rfl rfl rfl (CallI_mono k (fun x28 I29 J30 k => ?_))
      refine V_icmp_eq dL_law_288 (fun c31 => ?_) (fun c31 => ?_)
      · have k := k.1 c31
        refine U_iinc (v := v3 + (8 : Int32)) (L2 := [.float 32, .ref 0, .ref 68, .int (v3 + (8 : Int32))]) dL_law_1700 (by decide) rfl rfl rfl ?_
        refine V_goto dL_law_1703 ?_
        exact k
      · have k := k.2 c31
        refine V_iconst (v := (0 : Int32)) dL_law_291 rfl ?_
        exact V_iret dL_law_292 ⟨_, rfl, rfl⟩ rfl rfl ⟨_, _, _, rfl, rfl, k⟩
    by_cases c40 : ((E.2.2 v3.toNatClampNeg) &&& (63 : Int32)) = (3 : Int32)
    · refine V_tabIn (off := 260) (tgt := 293) dL_law_33 (by rw [c40]; decide) (by rw [c40]; decide) (by rw [c40]; rfl) rfl ?_
      have k := k.2.2.2.1 c40
      refine V_aload_n dL_law_293 rfl ?_
      refine U_callV1 [] dL_law_294 ov_L_30 s_0 rfl ⟨rfl, rfl, rfl⟩ rfl rfl rfl (CallI_mono k (fun x33 I34 J35 k => ?_))
      refine V_aload_n dL_law_297 rfl ?_
      refine U_callV1 [] dL_law_298 ov_L_33 s_68 rfl ⟨rfl, rfl, rfl⟩ rfl rfl rfl (CallI_mono k (fun x36 I37 J38 k => ?_))
      refine V_icmp_eq dL_law_301 (fun c39 => ?_) (fun c39 => ?_)
      · have k := k.1 c39
        refine U_iinc (v := v3 + (8 : Int32)) (L2 := [.float 32, .ref 0, .ref 68, .int (v3 + (8 : Int32))]) dL_law_1700 (by decide) rfl rfl rfl ?_
        refine V_goto dL_law_1703 ?_
        exact k
      · have k := k.2 c39
        refine V_iconst (v := (0 : Int32)) dL_law_304 rfl ?_
        exact V_iret dL_law_305 ⟨_, rfl, rfl⟩ rfl rfl ⟨_, _, _, rfl, rfl, k⟩
    by_cases c50 : ((E.2.2 v3.toNatClampNeg) &&& (63 : Int32)) = (4 : Int32)
    · refine V_tabIn (off := 273) (tgt := 306) dL_law_33 (by rw [c50]; decide) (by rw [c50]; decide) (by rw [c50]; rfl) rfl ?_
      have k := k.2.2.2.2.1 c50
      refine V_aload_n dL_law_306 rfl ?_
      refine V_aloadS_n dL_law_307 (Or.inr (Or.inr rfl)) rfl ?_
      refine V_iload_n dL_law_308 rfl ?_
      refine V_iconst (v := (1 : Int32)) dL_law_309 rfl ?_
      refine V_iadd dL_law_310 ?_
      obtain ⟨hb41, k⟩ := k
      refine V_sld dL_law_311 hb41 ?_
      refine U_callV1 [.int (E.2.2 (v3 + (1 : Int32)).toNatClampNeg)] dL_law_312 ov_L_34 s_0 rfl ⟨rfl, rfl, rfl⟩ rfl rfl rfl (CallI_mono k (fun x42 I43 J44 k => ?_))
      refine V_aload_n dL_law_315 rfl ?_
      refine V_aloadS_n dL_law_316 (Or.inr (Or.inr rfl)) rfl ?_
      refine V_iload_n dL_law_317 rfl ?_
      refine V_iconst (v := (1 : Int32)) dL_law_318 rfl ?_
      refine V_iadd dL_law_319 ?_
      obtain ⟨hb45, k⟩ := k
      refine V_sld dL_law_320 hb45 ?_
      refine U_callV1 [.int (E.2.2 (v3 + (1 : Int32)).toNatClampNeg)] dL_law_321 ov_L_37 s_68 rfl ⟨rfl, rfl, rfl⟩ rfl rfl rfl (CallI_mono k (fun x46 I47 J48 k => ?_))
      refine V_icmp_eq dL_law_324 (fun c49 => ?_) (fun c49 => ?_)
      · have k := k.1 c49
        refine U_iinc (v := v3 + (8 : Int32)) (L2 := [.float 32, .ref 0, .ref 68, .int (v3 + (8 : Int32))]) dL_law_1700 (by decide) rfl rfl rfl ?_
        refine V_goto dL_law_1703 ?_
        exact k
      · have k := k.2 c49
        refine V_iconst (v := (0 : Int32)) dL_law_327 rfl ?_
        exact V_iret dL_law_328 ⟨_, rfl, rfl⟩ rfl rfl ⟨_, _, _, rfl, rfl, k⟩
    by_cases c62 : ((E.2.2 v3.toNatClampNeg) &&& (63 : Int32)) = (5 : Int32)
    · refine V_tabIn (off := 296) (tgt := 329) dL_law_33 (by rw [c62]; decide) (by rw [c62]; decide) (by rw [c62]; rfl) rfl ?_
      have k := k.2.2.2.2.2.1 c62
      refine V_aload_n dL_law_329 rfl ?_
      refine V_aloadS_n dL_law_330 (Or.inr (Or.inr rfl)) rfl ?_
      refine V_iload_n dL_law_331 rfl ?_
      refine V_iconst (v := (1 : Int32)) dL_law_332 rfl ?_
      refine V_iadd dL_law_333 ?_
      obtain ⟨hb51, k⟩ := k
      refine V_sld dL_law_334 hb51 ?_
      refine V_aloadS_n dL_law_335 (Or.inr (Or.inr rfl)) rfl ?_
      refine V_iload_n dL_law_336 rfl ?_
      refine V_iconst (v := (2 : Int32)) dL_law_337 rfl ?_
      refine V_iadd dL_law_338 ?_
      obtain ⟨hb52, k⟩ := k
      refine V_sld dL_law_339 hb52 ?_
      refine U_callV1 [.int (E.2.2 (v3 + (1 : Int32)).toNatClampNeg), .int (E.2.2 (v3 + (2 : Int32)).toNatClampNeg)] dL_law_340 ov_L_38 s_0 rfl ⟨rfl, rfl, rfl⟩ rfl rfl rfl (CallI_mono k (fun x53 I54 J55 k => ?_))
      refine V_aload_n dL_law_343 rfl ?_
      refine V_aloadS_n dL_law_344 (Or.inr (Or.inr rfl)) rfl ?_
      refine V_iload_n dL_law_345 rfl ?_
      refine V_iconst (v := (1 : Int32)) dL_law_346 rfl ?_
      refine V_iadd dL_law_347 ?_
      obtain ⟨hb56, k⟩ := k
      refine V_sld dL_law_348 hb56 ?_
      refine V_aloadS_n dL_law_349 (Or.inr (Or.inr rfl)) rfl ?_
      refine V_iload_n dL_law_350 rfl ?_
      refine V_iconst (v := (2 : Int32)) dL_law_351 rfl ?_
      refine V_iadd dL_law_352 ?_
      obtain ⟨hb57, k⟩ := k
      refine V_sld dL_law_353 hb57 ?_
      refine U_callV1 [.int (E.2.2 (v3 + (1 : Int32)).toNatClampNeg), .int (E.2.2 (v3 + (2 : Int32)).toNatClampNeg)] dL_law_354 ov_L_42 s_68 rfl ⟨rfl, rfl, rfl⟩ rfl rfl rfl (CallI_mono k (fun x58 I59 J60 k => ?_))
      refine V_icmp_eq dL_law_357 (fun c61 => ?_) (fun c61 => ?_)
      · have k := k.1 c61
        refine U_iinc (v := v3 + (8 : Int32)) (L2 := [.float 32, .ref 0, .ref 68, .int (v3 + (8 : Int32))]) dL_law_1700 (by decide) rfl rfl rfl ?_
        refine V_goto dL_law_1703 ?_
        exact k
      · have k := k.2 c61
        refine V_iconst (v := (0 : Int32)) dL_law_360 rfl ?_
        exact V_iret dL_law_361 ⟨_, rfl, rfl⟩ rfl rfl ⟨_, _, _, rfl, rfl, k⟩
    by_cases c76 : ((E.2.2 v3.toNatClampNeg) &&& (63 : Int32)) = (6 : Int32)
    · refine V_tabIn (off := 329) (tgt := 362) dL_law_33 (by rw [c76]; decide) (by rw [c76]; decide) (by rw [c76]; rfl) rfl ?_
      have k := k.2.2.2.2.2.2.1 c76
      refine V_aload_n dL_law_362 rfl ?_
      refine V_aloadS_n dL_law_363 (Or.inr (Or.inr rfl)) rfl ?_
      refine V_iload_n dL_law_364 rfl ?_
      refine V_iconst (v := (1 : Int32)) dL_law_365 rfl ?_
      refine V_iadd dL_law_366 ?_
      obtain ⟨hb63, k⟩ := k
      refine V_sld dL_law_367 hb63 ?_
      refine V_aloadS_n dL_law_368 (Or.inr (Or.inr rfl)) rfl ?_
      refine V_iload_n dL_law_369 rfl ?_
      refine V_iconst (v := (2 : Int32)) dL_law_370 rfl ?_
      refine V_iadd dL_law_371 ?_
      obtain ⟨hb64, k⟩ := k
      refine V_sld dL_law_372 hb64 ?_
      refine V_aloadS_n dL_law_373 (Or.inr (Or.inr rfl)) rfl ?_
      refine V_iload_n dL_law_374 rfl ?_
      refine V_iconst (v := (3 : Int32)) dL_law_375 rfl ?_
      refine V_iadd dL_law_376 ?_
      obtain ⟨hb65, k⟩ := k
      refine V_sld dL_law_377 hb65 ?_
      refine U_callV1 [.int (E.2.2 (v3 + (1 : Int32)).toNatClampNeg), .int (E.2.2 (v3 + (2 : Int32)).toNatClampNeg), .int (E.2.2 (v3 + (3 : Int32)).toNatClampNeg)] dL_law_378 ov_L_43 s_0 rfl ⟨rfl, rfl, rfl⟩ rfl rfl rfl (CallI_mono k (fun x66 I67 J68 k => ?_))
      refine V_aload_n dL_law_381 rfl ?_
      refine V_aloadS_n dL_law_382 (Or.inr (Or.inr rfl)) rfl ?_
      refine V_iload_n dL_law_383 rfl ?_
      refine V_iconst (v := (1 : Int32)) dL_law_384 rfl ?_
      refine V_iadd dL_law_385 ?_
      obtain ⟨hb69, k⟩ := k
      refine V_sld dL_law_386 hb69 ?_
      refine V_aloadS_n dL_law_387 (Or.inr (Or.inr rfl)) rfl ?_
      refine V_iload_n dL_law_388 rfl ?_
      refine V_iconst (v := (2 : Int32)) dL_law_389 rfl ?_
      refine V_iadd dL_law_390 ?_
      obtain ⟨hb70, k⟩ := k
      refine V_sld dL_law_391 hb70 ?_
      refine V_aloadS_n dL_law_392 (Or.inr (Or.inr rfl)) rfl ?_
      refine V_iload_n dL_law_393 rfl ?_
      refine V_iconst (v := (3 : Int32)) dL_law_394 rfl ?_
      refine V_iadd dL_law_395 ?_
      obtain ⟨hb71, k⟩ := k
      refine V_sld dL_law_396 hb71 ?_
      refine U_callV1 [.int (E.2.2 (v3 + (1 : Int32)).toNatClampNeg), .int (E.2.2 (v3 + (2 : Int32)).toNatClampNeg), .int (E.2.2 (v3 + (3 : Int32)).toNatClampNeg)] dL_law_397 ov_L_47 s_68 rfl ⟨rfl, rfl, rfl⟩ rfl rfl rfl (CallI_mono k (fun x72 I73 J74 k => ?_))
      refine V_icmp_eq dL_law_400 (fun c75 => ?_) (fun c75 => ?_)
      · have k := k.1 c75
        refine U_iinc (v := v3 + (8 : Int32)) (L2 := [.float 32, .ref 0, .ref 68, .int (v3 + (8 : Int32))]) dL_law_1700 (by decide) rfl rfl rfl ?_
        refine V_goto dL_law_1703 ?_
        exact k
      · have k := k.2 c75
        refine V_iconst (v := (0 : Int32)) dL_law_403 rfl ?_
        exact V_iret dL_law_404 ⟨_, rfl, rfl⟩ rfl rfl ⟨_, _, _, rfl, rfl, k⟩
    by_cases c92 : ((E.2.2 v3.toNatClampNeg) &&& (63 : Int32)) = (7 : Int32)
    · refine V_tabIn (off := 372) (tgt := 405) dL_law_33 (by rw [c92]; decide) (by rw [c92]; decide) (by rw [c92]; rfl) rfl ?_
      have k := k.2.2.2.2.2.2.2.1 c92
      refine V_aload_n dL_law_405 rfl ?_
      refine V_aloadS_n dL_law_406 (Or.inr (Or.inr rfl)) rfl ?_
      refine V_iload_n dL_law_407 rfl ?_
      refine V_iconst (v := (1 : Int32)) dL_law_408 rfl ?_
      refine V_iadd dL_law_409 ?_
      obtain ⟨hb77, k⟩ := k
      refine V_sld dL_law_410 hb77 ?_
      refine V_aloadS_n dL_law_411 (Or.inr (Or.inr rfl)) rfl ?_
      refine V_iload_n dL_law_412 rfl ?_
      refine V_iconst (v := (2 : Int32)) dL_law_413 rfl ?_
      refine V_iadd dL_law_414 ?_
      obtain ⟨hb78, k⟩ := k
      refine V_sld dL_law_415 hb78 ?_
      refine V_aloadS_n dL_law_416 (Or.inr (Or.inr rfl)) rfl ?_
      refine V_iload_n dL_law_417 rfl ?_
      refine V_iconst (v := (3 : Int32)) dL_law_418 rfl ?_
      refine V_iadd dL_law_419 ?_
      obtain ⟨hb79, k⟩ := k
      refine V_sld dL_law_420 hb79 ?_
      refine V_aloadS_n dL_law_421 (Or.inr (Or.inr rfl)) rfl ?_
      refine V_iload_n dL_law_422 rfl ?_
      refine V_iconst (v := (4 : Int32)) dL_law_423 rfl ?_
      refine V_iadd dL_law_424 ?_
      obtain ⟨hb80, k⟩ := k
      refine V_sld dL_law_425 hb80 ?_
      refine U_callV1 [.int (E.2.2 (v3 + (1 : Int32)).toNatClampNeg), .int (E.2.2 (v3 + (2 : Int32)).toNatClampNeg), .int (E.2.2 (v3 + (3 : Int32)).toNatClampNeg), .int (E.2.2 (v3 + (4 : Int32)).toNatClampNeg)] dL_law_426 ov_L_48 s_0 rfl ⟨rfl, rfl, rfl⟩ rfl rfl rfl (CallI_mono k (fun x81 I82 J83 k => ?_))
      refine V_aload_n dL_law_429 rfl ?_
      refine V_aloadS_n dL_law_430 (Or.inr (Or.inr rfl)) rfl ?_
      refine V_iload_n dL_law_431 rfl ?_
      refine V_iconst (v := (1 : Int32)) dL_law_432 rfl ?_
      refine V_iadd dL_law_433 ?_
      obtain ⟨hb84, k⟩ := k
      refine V_sld dL_law_434 hb84 ?_
      refine V_aloadS_n dL_law_435 (Or.inr (Or.inr rfl)) rfl ?_
      refine V_iload_n dL_law_436 rfl ?_
      refine V_iconst (v := (2 : Int32)) dL_law_437 rfl ?_
      refine V_iadd dL_law_438 ?_
      obtain ⟨hb85, k⟩ := k
      refine V_sld dL_law_439 hb85 ?_
      refine V_aloadS_n dL_law_440 (Or.inr (Or.inr rfl)) rfl ?_
      refine V_iload_n dL_law_441 rfl ?_
      refine V_iconst (v := (3 : Int32)) dL_law_442 rfl ?_
      refine V_iadd dL_law_443 ?_
      obtain ⟨hb86, k⟩ := k
      refine V_sld dL_law_444 hb86 ?_
      refine V_aloadS_n dL_law_445 (Or.inr (Or.inr rfl)) rfl ?_
      refine V_iload_n dL_law_446 rfl ?_
      refine V_iconst (v := (4 : Int32)) dL_law_447 rfl ?_
      refine V_iadd dL_law_448 ?_
      obtain ⟨hb87, k⟩ := k
      refine V_sld dL_law_449 hb87 ?_
      refine U_callV1 [.int (E.2.2 (v3 + (1 : Int32)).toNatClampNeg), .int (E.2.2 (v3 + (2 : Int32)).toNatClampNeg), .int (E.2.2 (v3 + (3 : Int32)).toNatClampNeg), .int (E.2.2 (v3 + (4 : Int32)).toNatClampNeg)] dL_law_450 ov_L_52 s_68 rfl ⟨rfl, rfl, rfl⟩ rfl rfl rfl (CallI_mono k (fun x88 I89 J90 k => ?_))
      refine V_icmp_eq dL_law_453 (fun c91 => ?_) (fun c91 => ?_)
      · have k := k.1 c91
        refine U_iinc (v := v3 + (8 : Int32)) (L2 := [.float 32, .ref 0, .ref 68, .int (v3 + (8 : Int32))]) dL_law_1700 (by decide) rfl rfl rfl ?_
        refine V_goto dL_law_1703 ?_
        exact k
      · have k := k.2 c91
        refine V_iconst (v := (0 : Int32)) dL_law_456 rfl ?_
        exact V_iret dL_law_457 ⟨_, rfl, rfl⟩ rfl rfl ⟨_, _, _, rfl, rfl, k⟩
    by_cases c106 : ((E.2.2 v3.toNatClampNeg) &&& (63 : Int32)) = (8 : Int32)
    · refine V_tabIn (off := 425) (tgt := 458) dL_law_33 (by rw [c106]; decide) (by rw [c106]; decide) (by rw [c106]; rfl) rfl ?_
      have k := k.2.2.2.2.2.2.2.2.1 c106
      refine V_aload_n dL_law_458 rfl ?_
      refine V_aloadS_n dL_law_459 (Or.inr (Or.inr rfl)) rfl ?_
      refine V_iload_n dL_law_460 rfl ?_
      refine V_iconst (v := (1 : Int32)) dL_law_461 rfl ?_
      refine V_iadd dL_law_462 ?_
      obtain ⟨hb93, k⟩ := k
      refine V_sld dL_law_463 hb93 ?_
      refine V_aloadS_n dL_law_464 (Or.inr (Or.inr rfl)) rfl ?_
      refine V_iload_n dL_law_465 rfl ?_
      refine V_iconst (v := (2 : Int32)) dL_law_466 rfl ?_
      refine V_iadd dL_law_467 ?_
      obtain ⟨hb94, k⟩ := k
      refine V_sld dL_law_468 hb94 ?_
      refine V_aloadS_n dL_law_469 (Or.inr (Or.inr rfl)) rfl ?_
      refine V_iload_n dL_law_470 rfl ?_
      refine V_iconst (v := (3 : Int32)) dL_law_471 rfl ?_
      refine V_iadd dL_law_472 ?_
      obtain ⟨hb95, k⟩ := k
      refine V_sld dL_law_473 hb95 ?_
      refine U_callV1 [.int (E.2.2 (v3 + (1 : Int32)).toNatClampNeg), .int (E.2.2 (v3 + (2 : Int32)).toNatClampNeg), .int (E.2.2 (v3 + (3 : Int32)).toNatClampNeg)] dL_law_474 ov_L_53 s_0 rfl ⟨rfl, rfl, rfl⟩ rfl rfl rfl (CallI_mono k (fun x96 I97 J98 k => ?_))
      refine V_aload_n dL_law_477 rfl ?_
      refine V_aloadS_n dL_law_478 (Or.inr (Or.inr rfl)) rfl ?_
      refine V_iload_n dL_law_479 rfl ?_
      refine V_iconst (v := (1 : Int32)) dL_law_480 rfl ?_
      refine V_iadd dL_law_481 ?_
      obtain ⟨hb99, k⟩ := k
      refine V_sld dL_law_482 hb99 ?_
      refine V_aloadS_n dL_law_483 (Or.inr (Or.inr rfl)) rfl ?_
      refine V_iload_n dL_law_484 rfl ?_
      refine V_iconst (v := (2 : Int32)) dL_law_485 rfl ?_
      refine V_iadd dL_law_486 ?_
      obtain ⟨hb100, k⟩ := k
      refine V_sld dL_law_487 hb100 ?_
      refine V_aloadS_n dL_law_488 (Or.inr (Or.inr rfl)) rfl ?_
      refine V_iload_n dL_law_489 rfl ?_
      refine V_iconst (v := (3 : Int32)) dL_law_490 rfl ?_
      refine V_iadd dL_law_491 ?_
      obtain ⟨hb101, k⟩ := k
      refine V_sld dL_law_492 hb101 ?_
      refine U_callV1 [.int (E.2.2 (v3 + (1 : Int32)).toNatClampNeg), .int (E.2.2 (v3 + (2 : Int32)).toNatClampNeg), .int (E.2.2 (v3 + (3 : Int32)).toNatClampNeg)] dL_law_493 ov_L_56 s_68 rfl ⟨rfl, rfl, rfl⟩ rfl rfl rfl (CallI_mono k (fun x102 I103 J104 k => ?_))
      refine V_icmp_eq dL_law_496 (fun c105 => ?_) (fun c105 => ?_)
      · have k := k.1 c105
        refine U_iinc (v := v3 + (8 : Int32)) (L2 := [.float 32, .ref 0, .ref 68, .int (v3 + (8 : Int32))]) dL_law_1700 (by decide) rfl rfl rfl ?_
        refine V_goto dL_law_1703 ?_
        exact k
      · have k := k.2 c105
        refine V_iconst (v := (0 : Int32)) dL_law_499 rfl ?_
        exact V_iret dL_law_500 ⟨_, rfl, rfl⟩ rfl rfl ⟨_, _, _, rfl, rfl, k⟩
    by_cases c118 : ((E.2.2 v3.toNatClampNeg) &&& (63 : Int32)) = (9 : Int32)
    · refine V_tabIn (off := 468) (tgt := 501) dL_law_33 (by rw [c118]; decide) (by rw [c118]; decide) (by rw [c118]; rfl) rfl ?_
      have k := k.2.2.2.2.2.2.2.2.2.1 c118
      refine V_aload_n dL_law_501 rfl ?_
      refine V_aloadS_n dL_law_502 (Or.inr (Or.inr rfl)) rfl ?_
      refine V_iload_n dL_law_503 rfl ?_
      refine V_iconst (v := (1 : Int32)) dL_law_504 rfl ?_
      refine V_iadd dL_law_505 ?_
      obtain ⟨hb107, k⟩ := k
      refine V_sld dL_law_506 hb107 ?_
      refine V_aloadS_n dL_law_507 (Or.inr (Or.inr rfl)) rfl ?_
      refine V_iload_n dL_law_508 rfl ?_
      refine V_iconst (v := (2 : Int32)) dL_law_509 rfl ?_
      refine V_iadd dL_law_510 ?_
      obtain ⟨hb108, k⟩ := k
      refine V_sld dL_law_511 hb108 ?_
      refine U_callV1 [.int (E.2.2 (v3 + (1 : Int32)).toNatClampNeg), .int (E.2.2 (v3 + (2 : Int32)).toNatClampNeg)] dL_law_512 ov_L_57 s_0 rfl ⟨rfl, rfl, rfl⟩ rfl rfl rfl (CallI_mono k (fun x109 I110 J111 k => ?_))
      refine V_aload_n dL_law_515 rfl ?_
      refine V_aloadS_n dL_law_516 (Or.inr (Or.inr rfl)) rfl ?_
      refine V_iload_n dL_law_517 rfl ?_
      refine V_iconst (v := (1 : Int32)) dL_law_518 rfl ?_
      refine V_iadd dL_law_519 ?_
      obtain ⟨hb112, k⟩ := k
      refine V_sld dL_law_520 hb112 ?_
      refine V_aloadS_n dL_law_521 (Or.inr (Or.inr rfl)) rfl ?_
      refine V_iload_n dL_law_522 rfl ?_
      refine V_iconst (v := (2 : Int32)) dL_law_523 rfl ?_
      refine V_iadd dL_law_524 ?_
      obtain ⟨hb113, k⟩ := k
      refine V_sld dL_law_525 hb113 ?_
      refine U_callV1 [.int (E.2.2 (v3 + (1 : Int32)).toNatClampNeg), .int (E.2.2 (v3 + (2 : Int32)).toNatClampNeg)] dL_law_526 ov_L_60 s_68 rfl ⟨rfl, rfl, rfl⟩ rfl rfl rfl (CallI_mono k (fun x114 I115 J116 k => ?_))
      refine V_icmp_eq dL_law_529 (fun c117 => ?_) (fun c117 => ?_)
      · have k := k.1 c117
        refine U_iinc (v := v3 + (8 : Int32)) (L2 := [.float 32, .ref 0, .ref 68, .int (v3 + (8 : Int32))]) dL_law_1700 (by decide) rfl rfl rfl ?_
        refine V_goto dL_law_1703 ?_
        exact k
      · have k := k.2 c117
        refine V_iconst (v := (0 : Int32)) dL_law_532 rfl ?_
        exact V_iret dL_law_533 ⟨_, rfl, rfl⟩ rfl rfl ⟨_, _, _, rfl, rfl, k⟩
    by_cases c132 : ((E.2.2 v3.toNatClampNeg) &&& (63 : Int32)) = (10 : Int32)
    · refine V_tabIn (off := 501) (tgt := 534) dL_law_33 (by rw [c132]; decide) (by rw [c132]; decide) (by rw [c132]; rfl) rfl ?_
      have k := k.2.2.2.2.2.2.2.2.2.2.1 c132
      refine V_aload_n dL_law_534 rfl ?_
      refine V_aloadS_n dL_law_535 (Or.inr (Or.inr rfl)) rfl ?_
      refine V_iload_n dL_law_536 rfl ?_
      refine V_iconst (v := (1 : Int32)) dL_law_537 rfl ?_
      refine V_iadd dL_law_538 ?_
      obtain ⟨hb119, k⟩ := k
      refine V_sld dL_law_539 hb119 ?_
      refine V_aloadS_n dL_law_540 (Or.inr (Or.inr rfl)) rfl ?_
      refine V_iload_n dL_law_541 rfl ?_
      refine V_iconst (v := (2 : Int32)) dL_law_542 rfl ?_
      refine V_iadd dL_law_543 ?_
      obtain ⟨hb120, k⟩ := k
      refine V_sld dL_law_544 hb120 ?_
      refine V_aloadS_n dL_law_545 (Or.inr (Or.inr rfl)) rfl ?_
      refine V_iload_n dL_law_546 rfl ?_
      refine V_iconst (v := (3 : Int32)) dL_law_547 rfl ?_
      refine V_iadd dL_law_548 ?_
      obtain ⟨hb121, k⟩ := k
      refine V_sld dL_law_549 hb121 ?_
      refine U_callV1 [.int (E.2.2 (v3 + (1 : Int32)).toNatClampNeg), .int (E.2.2 (v3 + (2 : Int32)).toNatClampNeg), .int (E.2.2 (v3 + (3 : Int32)).toNatClampNeg)] dL_law_550 ov_L_61 s_0 rfl ⟨rfl, rfl, rfl⟩ rfl rfl rfl (CallI_mono k (fun x122 I123 J124 k => ?_))
      refine V_aload_n dL_law_553 rfl ?_
      refine V_aloadS_n dL_law_554 (Or.inr (Or.inr rfl)) rfl ?_
      refine V_iload_n dL_law_555 rfl ?_
      refine V_iconst (v := (1 : Int32)) dL_law_556 rfl ?_
      refine V_iadd dL_law_557 ?_
      obtain ⟨hb125, k⟩ := k
      refine V_sld dL_law_558 hb125 ?_
      refine V_aloadS_n dL_law_559 (Or.inr (Or.inr rfl)) rfl ?_
      refine V_iload_n dL_law_560 rfl ?_
      refine V_iconst (v := (2 : Int32)) dL_law_561 rfl ?_
      refine V_iadd dL_law_562 ?_
      obtain ⟨hb126, k⟩ := k
      refine V_sld dL_law_563 hb126 ?_
      refine V_aloadS_n dL_law_564 (Or.inr (Or.inr rfl)) rfl ?_
      refine V_iload_n dL_law_565 rfl ?_
      refine V_iconst (v := (3 : Int32)) dL_law_566 rfl ?_
      refine V_iadd dL_law_567 ?_
      obtain ⟨hb127, k⟩ := k
      refine V_sld dL_law_568 hb127 ?_
      refine U_callV1 [.int (E.2.2 (v3 + (1 : Int32)).toNatClampNeg), .int (E.2.2 (v3 + (2 : Int32)).toNatClampNeg), .int (E.2.2 (v3 + (3 : Int32)).toNatClampNeg)] dL_law_569 ov_L_64 s_68 rfl ⟨rfl, rfl, rfl⟩ rfl rfl rfl (CallI_mono k (fun x128 I129 J130 k => ?_))
      refine V_icmp_eq dL_law_572 (fun c131 => ?_) (fun c131 => ?_)
      · have k := k.1 c131
        refine U_iinc (v := v3 + (8 : Int32)) (L2 := [.float 32, .ref 0, .ref 68, .int (v3 + (8 : Int32))]) dL_law_1700 (by decide) rfl rfl rfl ?_
        refine V_goto dL_law_1703 ?_
        exact k
      · have k := k.2 c131
        refine V_iconst (v := (0 : Int32)) dL_law_575 rfl ?_
        exact V_iret dL_law_576 ⟨_, rfl, rfl⟩ rfl rfl ⟨_, _, _, rfl, rfl, k⟩
    by_cases c154 : ((E.2.2 v3.toNatClampNeg) &&& (63 : Int32)) = (11 : Int32)
    · refine V_tabIn (off := 544) (tgt := 577) dL_law_33 (by rw [c154]; decide) (by rw [c154]; decide) (by rw [c154]; rfl) rfl ?_
      have k := k.2.2.2.2.2.2.2.2.2.2.2.1 c154
      refine V_aload_n dL_law_577 rfl ?_
      refine V_aloadS_n dL_law_578 (Or.inr (Or.inr rfl)) rfl ?_
      refine V_iload_n dL_law_579 rfl ?_
      refine V_iconst (v := (1 : Int32)) dL_law_580 rfl ?_
      refine V_iadd dL_law_581 ?_
      obtain ⟨hb133, k⟩ := k
      refine V_sld dL_law_582 hb133 ?_
      refine V_aloadS_n dL_law_583 (Or.inr (Or.inr rfl)) rfl ?_
      refine V_iload_n dL_law_584 rfl ?_
      refine V_iconst (v := (2 : Int32)) dL_law_585 rfl ?_
      refine V_iadd dL_law_586 ?_
      obtain ⟨hb134, k⟩ := k
      refine V_sld dL_law_587 hb134 ?_
      refine V_aloadS_n dL_law_588 (Or.inr (Or.inr rfl)) rfl ?_
      refine V_iload_n dL_law_589 rfl ?_
      refine V_iconst (v := (3 : Int32)) dL_law_590 rfl ?_
      refine V_iadd dL_law_591 ?_
      obtain ⟨hb135, k⟩ := k
      refine V_sld dL_law_592 hb135 ?_
      refine V_aloadS_n dL_law_593 (Or.inr (Or.inr rfl)) rfl ?_
      refine V_iload_n dL_law_594 rfl ?_
      refine V_iconst (v := (4 : Int32)) dL_law_595 rfl ?_
      refine V_iadd dL_law_596 ?_
      obtain ⟨hb136, k⟩ := k
      refine V_sld dL_law_597 hb136 ?_
      refine V_aloadS_n dL_law_598 (Or.inr (Or.inr rfl)) rfl ?_
      refine V_iload_n dL_law_599 rfl ?_
      refine V_iconst (v := (5 : Int32)) dL_law_600 rfl ?_
      refine V_iadd dL_law_601 ?_
      obtain ⟨hb137, k⟩ := k
      refine V_sld dL_law_602 hb137 ?_
      refine V_aloadS_n dL_law_603 (Or.inr (Or.inr rfl)) rfl ?_
      refine V_iload_n dL_law_604 rfl ?_
      refine V_bipush (v := (6 : Int32)) dL_law_605 rfl ?_
      refine V_iadd dL_law_607 ?_
      obtain ⟨hb138, k⟩ := k
      refine V_sld dL_law_608 hb138 ?_
      refine V_aloadS_n dL_law_609 (Or.inr (Or.inr rfl)) rfl ?_
      refine V_iload_n dL_law_610 rfl ?_
      refine V_bipush (v := (7 : Int32)) dL_law_611 rfl ?_
      refine V_iadd dL_law_613 ?_
      obtain ⟨hb139, k⟩ := k
      refine V_sld dL_law_614 hb139 ?_
      refine U_callV1 [.int (E.2.2 (v3 + (1 : Int32)).toNatClampNeg), .int (E.2.2 (v3 + (2 : Int32)).toNatClampNeg), .int (E.2.2 (v3 + (3 : Int32)).toNatClampNeg), .int (E.2.2 (v3 + (4 : Int32)).toNatClampNeg), .int (E.2.2 (v3 + (5 : Int32)).toNatClampNeg), .int (E.2.2 (v3 + (6 : Int32)).toNatClampNeg), .int (E.2.2 (v3 + (7 : Int32)).toNatClampNeg)] dL_law_615 ov_L_65 s_0 rfl ⟨rfl, rfl, rfl⟩ rfl rfl rfl (CallI_mono k (fun x140 I141 J142 k => ?_))
      refine V_aload_n dL_law_618 rfl ?_
      refine V_aloadS_n dL_law_619 (Or.inr (Or.inr rfl)) rfl ?_
      refine V_iload_n dL_law_620 rfl ?_
      refine V_iconst (v := (1 : Int32)) dL_law_621 rfl ?_
      refine V_iadd dL_law_622 ?_
      obtain ⟨hb143, k⟩ := k
      refine V_sld dL_law_623 hb143 ?_
      refine V_aloadS_n dL_law_624 (Or.inr (Or.inr rfl)) rfl ?_
      refine V_iload_n dL_law_625 rfl ?_
      refine V_iconst (v := (2 : Int32)) dL_law_626 rfl ?_
      refine V_iadd dL_law_627 ?_
      obtain ⟨hb144, k⟩ := k
      refine V_sld dL_law_628 hb144 ?_
      refine V_aloadS_n dL_law_629 (Or.inr (Or.inr rfl)) rfl ?_
      refine V_iload_n dL_law_630 rfl ?_
      refine V_iconst (v := (3 : Int32)) dL_law_631 rfl ?_
      refine V_iadd dL_law_632 ?_
      obtain ⟨hb145, k⟩ := k
      refine V_sld dL_law_633 hb145 ?_
      refine V_aloadS_n dL_law_634 (Or.inr (Or.inr rfl)) rfl ?_
      refine V_iload_n dL_law_635 rfl ?_
      refine V_iconst (v := (4 : Int32)) dL_law_636 rfl ?_
      refine V_iadd dL_law_637 ?_
      obtain ⟨hb146, k⟩ := k
      refine V_sld dL_law_638 hb146 ?_
      refine V_aloadS_n dL_law_639 (Or.inr (Or.inr rfl)) rfl ?_
      refine V_iload_n dL_law_640 rfl ?_
      refine V_iconst (v := (5 : Int32)) dL_law_641 rfl ?_
      refine V_iadd dL_law_642 ?_
      obtain ⟨hb147, k⟩ := k
      refine V_sld dL_law_643 hb147 ?_
      refine V_aloadS_n dL_law_644 (Or.inr (Or.inr rfl)) rfl ?_
      refine V_iload_n dL_law_645 rfl ?_
      refine V_bipush (v := (6 : Int32)) dL_law_646 rfl ?_
      refine V_iadd dL_law_648 ?_
      obtain ⟨hb148, k⟩ := k
      refine V_sld dL_law_649 hb148 ?_
      refine V_aloadS_n dL_law_650 (Or.inr (Or.inr rfl)) rfl ?_
      refine V_iload_n dL_law_651 rfl ?_
      refine V_bipush (v := (7 : Int32)) dL_law_652 rfl ?_
      refine V_iadd dL_law_654 ?_
      obtain ⟨hb149, k⟩ := k
      refine V_sld dL_law_655 hb149 ?_
      refine U_callV1 [.int (E.2.2 (v3 + (1 : Int32)).toNatClampNeg), .int (E.2.2 (v3 + (2 : Int32)).toNatClampNeg), .int (E.2.2 (v3 + (3 : Int32)).toNatClampNeg), .int (E.2.2 (v3 + (4 : Int32)).toNatClampNeg), .int (E.2.2 (v3 + (5 : Int32)).toNatClampNeg), .int (E.2.2 (v3 + (6 : Int32)).toNatClampNeg), .int (E.2.2 (v3 + (7 : Int32)).toNatClampNeg)] dL_law_656 ov_L_69 s_68 rfl ⟨rfl, rfl, rfl⟩ rfl rfl rfl (CallI_mono k (fun x150 I151 J152 k => ?_))
      refine V_icmp_eq dL_law_659 (fun c153 => ?_) (fun c153 => ?_)
      · have k := k.1 c153
        refine U_iinc (v := v3 + (8 : Int32)) (L2 := [.float 32, .ref 0, .ref 68, .int (v3 + (8 : Int32))]) dL_law_1700 (by decide) rfl rfl rfl ?_
        refine V_goto dL_law_1703 ?_
        exact k
      · have k := k.2 c153
        refine V_iconst (v := (0 : Int32)) dL_law_662 rfl ?_
        exact V_iret dL_law_663 ⟨_, rfl, rfl⟩ rfl rfl ⟨_, _, _, rfl, rfl, k⟩
    by_cases c166 : ((E.2.2 v3.toNatClampNeg) &&& (63 : Int32)) = (12 : Int32)
    · refine V_tabIn (off := 631) (tgt := 664) dL_law_33 (by rw [c166]; decide) (by rw [c166]; decide) (by rw [c166]; rfl) rfl ?_
      have k := k.2.2.2.2.2.2.2.2.2.2.2.2.1 c166
      refine V_aload_n dL_law_664 rfl ?_
      refine V_aloadS_n dL_law_665 (Or.inr (Or.inr rfl)) rfl ?_
      refine V_iload_n dL_law_666 rfl ?_
      refine V_iconst (v := (1 : Int32)) dL_law_667 rfl ?_
      refine V_iadd dL_law_668 ?_
      obtain ⟨hb155, k⟩ := k
      refine V_sld dL_law_669 hb155 ?_
      refine V_aloadS_n dL_law_670 (Or.inr (Or.inr rfl)) rfl ?_
      refine V_iload_n dL_law_671 rfl ?_
      refine V_iconst (v := (2 : Int32)) dL_law_672 rfl ?_
      refine V_iadd dL_law_673 ?_
      obtain ⟨hb156, k⟩ := k
      refine V_sld dL_law_674 hb156 ?_
      refine U_callV1 [.int (E.2.2 (v3 + (1 : Int32)).toNatClampNeg), .int (E.2.2 (v3 + (2 : Int32)).toNatClampNeg)] dL_law_675 ov_L_70 s_0 rfl ⟨rfl, rfl, rfl⟩ rfl rfl rfl (CallI_mono k (fun x157 I158 J159 k => ?_))
      refine V_aload_n dL_law_678 rfl ?_
      refine V_aloadS_n dL_law_679 (Or.inr (Or.inr rfl)) rfl ?_
      refine V_iload_n dL_law_680 rfl ?_
      refine V_iconst (v := (1 : Int32)) dL_law_681 rfl ?_
      refine V_iadd dL_law_682 ?_
      obtain ⟨hb160, k⟩ := k
      refine V_sld dL_law_683 hb160 ?_
      refine V_aloadS_n dL_law_684 (Or.inr (Or.inr rfl)) rfl ?_
      refine V_iload_n dL_law_685 rfl ?_
      refine V_iconst (v := (2 : Int32)) dL_law_686 rfl ?_
      refine V_iadd dL_law_687 ?_
      obtain ⟨hb161, k⟩ := k
      refine V_sld dL_law_688 hb161 ?_
      refine U_callV1 [.int (E.2.2 (v3 + (1 : Int32)).toNatClampNeg), .int (E.2.2 (v3 + (2 : Int32)).toNatClampNeg)] dL_law_689 ov_L_73 s_68 rfl ⟨rfl, rfl, rfl⟩ rfl rfl rfl (CallI_mono k (fun x162 I163 J164 k => ?_))
      refine V_icmp_eq dL_law_692 (fun c165 => ?_) (fun c165 => ?_)
      · have k := k.1 c165
        refine U_iinc (v := v3 + (8 : Int32)) (L2 := [.float 32, .ref 0, .ref 68, .int (v3 + (8 : Int32))]) dL_law_1700 (by decide) rfl rfl rfl ?_
        refine V_goto dL_law_1703 ?_
        exact k
      · have k := k.2 c165
        refine V_iconst (v := (0 : Int32)) dL_law_695 rfl ?_
        exact V_iret dL_law_696 ⟨_, rfl, rfl⟩ rfl rfl ⟨_, _, _, rfl, rfl, k⟩
    by_cases c178 : ((E.2.2 v3.toNatClampNeg) &&& (63 : Int32)) = (13 : Int32)
    · refine V_tabIn (off := 664) (tgt := 697) dL_law_33 (by rw [c178]; decide) (by rw [c178]; decide) (by rw [c178]; rfl) rfl ?_
      have k := k.2.2.2.2.2.2.2.2.2.2.2.2.2.1 c178
      refine V_aload_n dL_law_697 rfl ?_
      refine V_aloadS_n dL_law_698 (Or.inr (Or.inr rfl)) rfl ?_
      refine V_iload_n dL_law_699 rfl ?_
      refine V_iconst (v := (1 : Int32)) dL_law_700 rfl ?_
      refine V_iadd dL_law_701 ?_
      obtain ⟨hb167, k⟩ := k
      refine V_sld dL_law_702 hb167 ?_
      refine V_aloadS_n dL_law_703 (Or.inr (Or.inr rfl)) rfl ?_
      refine V_iload_n dL_law_704 rfl ?_
      refine V_iconst (v := (2 : Int32)) dL_law_705 rfl ?_
      refine V_iadd dL_law_706 ?_
      obtain ⟨hb168, k⟩ := k
      refine V_sld dL_law_707 hb168 ?_
      refine U_callV1 [.int (E.2.2 (v3 + (1 : Int32)).toNatClampNeg), .int (E.2.2 (v3 + (2 : Int32)).toNatClampNeg)] dL_law_708 ov_L_74 s_0 rfl ⟨rfl, rfl, rfl⟩ rfl rfl rfl (CallI_mono k (fun x169 I170 J171 k => ?_))
      refine V_aload_n dL_law_711 rfl ?_
      refine V_aloadS_n dL_law_712 (Or.inr (Or.inr rfl)) rfl ?_
      refine V_iload_n dL_law_713 rfl ?_
      refine V_iconst (v := (1 : Int32)) dL_law_714 rfl ?_
      refine V_iadd dL_law_715 ?_
      obtain ⟨hb172, k⟩ := k
      refine V_sld dL_law_716 hb172 ?_
      refine V_aloadS_n dL_law_717 (Or.inr (Or.inr rfl)) rfl ?_
      refine V_iload_n dL_law_718 rfl ?_
      refine V_iconst (v := (2 : Int32)) dL_law_719 rfl ?_
      refine V_iadd dL_law_720 ?_
      obtain ⟨hb173, k⟩ := k
      refine V_sld dL_law_721 hb173 ?_
      refine U_callV1 [.int (E.2.2 (v3 + (1 : Int32)).toNatClampNeg), .int (E.2.2 (v3 + (2 : Int32)).toNatClampNeg)] dL_law_722 ov_L_77 s_68 rfl ⟨rfl, rfl, rfl⟩ rfl rfl rfl (CallI_mono k (fun x174 I175 J176 k => ?_))
      refine V_icmp_eq dL_law_725 (fun c177 => ?_) (fun c177 => ?_)
      · have k := k.1 c177
        refine U_iinc (v := v3 + (8 : Int32)) (L2 := [.float 32, .ref 0, .ref 68, .int (v3 + (8 : Int32))]) dL_law_1700 (by decide) rfl rfl rfl ?_
        refine V_goto dL_law_1703 ?_
        exact k
      · have k := k.2 c177
        refine V_iconst (v := (0 : Int32)) dL_law_728 rfl ?_
        exact V_iret dL_law_729 ⟨_, rfl, rfl⟩ rfl rfl ⟨_, _, _, rfl, rfl, k⟩
    by_cases c190 : ((E.2.2 v3.toNatClampNeg) &&& (63 : Int32)) = (14 : Int32)
    · refine V_tabIn (off := 697) (tgt := 730) dL_law_33 (by rw [c190]; decide) (by rw [c190]; decide) (by rw [c190]; rfl) rfl ?_
      have k := k.2.2.2.2.2.2.2.2.2.2.2.2.2.2.1 c190
      refine V_aload_n dL_law_730 rfl ?_
      refine V_aloadS_n dL_law_731 (Or.inr (Or.inr rfl)) rfl ?_
      refine V_iload_n dL_law_732 rfl ?_
      refine V_iconst (v := (1 : Int32)) dL_law_733 rfl ?_
      refine V_iadd dL_law_734 ?_
      obtain ⟨hb179, k⟩ := k
      refine V_sld dL_law_735 hb179 ?_
      refine V_aloadS_n dL_law_736 (Or.inr (Or.inr rfl)) rfl ?_
      refine V_iload_n dL_law_737 rfl ?_
      refine V_iconst (v := (2 : Int32)) dL_law_738 rfl ?_
      refine V_iadd dL_law_739 ?_
      obtain ⟨hb180, k⟩ := k
      refine V_sld dL_law_740 hb180 ?_
      refine U_callV1 [.int (E.2.2 (v3 + (1 : Int32)).toNatClampNeg), .int (E.2.2 (v3 + (2 : Int32)).toNatClampNeg)] dL_law_741 ov_L_78 s_0 rfl ⟨rfl, rfl, rfl⟩ rfl rfl rfl (CallI_mono k (fun x181 I182 J183 k => ?_))
      refine V_aload_n dL_law_744 rfl ?_
      refine V_aloadS_n dL_law_745 (Or.inr (Or.inr rfl)) rfl ?_
      refine V_iload_n dL_law_746 rfl ?_
      refine V_iconst (v := (1 : Int32)) dL_law_747 rfl ?_
      refine V_iadd dL_law_748 ?_
      obtain ⟨hb184, k⟩ := k
      refine V_sld dL_law_749 hb184 ?_
      refine V_aloadS_n dL_law_750 (Or.inr (Or.inr rfl)) rfl ?_
      refine V_iload_n dL_law_751 rfl ?_
      refine V_iconst (v := (2 : Int32)) dL_law_752 rfl ?_
      refine V_iadd dL_law_753 ?_
      obtain ⟨hb185, k⟩ := k
      refine V_sld dL_law_754 hb185 ?_
      refine U_callV1 [.int (E.2.2 (v3 + (1 : Int32)).toNatClampNeg), .int (E.2.2 (v3 + (2 : Int32)).toNatClampNeg)] dL_law_755 ov_L_81 s_68 rfl ⟨rfl, rfl, rfl⟩ rfl rfl rfl (CallI_mono k (fun x186 I187 J188 k => ?_))
      refine V_icmp_eq dL_law_758 (fun c189 => ?_) (fun c189 => ?_)
      · have k := k.1 c189
        refine U_iinc (v := v3 + (8 : Int32)) (L2 := [.float 32, .ref 0, .ref 68, .int (v3 + (8 : Int32))]) dL_law_1700 (by decide) rfl rfl rfl ?_
        refine V_goto dL_law_1703 ?_
        exact k
      · have k := k.2 c189
        refine V_iconst (v := (0 : Int32)) dL_law_761 rfl ?_
        exact V_iret dL_law_762 ⟨_, rfl, rfl⟩ rfl rfl ⟨_, _, _, rfl, rfl, k⟩
    by_cases c204 : ((E.2.2 v3.toNatClampNeg) &&& (63 : Int32)) = (15 : Int32)
    · refine V_tabIn (off := 730) (tgt := 763) dL_law_33 (by rw [c204]; decide) (by rw [c204]; decide) (by rw [c204]; rfl) rfl ?_
      have k := k.2.2.2.2.2.2.2.2.2.2.2.2.2.2.2.1 c204
      refine V_aload_n dL_law_763 rfl ?_
      refine V_aloadS_n dL_law_764 (Or.inr (Or.inr rfl)) rfl ?_
      refine V_iload_n dL_law_765 rfl ?_
      refine V_iconst (v := (1 : Int32)) dL_law_766 rfl ?_
      refine V_iadd dL_law_767 ?_
      obtain ⟨hb191, k⟩ := k
      refine V_sld dL_law_768 hb191 ?_
      refine V_aloadS_n dL_law_769 (Or.inr (Or.inr rfl)) rfl ?_
      refine V_iload_n dL_law_770 rfl ?_
      refine V_iconst (v := (2 : Int32)) dL_law_771 rfl ?_
      refine V_iadd dL_law_772 ?_
      obtain ⟨hb192, k⟩ := k
      refine V_sld dL_law_773 hb192 ?_
      refine V_aloadS_n dL_law_774 (Or.inr (Or.inr rfl)) rfl ?_
      refine V_iload_n dL_law_775 rfl ?_
      refine V_iconst (v := (3 : Int32)) dL_law_776 rfl ?_
      refine V_iadd dL_law_777 ?_
      obtain ⟨hb193, k⟩ := k
      refine V_sld dL_law_778 hb193 ?_
      refine U_callV1 [.int (E.2.2 (v3 + (1 : Int32)).toNatClampNeg), .int (E.2.2 (v3 + (2 : Int32)).toNatClampNeg), .int (E.2.2 (v3 + (3 : Int32)).toNatClampNeg)] dL_law_779 ov_L_82 s_0 rfl ⟨rfl, rfl, rfl⟩ rfl rfl rfl (CallI_mono k (fun x194 I195 J196 k => ?_))
      refine V_aload_n dL_law_782 rfl ?_
      refine V_aloadS_n dL_law_783 (Or.inr (Or.inr rfl)) rfl ?_
      refine V_iload_n dL_law_784 rfl ?_
      refine V_iconst (v := (1 : Int32)) dL_law_785 rfl ?_
      refine V_iadd dL_law_786 ?_
      obtain ⟨hb197, k⟩ := k
      refine V_sld dL_law_787 hb197 ?_
      refine V_aloadS_n dL_law_788 (Or.inr (Or.inr rfl)) rfl ?_
      refine V_iload_n dL_law_789 rfl ?_
      refine V_iconst (v := (2 : Int32)) dL_law_790 rfl ?_
      refine V_iadd dL_law_791 ?_
      obtain ⟨hb198, k⟩ := k
      refine V_sld dL_law_792 hb198 ?_
      refine V_aloadS_n dL_law_793 (Or.inr (Or.inr rfl)) rfl ?_
      refine V_iload_n dL_law_794 rfl ?_
      refine V_iconst (v := (3 : Int32)) dL_law_795 rfl ?_
      refine V_iadd dL_law_796 ?_
      obtain ⟨hb199, k⟩ := k
      refine V_sld dL_law_797 hb199 ?_
      refine U_callV1 [.int (E.2.2 (v3 + (1 : Int32)).toNatClampNeg), .int (E.2.2 (v3 + (2 : Int32)).toNatClampNeg), .int (E.2.2 (v3 + (3 : Int32)).toNatClampNeg)] dL_law_798 ov_L_85 s_68 rfl ⟨rfl, rfl, rfl⟩ rfl rfl rfl (CallI_mono k (fun x200 I201 J202 k => ?_))
      refine V_icmp_eq dL_law_801 (fun c203 => ?_) (fun c203 => ?_)
      · have k := k.1 c203
        refine U_iinc (v := v3 + (8 : Int32)) (L2 := [.float 32, .ref 0, .ref 68, .int (v3 + (8 : Int32))]) dL_law_1700 (by decide) rfl rfl rfl ?_
        refine V_goto dL_law_1703 ?_
        exact k
      · have k := k.2 c203
        refine V_iconst (v := (0 : Int32)) dL_law_804 rfl ?_
        exact V_iret dL_law_805 ⟨_, rfl, rfl⟩ rfl rfl ⟨_, _, _, rfl, rfl, k⟩
    by_cases c220 : ((E.2.2 v3.toNatClampNeg) &&& (63 : Int32)) = (16 : Int32)
    · refine V_tabIn (off := 773) (tgt := 806) dL_law_33 (by rw [c220]; decide) (by rw [c220]; decide) (by rw [c220]; rfl) rfl ?_
      have k := k.2.2.2.2.2.2.2.2.2.2.2.2.2.2.2.2.1 c220
      refine V_aload_n dL_law_806 rfl ?_
      refine V_aloadS_n dL_law_807 (Or.inr (Or.inr rfl)) rfl ?_
      refine V_iload_n dL_law_808 rfl ?_
      refine V_iconst (v := (1 : Int32)) dL_law_809 rfl ?_
      refine V_iadd dL_law_810 ?_
      obtain ⟨hb205, k⟩ := k
      refine V_sld dL_law_811 hb205 ?_
      refine V_aloadS_n dL_law_812 (Or.inr (Or.inr rfl)) rfl ?_
      refine V_iload_n dL_law_813 rfl ?_
      refine V_iconst (v := (2 : Int32)) dL_law_814 rfl ?_
      refine V_iadd dL_law_815 ?_
      obtain ⟨hb206, k⟩ := k
      refine V_sld dL_law_816 hb206 ?_
      refine V_aloadS_n dL_law_817 (Or.inr (Or.inr rfl)) rfl ?_
      refine V_iload_n dL_law_818 rfl ?_
      refine V_iconst (v := (3 : Int32)) dL_law_819 rfl ?_
      refine V_iadd dL_law_820 ?_
      obtain ⟨hb207, k⟩ := k
      refine V_sld dL_law_821 hb207 ?_
      refine V_aloadS_n dL_law_822 (Or.inr (Or.inr rfl)) rfl ?_
      refine V_iload_n dL_law_823 rfl ?_
      refine V_iconst (v := (4 : Int32)) dL_law_824 rfl ?_
      refine V_iadd dL_law_825 ?_
      obtain ⟨hb208, k⟩ := k
      refine V_sld dL_law_826 hb208 ?_
      refine U_callV1 [.int (E.2.2 (v3 + (1 : Int32)).toNatClampNeg), .int (E.2.2 (v3 + (2 : Int32)).toNatClampNeg), .int (E.2.2 (v3 + (3 : Int32)).toNatClampNeg), .int (E.2.2 (v3 + (4 : Int32)).toNatClampNeg)] dL_law_827 ov_L_86 s_0 rfl ⟨rfl, rfl, rfl⟩ rfl rfl rfl (CallI_mono k (fun x209 I210 J211 k => ?_))
      refine V_aload_n dL_law_830 rfl ?_
      refine V_aloadS_n dL_law_831 (Or.inr (Or.inr rfl)) rfl ?_
      refine V_iload_n dL_law_832 rfl ?_
      refine V_iconst (v := (1 : Int32)) dL_law_833 rfl ?_
      refine V_iadd dL_law_834 ?_
      obtain ⟨hb212, k⟩ := k
      refine V_sld dL_law_835 hb212 ?_
      refine V_aloadS_n dL_law_836 (Or.inr (Or.inr rfl)) rfl ?_
      refine V_iload_n dL_law_837 rfl ?_
      refine V_iconst (v := (2 : Int32)) dL_law_838 rfl ?_
      refine V_iadd dL_law_839 ?_
      obtain ⟨hb213, k⟩ := k
      refine V_sld dL_law_840 hb213 ?_
      refine V_aloadS_n dL_law_841 (Or.inr (Or.inr rfl)) rfl ?_
      refine V_iload_n dL_law_842 rfl ?_
      refine V_iconst (v := (3 : Int32)) dL_law_843 rfl ?_
      refine V_iadd dL_law_844 ?_
      obtain ⟨hb214, k⟩ := k
      refine V_sld dL_law_845 hb214 ?_
      refine V_aloadS_n dL_law_846 (Or.inr (Or.inr rfl)) rfl ?_
      refine V_iload_n dL_law_847 rfl ?_
      refine V_iconst (v := (4 : Int32)) dL_law_848 rfl ?_
      refine V_iadd dL_law_849 ?_
      obtain ⟨hb215, k⟩ := k
      refine V_sld dL_law_850 hb215 ?_
      refine U_callV1 [.int (E.2.2 (v3 + (1 : Int32)).toNatClampNeg), .int (E.2.2 (v3 + (2 : Int32)).toNatClampNeg), .int (E.2.2 (v3 + (3 : Int32)).toNatClampNeg), .int (E.2.2 (v3 + (4 : Int32)).toNatClampNeg)] dL_law_851 ov_L_89 s_68 rfl ⟨rfl, rfl, rfl⟩ rfl rfl rfl (CallI_mono k (fun x216 I217 J218 k => ?_))
      refine V_icmp_eq dL_law_854 (fun c219 => ?_) (fun c219 => ?_)
      · have k := k.1 c219
        refine U_iinc (v := v3 + (8 : Int32)) (L2 := [.float 32, .ref 0, .ref 68, .int (v3 + (8 : Int32))]) dL_law_1700 (by decide) rfl rfl rfl ?_
        refine V_goto dL_law_1703 ?_
        exact k
      · have k := k.2 c219
        refine V_iconst (v := (0 : Int32)) dL_law_857 rfl ?_
        exact V_iret dL_law_858 ⟨_, rfl, rfl⟩ rfl rfl ⟨_, _, _, rfl, rfl, k⟩
    by_cases c232 : ((E.2.2 v3.toNatClampNeg) &&& (63 : Int32)) = (17 : Int32)
    · refine V_tabIn (off := 826) (tgt := 859) dL_law_33 (by rw [c232]; decide) (by rw [c232]; decide) (by rw [c232]; rfl) rfl ?_
      have k := k.2.2.2.2.2.2.2.2.2.2.2.2.2.2.2.2.2.1 c232
      refine V_aload_n dL_law_859 rfl ?_
      refine V_aloadS_n dL_law_860 (Or.inr (Or.inr rfl)) rfl ?_
      refine V_iload_n dL_law_861 rfl ?_
      refine V_iconst (v := (1 : Int32)) dL_law_862 rfl ?_
      refine V_iadd dL_law_863 ?_
      obtain ⟨hb221, k⟩ := k
      refine V_sld dL_law_864 hb221 ?_
      refine V_aloadS_n dL_law_865 (Or.inr (Or.inr rfl)) rfl ?_
      refine V_iload_n dL_law_866 rfl ?_
      refine V_iconst (v := (2 : Int32)) dL_law_867 rfl ?_
      refine V_iadd dL_law_868 ?_
      obtain ⟨hb222, k⟩ := k
      refine V_sld dL_law_869 hb222 ?_
      refine U_callV1 [.int (E.2.2 (v3 + (1 : Int32)).toNatClampNeg), .int (E.2.2 (v3 + (2 : Int32)).toNatClampNeg)] dL_law_870 ov_L_90 s_0 rfl ⟨rfl, rfl, rfl⟩ rfl rfl rfl (CallI_mono k (fun x223 I224 J225 k => ?_))
      refine V_aload_n dL_law_873 rfl ?_
      refine V_aloadS_n dL_law_874 (Or.inr (Or.inr rfl)) rfl ?_
      refine V_iload_n dL_law_875 rfl ?_
      refine V_iconst (v := (1 : Int32)) dL_law_876 rfl ?_
      refine V_iadd dL_law_877 ?_
      obtain ⟨hb226, k⟩ := k
      refine V_sld dL_law_878 hb226 ?_
      refine V_aloadS_n dL_law_879 (Or.inr (Or.inr rfl)) rfl ?_
      refine V_iload_n dL_law_880 rfl ?_
      refine V_iconst (v := (2 : Int32)) dL_law_881 rfl ?_
      refine V_iadd dL_law_882 ?_
      obtain ⟨hb227, k⟩ := k
      refine V_sld dL_law_883 hb227 ?_
      refine U_callV1 [.int (E.2.2 (v3 + (1 : Int32)).toNatClampNeg), .int (E.2.2 (v3 + (2 : Int32)).toNatClampNeg)] dL_law_884 ov_L_93 s_68 rfl ⟨rfl, rfl, rfl⟩ rfl rfl rfl (CallI_mono k (fun x228 I229 J230 k => ?_))
      refine V_icmp_eq dL_law_887 (fun c231 => ?_) (fun c231 => ?_)
      · have k := k.1 c231
        refine U_iinc (v := v3 + (8 : Int32)) (L2 := [.float 32, .ref 0, .ref 68, .int (v3 + (8 : Int32))]) dL_law_1700 (by decide) rfl rfl rfl ?_
        refine V_goto dL_law_1703 ?_
        exact k
      · have k := k.2 c231
        refine V_iconst (v := (0 : Int32)) dL_law_890 rfl ?_
        exact V_iret dL_law_891 ⟨_, rfl, rfl⟩ rfl rfl ⟨_, _, _, rfl, rfl, k⟩
    by_cases c242 : ((E.2.2 v3.toNatClampNeg) &&& (63 : Int32)) = (18 : Int32)
    · refine V_tabIn (off := 859) (tgt := 892) dL_law_33 (by rw [c242]; decide) (by rw [c242]; decide) (by rw [c242]; rfl) rfl ?_
      have k := k.2.2.2.2.2.2.2.2.2.2.2.2.2.2.2.2.2.2.1 c242
      refine V_aload_n dL_law_892 rfl ?_
      refine V_aloadS_n dL_law_893 (Or.inr (Or.inr rfl)) rfl ?_
      refine V_iload_n dL_law_894 rfl ?_
      refine V_iconst (v := (1 : Int32)) dL_law_895 rfl ?_
      refine V_iadd dL_law_896 ?_
      obtain ⟨hb233, k⟩ := k
      refine V_sld dL_law_897 hb233 ?_
      refine U_callV1 [.int (E.2.2 (v3 + (1 : Int32)).toNatClampNeg)] dL_law_898 ov_L_94 s_0 rfl ⟨rfl, rfl, rfl⟩ rfl rfl rfl (CallI_mono k (fun x234 I235 J236 k => ?_))
      refine V_aload_n dL_law_901 rfl ?_
      refine V_aloadS_n dL_law_902 (Or.inr (Or.inr rfl)) rfl ?_
      refine V_iload_n dL_law_903 rfl ?_
      refine V_iconst (v := (1 : Int32)) dL_law_904 rfl ?_
      refine V_iadd dL_law_905 ?_
      obtain ⟨hb237, k⟩ := k
      refine V_sld dL_law_906 hb237 ?_
      refine U_callV1 [.int (E.2.2 (v3 + (1 : Int32)).toNatClampNeg)] dL_law_907 ov_L_97 s_68 rfl ⟨rfl, rfl, rfl⟩ rfl rfl rfl (CallI_mono k (fun x238 I239 J240 k => ?_))
      refine V_icmp_eq dL_law_910 (fun c241 => ?_) (fun c241 => ?_)
      · have k := k.1 c241
        refine U_iinc (v := v3 + (8 : Int32)) (L2 := [.float 32, .ref 0, .ref 68, .int (v3 + (8 : Int32))]) dL_law_1700 (by decide) rfl rfl rfl ?_
        refine V_goto dL_law_1703 ?_
        exact k
      · have k := k.2 c241
        refine V_iconst (v := (0 : Int32)) dL_law_913 rfl ?_
        exact V_iret dL_law_914 ⟨_, rfl, rfl⟩ rfl rfl ⟨_, _, _, rfl, rfl, k⟩
    by_cases c254 : ((E.2.2 v3.toNatClampNeg) &&& (63 : Int32)) = (19 : Int32)
    · refine V_tabIn (off := 882) (tgt := 915) dL_law_33 (by rw [c254]; decide) (by rw [c254]; decide) (by rw [c254]; rfl) rfl ?_
      have k := k.2.2.2.2.2.2.2.2.2.2.2.2.2.2.2.2.2.2.2.1 c254
      refine V_aload_n dL_law_915 rfl ?_
      refine V_aloadS_n dL_law_916 (Or.inr (Or.inr rfl)) rfl ?_
      refine V_iload_n dL_law_917 rfl ?_
      refine V_iconst (v := (1 : Int32)) dL_law_918 rfl ?_
      refine V_iadd dL_law_919 ?_
      obtain ⟨hb243, k⟩ := k
      refine V_sld dL_law_920 hb243 ?_
      refine V_aloadS_n dL_law_921 (Or.inr (Or.inr rfl)) rfl ?_
      refine V_iload_n dL_law_922 rfl ?_
      refine V_iconst (v := (2 : Int32)) dL_law_923 rfl ?_
      refine V_iadd dL_law_924 ?_
      obtain ⟨hb244, k⟩ := k
      refine V_sld dL_law_925 hb244 ?_
      refine U_callV1 [.int (E.2.2 (v3 + (1 : Int32)).toNatClampNeg), .int (E.2.2 (v3 + (2 : Int32)).toNatClampNeg)] dL_law_926 ov_L_98 s_0 rfl ⟨rfl, rfl, rfl⟩ rfl rfl rfl (CallI_mono k (fun x245 I246 J247 k => ?_))
      refine V_aload_n dL_law_929 rfl ?_
      refine V_aloadS_n dL_law_930 (Or.inr (Or.inr rfl)) rfl ?_
      refine V_iload_n dL_law_931 rfl ?_
      refine V_iconst (v := (1 : Int32)) dL_law_932 rfl ?_
      refine V_iadd dL_law_933 ?_
      obtain ⟨hb248, k⟩ := k
      refine V_sld dL_law_934 hb248 ?_
      refine V_aloadS_n dL_law_935 (Or.inr (Or.inr rfl)) rfl ?_
      refine V_iload_n dL_law_936 rfl ?_
      refine V_iconst (v := (2 : Int32)) dL_law_937 rfl ?_
      refine V_iadd dL_law_938 ?_
      obtain ⟨hb249, k⟩ := k
      refine V_sld dL_law_939 hb249 ?_
      refine U_callV1 [.int (E.2.2 (v3 + (1 : Int32)).toNatClampNeg), .int (E.2.2 (v3 + (2 : Int32)).toNatClampNeg)] dL_law_940 ov_L_101 s_68 rfl ⟨rfl, rfl, rfl⟩ rfl rfl rfl (CallI_mono k (fun x250 I251 J252 k => ?_))
      refine V_icmp_eq dL_law_943 (fun c253 => ?_) (fun c253 => ?_)
      · have k := k.1 c253
        refine U_iinc (v := v3 + (8 : Int32)) (L2 := [.float 32, .ref 0, .ref 68, .int (v3 + (8 : Int32))]) dL_law_1700 (by decide) rfl rfl rfl ?_
        refine V_goto dL_law_1703 ?_
        exact k
      · have k := k.2 c253
        refine V_iconst (v := (0 : Int32)) dL_law_946 rfl ?_
        exact V_iret dL_law_947 ⟨_, rfl, rfl⟩ rfl rfl ⟨_, _, _, rfl, rfl, k⟩
    by_cases c4276 : ((E.2.2 v3.toNatClampNeg) &&& (63 : Int32)) = (20 : Int32)
    · refine V_tabIn (off := 915) (tgt := 948) dL_law_33 (by rw [c4276]; decide) (by rw [c4276]; decide) (by rw [c4276]; rfl) rfl ?_
      have k := k.2.2.2.2.2.2.2.2.2.2.2.2.2.2.2.2.2.2.2.2.1 c4276
      refine V_aload_n dL_law_948 rfl ?_
      refine V_aloadS_n dL_law_949 (Or.inr (Or.inr rfl)) rfl ?_
      refine V_iload_n dL_law_950 rfl ?_
      refine V_iconst (v := (1 : Int32)) dL_law_951 rfl ?_
      refine V_iadd dL_law_952 ?_
      obtain ⟨hb255, k⟩ := k
      refine V_sld dL_law_953 hb255 ?_
      refine V_aloadS_n dL_law_954 (Or.inr (Or.inr rfl)) rfl ?_
      refine V_iload_n dL_law_955 rfl ?_
      refine V_iconst (v := (2 : Int32)) dL_law_956 rfl ?_
      refine V_iadd dL_law_957 ?_
      obtain ⟨hb256, k⟩ := k
      refine V_sld dL_law_958 hb256 ?_
      refine V_aloadS_n dL_law_959 (Or.inr (Or.inr rfl)) rfl ?_
      refine V_iload_n dL_law_960 rfl ?_
      refine V_iconst (v := (3 : Int32)) dL_law_961 rfl ?_
      refine V_iadd dL_law_962 ?_
      obtain ⟨hb257, k⟩ := k
      refine V_sld dL_law_963 hb257 ?_
      have key258 : ∀ (y2259 : Int32), y2259 = (b2i (¬ ((E.2.2 (v3 + (3 : Int32)).toNatClampNeg) = (0 : Int32)))) → V E mLw (kI SH P) 972 [.float 32, .ref 0, .ref 68, .int v3] [.int y2259, .int (E.2.2 (v3 + (2 : Int32)).toNatClampNeg), .int (E.2.2 (v3 + (1 : Int32)).toNatClampNeg), .ref 0] (SH, I, J) (94, 3874) := by
        intro y2259 ey2259
        subst ey2259
        refine V_aloadS_n dL_law_972 (Or.inr (Or.inr rfl)) rfl ?_
        refine V_iload_n dL_law_973 rfl ?_
        refine V_iconst (v := (4 : Int32)) dL_law_974 rfl ?_
        refine V_iadd dL_law_975 ?_
        obtain ⟨hb2260, k⟩ := k
        refine V_sld dL_law_976 hb2260 ?_
        refine U_callV1 [.int (E.2.2 (v3 + (1 : Int32)).toNatClampNeg), .int (E.2.2 (v3 + (2 : Int32)).toNatClampNeg), .int (b2i (¬ ((E.2.2 (v3 + (3 : Int32)).toNatClampNeg) = (0 : Int32)))), .int (E.2.2 (v3 + (4 : Int32)).toNatClampNeg)] dL_law_977 ov_L_102 s_0 rfl ⟨rfl, rfl, rfl⟩ rfl rfl rfl (CallI_mono k (fun x2261 I2262 J2263 k => ?_))
        refine V_aload_n dL_law_980 rfl ?_
        refine V_aloadS_n dL_law_981 (Or.inr (Or.inr rfl)) rfl ?_
        refine V_iload_n dL_law_982 rfl ?_
        refine V_iconst (v := (1 : Int32)) dL_law_983 rfl ?_
        refine V_iadd dL_law_984 ?_
        obtain ⟨hb2264, k⟩ := k
        refine V_sld dL_law_985 hb2264 ?_
        refine V_aloadS_n dL_law_986 (Or.inr (Or.inr rfl)) rfl ?_
        refine V_iload_n dL_law_987 rfl ?_
        refine V_iconst (v := (2 : Int32)) dL_law_988 rfl ?_
        refine V_iadd dL_law_989 ?_
        obtain ⟨hb2265, k⟩ := k
        refine V_sld dL_law_990 hb2265 ?_
        refine V_aloadS_n dL_law_991 (Or.inr (Or.inr rfl)) rfl ?_
        refine V_iload_n dL_law_992 rfl ?_
        refine V_iconst (v := (3 : Int32)) dL_law_993 rfl ?_
        refine V_iadd dL_law_994 ?_
        obtain ⟨hb2266, k⟩ := k
        refine V_sld dL_law_995 hb2266 ?_
        have key2267 : ∀ (y4268 : Int32), y4268 = (b2i (¬ ((E.2.2 (v3 + (3 : Int32)).toNatClampNeg) = (0 : Int32)))) → V E mLw (kI SH P) 1004 [.float 32, .ref 0, .ref 68, .int v3] [.int y4268, .int (E.2.2 (v3 + (2 : Int32)).toNatClampNeg), .int (E.2.2 (v3 + (1 : Int32)).toNatClampNeg), .ref 68, .int x2261] (SH, I2262, J2263) (94, 3874) := by
          intro y4268 ey4268
          subst ey4268
          refine V_aloadS_n dL_law_1004 (Or.inr (Or.inr rfl)) rfl ?_
          refine V_iload_n dL_law_1005 rfl ?_
          refine V_iconst (v := (4 : Int32)) dL_law_1006 rfl ?_
          refine V_iadd dL_law_1007 ?_
          obtain ⟨hb4269, k⟩ := k
          refine V_sld dL_law_1008 hb4269 ?_
          refine U_callV1 [.int (E.2.2 (v3 + (1 : Int32)).toNatClampNeg), .int (E.2.2 (v3 + (2 : Int32)).toNatClampNeg), .int (b2i (¬ ((E.2.2 (v3 + (3 : Int32)).toNatClampNeg) = (0 : Int32)))), .int (E.2.2 (v3 + (4 : Int32)).toNatClampNeg)] dL_law_1009 ov_L_106 s_68 rfl ⟨rfl, rfl, rfl⟩ rfl rfl rfl (CallI_mono k (fun x4270 I4271 J4272 k => ?_))
          refine V_icmp_eq dL_law_1012 (fun c4273 => ?_) (fun c4273 => ?_)
          · have k := k.1 c4273
            refine U_iinc (v := v3 + (8 : Int32)) (L2 := [.float 32, .ref 0, .ref 68, .int (v3 + (8 : Int32))]) dL_law_1700 (by decide) rfl rfl rfl ?_
            refine V_goto dL_law_1703 ?_
            exact k
          · have k := k.2 c4273
            refine V_iconst (v := (0 : Int32)) dL_law_1015 rfl ?_
            exact V_iret dL_law_1016 ⟨_, rfl, rfl⟩ rfl rfl ⟨_, _, _, rfl, rfl, k⟩
        refine V_if_eq dL_law_996 (fun c4274 => ?_) (fun c4274 => ?_)
        · refine V_iconst (v := (0 : Int32)) dL_law_1003 rfl ?_
          exact key2267 _ ((b2i_0.mpr (fun q => q c4274)).symm)
        · refine V_iconst (v := (1 : Int32)) dL_law_999 rfl ?_
          refine V_goto dL_law_1000 ?_
          exact key2267 _ ((b2i_1.mpr (c4274)).symm)
      refine V_if_eq dL_law_964 (fun c4275 => ?_) (fun c4275 => ?_)
      · refine V_iconst (v := (0 : Int32)) dL_law_971 rfl ?_
        exact key258 _ ((b2i_0.mpr (fun q => q c4275)).symm)
      · refine V_iconst (v := (1 : Int32)) dL_law_967 rfl ?_
        refine V_goto dL_law_968 ?_
        exact key258 _ ((b2i_1.mpr (c4275)).symm)
    by_cases c8296 : ((E.2.2 v3.toNatClampNeg) &&& (63 : Int32)) = (21 : Int32)
    · refine V_tabIn (off := 984) (tgt := 1017) dL_law_33 (by rw [c8296]; decide) (by rw [c8296]; decide) (by rw [c8296]; rfl) rfl ?_
      have k := k.2.2.2.2.2.2.2.2.2.2.2.2.2.2.2.2.2.2.2.2.2.1 c8296
      refine V_aload_n dL_law_1017 rfl ?_
      refine V_aloadS_n dL_law_1018 (Or.inr (Or.inr rfl)) rfl ?_
      refine V_iload_n dL_law_1019 rfl ?_
      refine V_iconst (v := (1 : Int32)) dL_law_1020 rfl ?_
      refine V_iadd dL_law_1021 ?_
      obtain ⟨hb4277, k⟩ := k
      refine V_sld dL_law_1022 hb4277 ?_
      refine V_aloadS_n dL_law_1023 (Or.inr (Or.inr rfl)) rfl ?_
      refine V_iload_n dL_law_1024 rfl ?_
      refine V_iconst (v := (2 : Int32)) dL_law_1025 rfl ?_
      refine V_iadd dL_law_1026 ?_
      obtain ⟨hb4278, k⟩ := k
      refine V_sld dL_law_1027 hb4278 ?_
      refine V_aloadS_n dL_law_1028 (Or.inr (Or.inr rfl)) rfl ?_
      refine V_iload_n dL_law_1029 rfl ?_
      refine V_iconst (v := (3 : Int32)) dL_law_1030 rfl ?_
      refine V_iadd dL_law_1031 ?_
      obtain ⟨hb4279, k⟩ := k
      refine V_sld dL_law_1032 hb4279 ?_
      have key4280 : ∀ (y6281 : Int32), y6281 = (b2i (¬ ((E.2.2 (v3 + (3 : Int32)).toNatClampNeg) = (0 : Int32)))) → V E mLw (kI SH P) 1041 [.float 32, .ref 0, .ref 68, .int v3] [.int y6281, .int (E.2.2 (v3 + (2 : Int32)).toNatClampNeg), .int (E.2.2 (v3 + (1 : Int32)).toNatClampNeg), .ref 0] (SH, I, J) (94, 3874) := by
        intro y6281 ey6281
        subst ey6281
        refine U_callV1 [.int (E.2.2 (v3 + (1 : Int32)).toNatClampNeg), .int (E.2.2 (v3 + (2 : Int32)).toNatClampNeg), .int (b2i (¬ ((E.2.2 (v3 + (3 : Int32)).toNatClampNeg) = (0 : Int32))))] dL_law_1041 ov_L_107 s_0 rfl ⟨rfl, rfl, rfl⟩ rfl rfl rfl (CallI_mono k (fun x6282 I6283 J6284 k => ?_))
        refine V_aload_n dL_law_1044 rfl ?_
        refine V_aloadS_n dL_law_1045 (Or.inr (Or.inr rfl)) rfl ?_
        refine V_iload_n dL_law_1046 rfl ?_
        refine V_iconst (v := (1 : Int32)) dL_law_1047 rfl ?_
        refine V_iadd dL_law_1048 ?_
        obtain ⟨hb6285, k⟩ := k
        refine V_sld dL_law_1049 hb6285 ?_
        refine V_aloadS_n dL_law_1050 (Or.inr (Or.inr rfl)) rfl ?_
        refine V_iload_n dL_law_1051 rfl ?_
        refine V_iconst (v := (2 : Int32)) dL_law_1052 rfl ?_
        refine V_iadd dL_law_1053 ?_
        obtain ⟨hb6286, k⟩ := k
        refine V_sld dL_law_1054 hb6286 ?_
        refine V_aloadS_n dL_law_1055 (Or.inr (Or.inr rfl)) rfl ?_
        refine V_iload_n dL_law_1056 rfl ?_
        refine V_iconst (v := (3 : Int32)) dL_law_1057 rfl ?_
        refine V_iadd dL_law_1058 ?_
        obtain ⟨hb6287, k⟩ := k
        refine V_sld dL_law_1059 hb6287 ?_
        have key6288 : ∀ (y8289 : Int32), y8289 = (b2i (¬ ((E.2.2 (v3 + (3 : Int32)).toNatClampNeg) = (0 : Int32)))) → V E mLw (kI SH P) 1068 [.float 32, .ref 0, .ref 68, .int v3] [.int y8289, .int (E.2.2 (v3 + (2 : Int32)).toNatClampNeg), .int (E.2.2 (v3 + (1 : Int32)).toNatClampNeg), .ref 68, .int x6282] (SH, I6283, J6284) (94, 3874) := by
          intro y8289 ey8289
          subst ey8289
          refine U_callV1 [.int (E.2.2 (v3 + (1 : Int32)).toNatClampNeg), .int (E.2.2 (v3 + (2 : Int32)).toNatClampNeg), .int (b2i (¬ ((E.2.2 (v3 + (3 : Int32)).toNatClampNeg) = (0 : Int32))))] dL_law_1068 ov_L_111 s_68 rfl ⟨rfl, rfl, rfl⟩ rfl rfl rfl (CallI_mono k (fun x8290 I8291 J8292 k => ?_))
          refine V_icmp_eq dL_law_1071 (fun c8293 => ?_) (fun c8293 => ?_)
          · have k := k.1 c8293
            refine U_iinc (v := v3 + (8 : Int32)) (L2 := [.float 32, .ref 0, .ref 68, .int (v3 + (8 : Int32))]) dL_law_1700 (by decide) rfl rfl rfl ?_
            refine V_goto dL_law_1703 ?_
            exact k
          · have k := k.2 c8293
            refine V_iconst (v := (0 : Int32)) dL_law_1074 rfl ?_
            exact V_iret dL_law_1075 ⟨_, rfl, rfl⟩ rfl rfl ⟨_, _, _, rfl, rfl, k⟩
        refine V_if_eq dL_law_1060 (fun c8294 => ?_) (fun c8294 => ?_)
        · refine V_iconst (v := (0 : Int32)) dL_law_1067 rfl ?_
          exact key6288 _ ((b2i_0.mpr (fun q => q c8294)).symm)
        · refine V_iconst (v := (1 : Int32)) dL_law_1063 rfl ?_
          refine V_goto dL_law_1064 ?_
          exact key6288 _ ((b2i_1.mpr (c8294)).symm)
      refine V_if_eq dL_law_1033 (fun c8295 => ?_) (fun c8295 => ?_)
      · refine V_iconst (v := (0 : Int32)) dL_law_1040 rfl ?_
        exact key4280 _ ((b2i_0.mpr (fun q => q c8295)).symm)
      · refine V_iconst (v := (1 : Int32)) dL_law_1036 rfl ?_
        refine V_goto dL_law_1037 ?_
        exact key4280 _ ((b2i_1.mpr (c8295)).symm)
    by_cases c8312 : ((E.2.2 v3.toNatClampNeg) &&& (63 : Int32)) = (22 : Int32)
    · refine V_tabIn (off := 1043) (tgt := 1076) dL_law_33 (by rw [c8312]; decide) (by rw [c8312]; decide) (by rw [c8312]; rfl) rfl ?_
      have k := k.2.2.2.2.2.2.2.2.2.2.2.2.2.2.2.2.2.2.2.2.2.2.1 c8312
      refine V_aload_n dL_law_1076 rfl ?_
      refine V_aloadS_n dL_law_1077 (Or.inr (Or.inr rfl)) rfl ?_
      refine V_iload_n dL_law_1078 rfl ?_
      refine V_iconst (v := (1 : Int32)) dL_law_1079 rfl ?_
      refine V_iadd dL_law_1080 ?_
      obtain ⟨hb8297, k⟩ := k
      refine V_sld dL_law_1081 hb8297 ?_
      refine V_aloadS_n dL_law_1082 (Or.inr (Or.inr rfl)) rfl ?_
      refine V_iload_n dL_law_1083 rfl ?_
      refine V_iconst (v := (2 : Int32)) dL_law_1084 rfl ?_
      refine V_iadd dL_law_1085 ?_
      obtain ⟨hb8298, k⟩ := k
      refine V_sld dL_law_1086 hb8298 ?_
      refine V_aloadS_n dL_law_1087 (Or.inr (Or.inr rfl)) rfl ?_
      refine V_iload_n dL_law_1088 rfl ?_
      refine V_iconst (v := (3 : Int32)) dL_law_1089 rfl ?_
      refine V_iadd dL_law_1090 ?_
      obtain ⟨hb8299, k⟩ := k
      refine V_sld dL_law_1091 hb8299 ?_
      refine V_aloadS_n dL_law_1092 (Or.inr (Or.inr rfl)) rfl ?_
      refine V_iload_n dL_law_1093 rfl ?_
      refine V_iconst (v := (4 : Int32)) dL_law_1094 rfl ?_
      refine V_iadd dL_law_1095 ?_
      obtain ⟨hb8300, k⟩ := k
      refine V_sld dL_law_1096 hb8300 ?_
      refine U_callV1 [.int (E.2.2 (v3 + (1 : Int32)).toNatClampNeg), .int (E.2.2 (v3 + (2 : Int32)).toNatClampNeg), .int (E.2.2 (v3 + (3 : Int32)).toNatClampNeg), .int (E.2.2 (v3 + (4 : Int32)).toNatClampNeg)] dL_law_1097 ov_L_112 s_0 rfl ⟨rfl, rfl, rfl⟩ rfl rfl rfl (CallI_mono k (fun x8301 I8302 J8303 k => ?_))
      refine V_aload_n dL_law_1100 rfl ?_
      refine V_aloadS_n dL_law_1101 (Or.inr (Or.inr rfl)) rfl ?_
      refine V_iload_n dL_law_1102 rfl ?_
      refine V_iconst (v := (1 : Int32)) dL_law_1103 rfl ?_
      refine V_iadd dL_law_1104 ?_
      obtain ⟨hb8304, k⟩ := k
      refine V_sld dL_law_1105 hb8304 ?_
      refine V_aloadS_n dL_law_1106 (Or.inr (Or.inr rfl)) rfl ?_
      refine V_iload_n dL_law_1107 rfl ?_
      refine V_iconst (v := (2 : Int32)) dL_law_1108 rfl ?_
      refine V_iadd dL_law_1109 ?_
      obtain ⟨hb8305, k⟩ := k
      refine V_sld dL_law_1110 hb8305 ?_
      refine V_aloadS_n dL_law_1111 (Or.inr (Or.inr rfl)) rfl ?_
      refine V_iload_n dL_law_1112 rfl ?_
      refine V_iconst (v := (3 : Int32)) dL_law_1113 rfl ?_
      refine V_iadd dL_law_1114 ?_
      obtain ⟨hb8306, k⟩ := k
      refine V_sld dL_law_1115 hb8306 ?_
      refine V_aloadS_n dL_law_1116 (Or.inr (Or.inr rfl)) rfl ?_
      refine V_iload_n dL_law_1117 rfl ?_
      refine V_iconst (v := (4 : Int32)) dL_law_1118 rfl ?_
      refine V_iadd dL_law_1119 ?_
      obtain ⟨hb8307, k⟩ := k
      refine V_sld dL_law_1120 hb8307 ?_
      refine U_callV1 [.int (E.2.2 (v3 + (1 : Int32)).toNatClampNeg), .int (E.2.2 (v3 + (2 : Int32)).toNatClampNeg), .int (E.2.2 (v3 + (3 : Int32)).toNatClampNeg), .int (E.2.2 (v3 + (4 : Int32)).toNatClampNeg)] dL_law_1121 ov_L_115 s_68 rfl ⟨rfl, rfl, rfl⟩ rfl rfl rfl (CallI_mono k (fun x8308 I8309 J8310 k => ?_))
      refine V_icmp_eq dL_law_1124 (fun c8311 => ?_) (fun c8311 => ?_)
      · have k := k.1 c8311
        refine U_iinc (v := v3 + (8 : Int32)) (L2 := [.float 32, .ref 0, .ref 68, .int (v3 + (8 : Int32))]) dL_law_1700 (by decide) rfl rfl rfl ?_
        refine V_goto dL_law_1703 ?_
        exact k
      · have k := k.2 c8311
        refine V_iconst (v := (0 : Int32)) dL_law_1127 rfl ?_
        exact V_iret dL_law_1128 ⟨_, rfl, rfl⟩ rfl rfl ⟨_, _, _, rfl, rfl, k⟩
    by_cases c8322 : ((E.2.2 v3.toNatClampNeg) &&& (63 : Int32)) = (23 : Int32)
    · refine V_tabIn (off := 1096) (tgt := 1129) dL_law_33 (by rw [c8322]; decide) (by rw [c8322]; decide) (by rw [c8322]; rfl) rfl ?_
      have k := k.2.2.2.2.2.2.2.2.2.2.2.2.2.2.2.2.2.2.2.2.2.2.2.1 c8322
      refine V_aload_n dL_law_1129 rfl ?_
      refine V_aloadS_n dL_law_1130 (Or.inr (Or.inr rfl)) rfl ?_
      refine V_iload_n dL_law_1131 rfl ?_
      refine V_iconst (v := (1 : Int32)) dL_law_1132 rfl ?_
      refine V_iadd dL_law_1133 ?_
      obtain ⟨hb8313, k⟩ := k
      refine V_sld dL_law_1134 hb8313 ?_
      refine U_callV1 [.int (E.2.2 (v3 + (1 : Int32)).toNatClampNeg)] dL_law_1135 ov_L_116 s_0 rfl ⟨rfl, rfl, rfl⟩ rfl rfl rfl (CallI_mono k (fun x8314 I8315 J8316 k => ?_))
      refine V_aload_n dL_law_1138 rfl ?_
      refine V_aloadS_n dL_law_1139 (Or.inr (Or.inr rfl)) rfl ?_
      refine V_iload_n dL_law_1140 rfl ?_
      refine V_iconst (v := (1 : Int32)) dL_law_1141 rfl ?_
      refine V_iadd dL_law_1142 ?_
      obtain ⟨hb8317, k⟩ := k
      refine V_sld dL_law_1143 hb8317 ?_
      refine U_callV1 [.int (E.2.2 (v3 + (1 : Int32)).toNatClampNeg)] dL_law_1144 ov_L_119 s_68 rfl ⟨rfl, rfl, rfl⟩ rfl rfl rfl (CallI_mono k (fun x8318 I8319 J8320 k => ?_))
      refine V_icmp_eq dL_law_1147 (fun c8321 => ?_) (fun c8321 => ?_)
      · have k := k.1 c8321
        refine U_iinc (v := v3 + (8 : Int32)) (L2 := [.float 32, .ref 0, .ref 68, .int (v3 + (8 : Int32))]) dL_law_1700 (by decide) rfl rfl rfl ?_
        refine V_goto dL_law_1703 ?_
        exact k
      · have k := k.2 c8321
        refine V_iconst (v := (0 : Int32)) dL_law_1150 rfl ?_
        exact V_iret dL_law_1151 ⟨_, rfl, rfl⟩ rfl rfl ⟨_, _, _, rfl, rfl, k⟩
    by_cases c8334 : ((E.2.2 v3.toNatClampNeg) &&& (63 : Int32)) = (24 : Int32)
    · refine V_tabIn (off := 1119) (tgt := 1152) dL_law_33 (by rw [c8334]; decide) (by rw [c8334]; decide) (by rw [c8334]; rfl) rfl ?_
      have k := k.2.2.2.2.2.2.2.2.2.2.2.2.2.2.2.2.2.2.2.2.2.2.2.2.1 c8334
      refine V_aload_n dL_law_1152 rfl ?_
      refine V_aloadS_n dL_law_1153 (Or.inr (Or.inr rfl)) rfl ?_
      refine V_iload_n dL_law_1154 rfl ?_
      refine V_iconst (v := (1 : Int32)) dL_law_1155 rfl ?_
      refine V_iadd dL_law_1156 ?_
      obtain ⟨hb8323, k⟩ := k
      refine V_sld dL_law_1157 hb8323 ?_
      refine V_aloadS_n dL_law_1158 (Or.inr (Or.inr rfl)) rfl ?_
      refine V_iload_n dL_law_1159 rfl ?_
      refine V_iconst (v := (2 : Int32)) dL_law_1160 rfl ?_
      refine V_iadd dL_law_1161 ?_
      obtain ⟨hb8324, k⟩ := k
      refine V_sld dL_law_1162 hb8324 ?_
      refine U_callV1 [.int (E.2.2 (v3 + (1 : Int32)).toNatClampNeg), .int (E.2.2 (v3 + (2 : Int32)).toNatClampNeg)] dL_law_1163 ov_L_120 s_0 rfl ⟨rfl, rfl, rfl⟩ rfl rfl rfl (CallI_mono k (fun x8325 I8326 J8327 k => ?_))
      refine V_aload_n dL_law_1166 rfl ?_
      refine V_aloadS_n dL_law_1167 (Or.inr (Or.inr rfl)) rfl ?_
      refine V_iload_n dL_law_1168 rfl ?_
      refine V_iconst (v := (1 : Int32)) dL_law_1169 rfl ?_
      refine V_iadd dL_law_1170 ?_
      obtain ⟨hb8328, k⟩ := k
      refine V_sld dL_law_1171 hb8328 ?_
      refine V_aloadS_n dL_law_1172 (Or.inr (Or.inr rfl)) rfl ?_
      refine V_iload_n dL_law_1173 rfl ?_
      refine V_iconst (v := (2 : Int32)) dL_law_1174 rfl ?_
      refine V_iadd dL_law_1175 ?_
      obtain ⟨hb8329, k⟩ := k
      refine V_sld dL_law_1176 hb8329 ?_
      refine U_callV1 [.int (E.2.2 (v3 + (1 : Int32)).toNatClampNeg), .int (E.2.2 (v3 + (2 : Int32)).toNatClampNeg)] dL_law_1177 ov_L_123 s_68 rfl ⟨rfl, rfl, rfl⟩ rfl rfl rfl (CallI_mono k (fun x8330 I8331 J8332 k => ?_))
      refine V_icmp_eq dL_law_1180 (fun c8333 => ?_) (fun c8333 => ?_)
      · have k := k.1 c8333
        refine U_iinc (v := v3 + (8 : Int32)) (L2 := [.float 32, .ref 0, .ref 68, .int (v3 + (8 : Int32))]) dL_law_1700 (by decide) rfl rfl rfl ?_
        refine V_goto dL_law_1703 ?_
        exact k
      · have k := k.2 c8333
        refine V_iconst (v := (0 : Int32)) dL_law_1183 rfl ?_
        exact V_iret dL_law_1184 ⟨_, rfl, rfl⟩ rfl rfl ⟨_, _, _, rfl, rfl, k⟩
    by_cases c8346 : ((E.2.2 v3.toNatClampNeg) &&& (63 : Int32)) = (25 : Int32)
    · refine V_tabIn (off := 1152) (tgt := 1185) dL_law_33 (by rw [c8346]; decide) (by rw [c8346]; decide) (by rw [c8346]; rfl) rfl ?_
      have k := k.2.2.2.2.2.2.2.2.2.2.2.2.2.2.2.2.2.2.2.2.2.2.2.2.2.1 c8346
      refine V_aload_n dL_law_1185 rfl ?_
      refine V_aloadS_n dL_law_1186 (Or.inr (Or.inr rfl)) rfl ?_
      refine V_iload_n dL_law_1187 rfl ?_
      refine V_iconst (v := (1 : Int32)) dL_law_1188 rfl ?_
      refine V_iadd dL_law_1189 ?_
      obtain ⟨hb8335, k⟩ := k
      refine V_sld dL_law_1190 hb8335 ?_
      refine V_aloadS_n dL_law_1191 (Or.inr (Or.inr rfl)) rfl ?_
      refine V_iload_n dL_law_1192 rfl ?_
      refine V_iconst (v := (2 : Int32)) dL_law_1193 rfl ?_
      refine V_iadd dL_law_1194 ?_
      obtain ⟨hb8336, k⟩ := k
      refine V_sld dL_law_1195 hb8336 ?_
      refine U_callV1 [.int (E.2.2 (v3 + (1 : Int32)).toNatClampNeg), .int (E.2.2 (v3 + (2 : Int32)).toNatClampNeg)] dL_law_1196 ov_L_124 s_0 rfl ⟨rfl, rfl, rfl⟩ rfl rfl rfl (CallI_mono k (fun x8337 I8338 J8339 k => ?_))
      refine V_aload_n dL_law_1199 rfl ?_
      refine V_aloadS_n dL_law_1200 (Or.inr (Or.inr rfl)) rfl ?_
      refine V_iload_n dL_law_1201 rfl ?_
      refine V_iconst (v := (1 : Int32)) dL_law_1202 rfl ?_
      refine V_iadd dL_law_1203 ?_
      obtain ⟨hb8340, k⟩ := k
      refine V_sld dL_law_1204 hb8340 ?_
      refine V_aloadS_n dL_law_1205 (Or.inr (Or.inr rfl)) rfl ?_
      refine V_iload_n dL_law_1206 rfl ?_
      refine V_iconst (v := (2 : Int32)) dL_law_1207 rfl ?_
      refine V_iadd dL_law_1208 ?_
      obtain ⟨hb8341, k⟩ := k
      refine V_sld dL_law_1209 hb8341 ?_
      refine U_callV1 [.int (E.2.2 (v3 + (1 : Int32)).toNatClampNeg), .int (E.2.2 (v3 + (2 : Int32)).toNatClampNeg)] dL_law_1210 ov_L_127 s_68 rfl ⟨rfl, rfl, rfl⟩ rfl rfl rfl (CallI_mono k (fun x8342 I8343 J8344 k => ?_))
      refine V_icmp_eq dL_law_1213 (fun c8345 => ?_) (fun c8345 => ?_)
      · have k := k.1 c8345
        refine U_iinc (v := v3 + (8 : Int32)) (L2 := [.float 32, .ref 0, .ref 68, .int (v3 + (8 : Int32))]) dL_law_1700 (by decide) rfl rfl rfl ?_
        refine V_goto dL_law_1703 ?_
        exact k
      · have k := k.2 c8345
        refine V_iconst (v := (0 : Int32)) dL_law_1216 rfl ?_
        exact V_iret dL_law_1217 ⟨_, rfl, rfl⟩ rfl rfl ⟨_, _, _, rfl, rfl, k⟩
    by_cases c8358 : ((E.2.2 v3.toNatClampNeg) &&& (63 : Int32)) = (26 : Int32)
    · refine V_tabIn (off := 1185) (tgt := 1218) dL_law_33 (by rw [c8358]; decide) (by rw [c8358]; decide) (by rw [c8358]; rfl) rfl ?_
      have k := k.2.2.2.2.2.2.2.2.2.2.2.2.2.2.2.2.2.2.2.2.2.2.2.2.2.2.1 c8358
      refine V_aload_n dL_law_1218 rfl ?_
      refine V_aloadS_n dL_law_1219 (Or.inr (Or.inr rfl)) rfl ?_
      refine V_iload_n dL_law_1220 rfl ?_
      refine V_iconst (v := (1 : Int32)) dL_law_1221 rfl ?_
      refine V_iadd dL_law_1222 ?_
      obtain ⟨hb8347, k⟩ := k
      refine V_sld dL_law_1223 hb8347 ?_
      refine V_aloadS_n dL_law_1224 (Or.inr (Or.inr rfl)) rfl ?_
      refine V_iload_n dL_law_1225 rfl ?_
      refine V_iconst (v := (2 : Int32)) dL_law_1226 rfl ?_
      refine V_iadd dL_law_1227 ?_
      obtain ⟨hb8348, k⟩ := k
      refine V_sld dL_law_1228 hb8348 ?_
      refine U_callV1 [.int (E.2.2 (v3 + (1 : Int32)).toNatClampNeg), .int (E.2.2 (v3 + (2 : Int32)).toNatClampNeg)] dL_law_1229 ov_L_128 s_0 rfl ⟨rfl, rfl, rfl⟩ rfl rfl rfl (CallI_mono k (fun x8349 I8350 J8351 k => ?_))
      refine V_aload_n dL_law_1232 rfl ?_
      refine V_aloadS_n dL_law_1233 (Or.inr (Or.inr rfl)) rfl ?_
      refine V_iload_n dL_law_1234 rfl ?_
      refine V_iconst (v := (1 : Int32)) dL_law_1235 rfl ?_
      refine V_iadd dL_law_1236 ?_
      obtain ⟨hb8352, k⟩ := k
      refine V_sld dL_law_1237 hb8352 ?_
      refine V_aloadS_n dL_law_1238 (Or.inr (Or.inr rfl)) rfl ?_
      refine V_iload_n dL_law_1239 rfl ?_
      refine V_iconst (v := (2 : Int32)) dL_law_1240 rfl ?_
      refine V_iadd dL_law_1241 ?_
      obtain ⟨hb8353, k⟩ := k
      refine V_sld dL_law_1242 hb8353 ?_
      refine U_callV1 [.int (E.2.2 (v3 + (1 : Int32)).toNatClampNeg), .int (E.2.2 (v3 + (2 : Int32)).toNatClampNeg)] dL_law_1243 ov_L_131 s_68 rfl ⟨rfl, rfl, rfl⟩ rfl rfl rfl (CallI_mono k (fun x8354 I8355 J8356 k => ?_))
      refine V_icmp_eq dL_law_1246 (fun c8357 => ?_) (fun c8357 => ?_)
      · have k := k.1 c8357
        refine U_iinc (v := v3 + (8 : Int32)) (L2 := [.float 32, .ref 0, .ref 68, .int (v3 + (8 : Int32))]) dL_law_1700 (by decide) rfl rfl rfl ?_
        refine V_goto dL_law_1703 ?_
        exact k
      · have k := k.2 c8357
        refine V_iconst (v := (0 : Int32)) dL_law_1249 rfl ?_
        exact V_iret dL_law_1250 ⟨_, rfl, rfl⟩ rfl rfl ⟨_, _, _, rfl, rfl, k⟩
    by_cases c8372 : ((E.2.2 v3.toNatClampNeg) &&& (63 : Int32)) = (27 : Int32)
    · refine V_tabIn (off := 1218) (tgt := 1251) dL_law_33 (by rw [c8372]; decide) (by rw [c8372]; decide) (by rw [c8372]; rfl) rfl ?_
      have k := k.2.2.2.2.2.2.2.2.2.2.2.2.2.2.2.2.2.2.2.2.2.2.2.2.2.2.2.1 c8372
      refine V_aload_n dL_law_1251 rfl ?_
      refine V_aloadS_n dL_law_1252 (Or.inr (Or.inr rfl)) rfl ?_
      refine V_iload_n dL_law_1253 rfl ?_
      refine V_iconst (v := (1 : Int32)) dL_law_1254 rfl ?_
      refine V_iadd dL_law_1255 ?_
      obtain ⟨hb8359, k⟩ := k
      refine V_sld dL_law_1256 hb8359 ?_
      refine V_aloadS_n dL_law_1257 (Or.inr (Or.inr rfl)) rfl ?_
      refine V_iload_n dL_law_1258 rfl ?_
      refine V_iconst (v := (2 : Int32)) dL_law_1259 rfl ?_
      refine V_iadd dL_law_1260 ?_
      obtain ⟨hb8360, k⟩ := k
      refine V_sld dL_law_1261 hb8360 ?_
      refine V_aloadS_n dL_law_1262 (Or.inr (Or.inr rfl)) rfl ?_
      refine V_iload_n dL_law_1263 rfl ?_
      refine V_iconst (v := (3 : Int32)) dL_law_1264 rfl ?_
      refine V_iadd dL_law_1265 ?_
      obtain ⟨hb8361, k⟩ := k
      refine V_sld dL_law_1266 hb8361 ?_
      refine U_callV1 [.int (E.2.2 (v3 + (1 : Int32)).toNatClampNeg), .int (E.2.2 (v3 + (2 : Int32)).toNatClampNeg), .int (E.2.2 (v3 + (3 : Int32)).toNatClampNeg)] dL_law_1267 ov_L_132 s_0 rfl ⟨rfl, rfl, rfl⟩ rfl rfl rfl (CallI_mono k (fun x8362 I8363 J8364 k => ?_))
      refine V_aload_n dL_law_1270 rfl ?_
      refine V_aloadS_n dL_law_1271 (Or.inr (Or.inr rfl)) rfl ?_
      refine V_iload_n dL_law_1272 rfl ?_
      refine V_iconst (v := (1 : Int32)) dL_law_1273 rfl ?_
      refine V_iadd dL_law_1274 ?_
      obtain ⟨hb8365, k⟩ := k
      refine V_sld dL_law_1275 hb8365 ?_
      refine V_aloadS_n dL_law_1276 (Or.inr (Or.inr rfl)) rfl ?_
      refine V_iload_n dL_law_1277 rfl ?_
      refine V_iconst (v := (2 : Int32)) dL_law_1278 rfl ?_
      refine V_iadd dL_law_1279 ?_
      obtain ⟨hb8366, k⟩ := k
      refine V_sld dL_law_1280 hb8366 ?_
      refine V_aloadS_n dL_law_1281 (Or.inr (Or.inr rfl)) rfl ?_
      refine V_iload_n dL_law_1282 rfl ?_
      refine V_iconst (v := (3 : Int32)) dL_law_1283 rfl ?_
      refine V_iadd dL_law_1284 ?_
      obtain ⟨hb8367, k⟩ := k
      refine V_sld dL_law_1285 hb8367 ?_
      refine U_callV1 [.int (E.2.2 (v3 + (1 : Int32)).toNatClampNeg), .int (E.2.2 (v3 + (2 : Int32)).toNatClampNeg), .int (E.2.2 (v3 + (3 : Int32)).toNatClampNeg)] dL_law_1286 ov_L_135 s_68 rfl ⟨rfl, rfl, rfl⟩ rfl rfl rfl (CallI_mono k (fun x8368 I8369 J8370 k => ?_))
      refine V_icmp_eq dL_law_1289 (fun c8371 => ?_) (fun c8371 => ?_)
      · have k := k.1 c8371
        refine U_iinc (v := v3 + (8 : Int32)) (L2 := [.float 32, .ref 0, .ref 68, .int (v3 + (8 : Int32))]) dL_law_1700 (by decide) rfl rfl rfl ?_
        refine V_goto dL_law_1703 ?_
        exact k
      · have k := k.2 c8371
        refine V_iconst (v := (0 : Int32)) dL_law_1292 rfl ?_
        exact V_iret dL_law_1293 ⟨_, rfl, rfl⟩ rfl rfl ⟨_, _, _, rfl, rfl, k⟩
    by_cases c8386 : ((E.2.2 v3.toNatClampNeg) &&& (63 : Int32)) = (28 : Int32)
    · refine V_tabIn (off := 1261) (tgt := 1294) dL_law_33 (by rw [c8386]; decide) (by rw [c8386]; decide) (by rw [c8386]; rfl) rfl ?_
      have k := k.2.2.2.2.2.2.2.2.2.2.2.2.2.2.2.2.2.2.2.2.2.2.2.2.2.2.2.2.1 c8386
      refine V_aload_n dL_law_1294 rfl ?_
      refine V_aloadS_n dL_law_1295 (Or.inr (Or.inr rfl)) rfl ?_
      refine V_iload_n dL_law_1296 rfl ?_
      refine V_iconst (v := (1 : Int32)) dL_law_1297 rfl ?_
      refine V_iadd dL_law_1298 ?_
      obtain ⟨hb8373, k⟩ := k
      refine V_sld dL_law_1299 hb8373 ?_
      refine V_aloadS_n dL_law_1300 (Or.inr (Or.inr rfl)) rfl ?_
      refine V_iload_n dL_law_1301 rfl ?_
      refine V_iconst (v := (2 : Int32)) dL_law_1302 rfl ?_
      refine V_iadd dL_law_1303 ?_
      obtain ⟨hb8374, k⟩ := k
      refine V_sld dL_law_1304 hb8374 ?_
      refine V_aloadS_n dL_law_1305 (Or.inr (Or.inr rfl)) rfl ?_
      refine V_iload_n dL_law_1306 rfl ?_
      refine V_iconst (v := (3 : Int32)) dL_law_1307 rfl ?_
      refine V_iadd dL_law_1308 ?_
      obtain ⟨hb8375, k⟩ := k
      refine V_sld dL_law_1309 hb8375 ?_
      refine U_callV2 [.int (E.2.2 (v3 + (1 : Int32)).toNatClampNeg), .int (E.2.2 (v3 + (2 : Int32)).toNatClampNeg), .int (E.2.2 (v3 + (3 : Int32)).toNatClampNeg)] dL_law_1310 ov_L_136 s_0 rfl ⟨rfl, rfl, rfl⟩ rfl rfl rfl (CallJ_mono k (fun x8376 I8377 J8378 k => ?_))
      refine V_aload_n dL_law_1313 rfl ?_
      refine V_aloadS_n dL_law_1314 (Or.inr (Or.inr rfl)) rfl ?_
      refine V_iload_n dL_law_1315 rfl ?_
      refine V_iconst (v := (1 : Int32)) dL_law_1316 rfl ?_
      refine V_iadd dL_law_1317 ?_
      obtain ⟨hb8379, k⟩ := k
      refine V_sld dL_law_1318 hb8379 ?_
      refine V_aloadS_n dL_law_1319 (Or.inr (Or.inr rfl)) rfl ?_
      refine V_iload_n dL_law_1320 rfl ?_
      refine V_iconst (v := (2 : Int32)) dL_law_1321 rfl ?_
      refine V_iadd dL_law_1322 ?_
      obtain ⟨hb8380, k⟩ := k
      refine V_sld dL_law_1323 hb8380 ?_
      refine V_aloadS_n dL_law_1324 (Or.inr (Or.inr rfl)) rfl ?_
      refine V_iload_n dL_law_1325 rfl ?_
      refine V_iconst (v := (3 : Int32)) dL_law_1326 rfl ?_
      refine V_iadd dL_law_1327 ?_
      obtain ⟨hb8381, k⟩ := k
      refine V_sld dL_law_1328 hb8381 ?_
      refine U_callV2 [.int (E.2.2 (v3 + (1 : Int32)).toNatClampNeg), .int (E.2.2 (v3 + (2 : Int32)).toNatClampNeg), .int (E.2.2 (v3 + (3 : Int32)).toNatClampNeg)] dL_law_1329 ov_L_140 s_68 rfl ⟨rfl, rfl, rfl⟩ rfl rfl rfl (CallJ_mono k (fun x8382 I8383 J8384 k => ?_))
      refine U_lcmp_eq dL_law_1332 dL_law_1333 (fun c8385 => ?_) (fun c8385 => ?_)
      · have k := k.1 c8385
        refine U_iinc (v := v3 + (8 : Int32)) (L2 := [.float 32, .ref 0, .ref 68, .int (v3 + (8 : Int32))]) dL_law_1700 (by decide) rfl rfl rfl ?_
        refine V_goto dL_law_1703 ?_
        exact k
      · have k := k.2 c8385
        refine V_iconst (v := (0 : Int32)) dL_law_1336 rfl ?_
        exact V_iret dL_law_1337 ⟨_, rfl, rfl⟩ rfl rfl ⟨_, _, _, rfl, rfl, k⟩
    by_cases c8400 : ((E.2.2 v3.toNatClampNeg) &&& (63 : Int32)) = (29 : Int32)
    · refine V_tabIn (off := 1305) (tgt := 1338) dL_law_33 (by rw [c8400]; decide) (by rw [c8400]; decide) (by rw [c8400]; rfl) rfl ?_
      have k := k.2.2.2.2.2.2.2.2.2.2.2.2.2.2.2.2.2.2.2.2.2.2.2.2.2.2.2.2.2.1 c8400
      refine V_aload_n dL_law_1338 rfl ?_
      refine V_aloadS_n dL_law_1339 (Or.inr (Or.inr rfl)) rfl ?_
      refine V_iload_n dL_law_1340 rfl ?_
      refine V_iconst (v := (1 : Int32)) dL_law_1341 rfl ?_
      refine V_iadd dL_law_1342 ?_
      obtain ⟨hb8387, k⟩ := k
      refine V_sld dL_law_1343 hb8387 ?_
      refine V_aloadS_n dL_law_1344 (Or.inr (Or.inr rfl)) rfl ?_
      refine V_iload_n dL_law_1345 rfl ?_
      refine V_iconst (v := (2 : Int32)) dL_law_1346 rfl ?_
      refine V_iadd dL_law_1347 ?_
      obtain ⟨hb8388, k⟩ := k
      refine V_sld dL_law_1348 hb8388 ?_
      refine V_aloadS_n dL_law_1349 (Or.inr (Or.inr rfl)) rfl ?_
      refine V_iload_n dL_law_1350 rfl ?_
      refine V_iconst (v := (3 : Int32)) dL_law_1351 rfl ?_
      refine V_iadd dL_law_1352 ?_
      obtain ⟨hb8389, k⟩ := k
      refine V_sld dL_law_1353 hb8389 ?_
      refine U_callV2 [.int (E.2.2 (v3 + (1 : Int32)).toNatClampNeg), .int (E.2.2 (v3 + (2 : Int32)).toNatClampNeg), .int (E.2.2 (v3 + (3 : Int32)).toNatClampNeg)] dL_law_1354 ov_L_141 s_0 rfl ⟨rfl, rfl, rfl⟩ rfl rfl rfl (CallJ_mono k (fun x8390 I8391 J8392 k => ?_))
      refine V_aload_n dL_law_1357 rfl ?_
      refine V_aloadS_n dL_law_1358 (Or.inr (Or.inr rfl)) rfl ?_
      refine V_iload_n dL_law_1359 rfl ?_
      refine V_iconst (v := (1 : Int32)) dL_law_1360 rfl ?_
      refine V_iadd dL_law_1361 ?_
      obtain ⟨hb8393, k⟩ := k
      refine V_sld dL_law_1362 hb8393 ?_
      refine V_aloadS_n dL_law_1363 (Or.inr (Or.inr rfl)) rfl ?_
      refine V_iload_n dL_law_1364 rfl ?_
      refine V_iconst (v := (2 : Int32)) dL_law_1365 rfl ?_
      refine V_iadd dL_law_1366 ?_
      obtain ⟨hb8394, k⟩ := k
      refine V_sld dL_law_1367 hb8394 ?_
      refine V_aloadS_n dL_law_1368 (Or.inr (Or.inr rfl)) rfl ?_
      refine V_iload_n dL_law_1369 rfl ?_
      refine V_iconst (v := (3 : Int32)) dL_law_1370 rfl ?_
      refine V_iadd dL_law_1371 ?_
      obtain ⟨hb8395, k⟩ := k
      refine V_sld dL_law_1372 hb8395 ?_
      refine U_callV2 [.int (E.2.2 (v3 + (1 : Int32)).toNatClampNeg), .int (E.2.2 (v3 + (2 : Int32)).toNatClampNeg), .int (E.2.2 (v3 + (3 : Int32)).toNatClampNeg)] dL_law_1373 ov_L_144 s_68 rfl ⟨rfl, rfl, rfl⟩ rfl rfl rfl (CallJ_mono k (fun x8396 I8397 J8398 k => ?_))
      refine U_lcmp_eq dL_law_1376 dL_law_1377 (fun c8399 => ?_) (fun c8399 => ?_)
      · have k := k.1 c8399
        refine U_iinc (v := v3 + (8 : Int32)) (L2 := [.float 32, .ref 0, .ref 68, .int (v3 + (8 : Int32))]) dL_law_1700 (by decide) rfl rfl rfl ?_
        refine V_goto dL_law_1703 ?_
        exact k
      · have k := k.2 c8399
        refine V_iconst (v := (0 : Int32)) dL_law_1380 rfl ?_
        exact V_iret dL_law_1381 ⟨_, rfl, rfl⟩ rfl rfl ⟨_, _, _, rfl, rfl, k⟩
    by_cases c8414 : ((E.2.2 v3.toNatClampNeg) &&& (63 : Int32)) = (30 : Int32)
    · refine V_tabIn (off := 1349) (tgt := 1382) dL_law_33 (by rw [c8414]; decide) (by rw [c8414]; decide) (by rw [c8414]; rfl) rfl ?_
      have k := k.2.2.2.2.2.2.2.2.2.2.2.2.2.2.2.2.2.2.2.2.2.2.2.2.2.2.2.2.2.2.1 c8414
      refine V_aload_n dL_law_1382 rfl ?_
      refine V_aloadS_n dL_law_1383 (Or.inr (Or.inr rfl)) rfl ?_
      refine V_iload_n dL_law_1384 rfl ?_
      refine V_iconst (v := (1 : Int32)) dL_law_1385 rfl ?_
      refine V_iadd dL_law_1386 ?_
      obtain ⟨hb8401, k⟩ := k
      refine V_sld dL_law_1387 hb8401 ?_
      refine V_aloadS_n dL_law_1388 (Or.inr (Or.inr rfl)) rfl ?_
      refine V_iload_n dL_law_1389 rfl ?_
      refine V_iconst (v := (2 : Int32)) dL_law_1390 rfl ?_
      refine V_iadd dL_law_1391 ?_
      obtain ⟨hb8402, k⟩ := k
      refine V_sld dL_law_1392 hb8402 ?_
      refine V_aloadS_n dL_law_1393 (Or.inr (Or.inr rfl)) rfl ?_
      refine V_iload_n dL_law_1394 rfl ?_
      refine V_iconst (v := (3 : Int32)) dL_law_1395 rfl ?_
      refine V_iadd dL_law_1396 ?_
      obtain ⟨hb8403, k⟩ := k
      refine V_sld dL_law_1397 hb8403 ?_
      refine U_callV1 [.int (E.2.2 (v3 + (1 : Int32)).toNatClampNeg), .int (E.2.2 (v3 + (2 : Int32)).toNatClampNeg), .int (E.2.2 (v3 + (3 : Int32)).toNatClampNeg)] dL_law_1398 ov_L_145 s_0 rfl ⟨rfl, rfl, rfl⟩ rfl rfl rfl (CallI_mono k (fun x8404 I8405 J8406 k => ?_))
      refine V_aload_n dL_law_1401 rfl ?_
      refine V_aloadS_n dL_law_1402 (Or.inr (Or.inr rfl)) rfl ?_
      refine V_iload_n dL_law_1403 rfl ?_
      refine V_iconst (v := (1 : Int32)) dL_law_1404 rfl ?_
      refine V_iadd dL_law_1405 ?_
      obtain ⟨hb8407, k⟩ := k
      refine V_sld dL_law_1406 hb8407 ?_
      refine V_aloadS_n dL_law_1407 (Or.inr (Or.inr rfl)) rfl ?_
      refine V_iload_n dL_law_1408 rfl ?_
      refine V_iconst (v := (2 : Int32)) dL_law_1409 rfl ?_
      refine V_iadd dL_law_1410 ?_
      obtain ⟨hb8408, k⟩ := k
      refine V_sld dL_law_1411 hb8408 ?_
      refine V_aloadS_n dL_law_1412 (Or.inr (Or.inr rfl)) rfl ?_
      refine V_iload_n dL_law_1413 rfl ?_
      refine V_iconst (v := (3 : Int32)) dL_law_1414 rfl ?_
      refine V_iadd dL_law_1415 ?_
      obtain ⟨hb8409, k⟩ := k
      refine V_sld dL_law_1416 hb8409 ?_
      refine U_callV1 [.int (E.2.2 (v3 + (1 : Int32)).toNatClampNeg), .int (E.2.2 (v3 + (2 : Int32)).toNatClampNeg), .int (E.2.2 (v3 + (3 : Int32)).toNatClampNeg)] dL_law_1417 ov_L_148 s_68 rfl ⟨rfl, rfl, rfl⟩ rfl rfl rfl (CallI_mono k (fun x8410 I8411 J8412 k => ?_))
      refine V_icmp_eq dL_law_1420 (fun c8413 => ?_) (fun c8413 => ?_)
      · have k := k.1 c8413
        refine U_iinc (v := v3 + (8 : Int32)) (L2 := [.float 32, .ref 0, .ref 68, .int (v3 + (8 : Int32))]) dL_law_1700 (by decide) rfl rfl rfl ?_
        refine V_goto dL_law_1703 ?_
        exact k
      · have k := k.2 c8413
        refine V_iconst (v := (0 : Int32)) dL_law_1423 rfl ?_
        exact V_iret dL_law_1424 ⟨_, rfl, rfl⟩ rfl rfl ⟨_, _, _, rfl, rfl, k⟩
    by_cases c8430 : ((E.2.2 v3.toNatClampNeg) &&& (63 : Int32)) = (31 : Int32)
    · refine V_tabIn (off := 1392) (tgt := 1425) dL_law_33 (by rw [c8430]; decide) (by rw [c8430]; decide) (by rw [c8430]; rfl) rfl ?_
      have k := k.2.2.2.2.2.2.2.2.2.2.2.2.2.2.2.2.2.2.2.2.2.2.2.2.2.2.2.2.2.2.2.1 c8430
      refine V_aload_n dL_law_1425 rfl ?_
      refine V_aloadS_n dL_law_1426 (Or.inr (Or.inr rfl)) rfl ?_
      refine V_iload_n dL_law_1427 rfl ?_
      refine V_iconst (v := (1 : Int32)) dL_law_1428 rfl ?_
      refine V_iadd dL_law_1429 ?_
      obtain ⟨hb8415, k⟩ := k
      refine V_sld dL_law_1430 hb8415 ?_
      refine V_aloadS_n dL_law_1431 (Or.inr (Or.inr rfl)) rfl ?_
      refine V_iload_n dL_law_1432 rfl ?_
      refine V_iconst (v := (2 : Int32)) dL_law_1433 rfl ?_
      refine V_iadd dL_law_1434 ?_
      obtain ⟨hb8416, k⟩ := k
      refine V_sld dL_law_1435 hb8416 ?_
      refine V_aloadS_n dL_law_1436 (Or.inr (Or.inr rfl)) rfl ?_
      refine V_iload_n dL_law_1437 rfl ?_
      refine V_iconst (v := (3 : Int32)) dL_law_1438 rfl ?_
      refine V_iadd dL_law_1439 ?_
      obtain ⟨hb8417, k⟩ := k
      refine V_sld dL_law_1440 hb8417 ?_
      refine V_aloadS_n dL_law_1441 (Or.inr (Or.inr rfl)) rfl ?_
      refine V_iload_n dL_law_1442 rfl ?_
      refine V_iconst (v := (4 : Int32)) dL_law_1443 rfl ?_
      refine V_iadd dL_law_1444 ?_
      obtain ⟨hb8418, k⟩ := k
      refine V_sld dL_law_1445 hb8418 ?_
      refine U_callV2 [.int (E.2.2 (v3 + (1 : Int32)).toNatClampNeg), .int (E.2.2 (v3 + (2 : Int32)).toNatClampNeg), .int (E.2.2 (v3 + (3 : Int32)).toNatClampNeg), .int (E.2.2 (v3 + (4 : Int32)).toNatClampNeg)] dL_law_1446 ov_L_149 s_0 rfl ⟨rfl, rfl, rfl⟩ rfl rfl rfl (CallJ_mono k (fun x8419 I8420 J8421 k => ?_))
      refine V_aload_n dL_law_1449 rfl ?_
      refine V_aloadS_n dL_law_1450 (Or.inr (Or.inr rfl)) rfl ?_
      refine V_iload_n dL_law_1451 rfl ?_
      refine V_iconst (v := (1 : Int32)) dL_law_1452 rfl ?_
      refine V_iadd dL_law_1453 ?_
      obtain ⟨hb8422, k⟩ := k
      refine V_sld dL_law_1454 hb8422 ?_
      refine V_aloadS_n dL_law_1455 (Or.inr (Or.inr rfl)) rfl ?_
      refine V_iload_n dL_law_1456 rfl ?_
      refine V_iconst (v := (2 : Int32)) dL_law_1457 rfl ?_
      refine V_iadd dL_law_1458 ?_
      obtain ⟨hb8423, k⟩ := k
      refine V_sld dL_law_1459 hb8423 ?_
      refine V_aloadS_n dL_law_1460 (Or.inr (Or.inr rfl)) rfl ?_
      refine V_iload_n dL_law_1461 rfl ?_
      refine V_iconst (v := (3 : Int32)) dL_law_1462 rfl ?_
      refine V_iadd dL_law_1463 ?_
      obtain ⟨hb8424, k⟩ := k
      refine V_sld dL_law_1464 hb8424 ?_
      refine V_aloadS_n dL_law_1465 (Or.inr (Or.inr rfl)) rfl ?_
      refine V_iload_n dL_law_1466 rfl ?_
      refine V_iconst (v := (4 : Int32)) dL_law_1467 rfl ?_
      refine V_iadd dL_law_1468 ?_
      obtain ⟨hb8425, k⟩ := k
      refine V_sld dL_law_1469 hb8425 ?_
      refine U_callV2 [.int (E.2.2 (v3 + (1 : Int32)).toNatClampNeg), .int (E.2.2 (v3 + (2 : Int32)).toNatClampNeg), .int (E.2.2 (v3 + (3 : Int32)).toNatClampNeg), .int (E.2.2 (v3 + (4 : Int32)).toNatClampNeg)] dL_law_1470 ov_L_153 s_68 rfl ⟨rfl, rfl, rfl⟩ rfl rfl rfl (CallJ_mono k (fun x8426 I8427 J8428 k => ?_))
      refine U_lcmp_eq dL_law_1473 dL_law_1474 (fun c8429 => ?_) (fun c8429 => ?_)
      · have k := k.1 c8429
        refine U_iinc (v := v3 + (8 : Int32)) (L2 := [.float 32, .ref 0, .ref 68, .int (v3 + (8 : Int32))]) dL_law_1700 (by decide) rfl rfl rfl ?_
        refine V_goto dL_law_1703 ?_
        exact k
      · have k := k.2 c8429
        refine V_iconst (v := (0 : Int32)) dL_law_1477 rfl ?_
        exact V_iret dL_law_1478 ⟨_, rfl, rfl⟩ rfl rfl ⟨_, _, _, rfl, rfl, k⟩
    by_cases c8440 : ((E.2.2 v3.toNatClampNeg) &&& (63 : Int32)) = (32 : Int32)
    · refine V_tabIn (off := 1446) (tgt := 1479) dL_law_33 (by rw [c8440]; decide) (by rw [c8440]; decide) (by rw [c8440]; rfl) rfl ?_
      have k := k.2.2.2.2.2.2.2.2.2.2.2.2.2.2.2.2.2.2.2.2.2.2.2.2.2.2.2.2.2.2.2.2.1 c8440
      refine V_aload_n dL_law_1479 rfl ?_
      refine V_aloadS_n dL_law_1480 (Or.inr (Or.inr rfl)) rfl ?_
      refine V_iload_n dL_law_1481 rfl ?_
      refine V_iconst (v := (1 : Int32)) dL_law_1482 rfl ?_
      refine V_iadd dL_law_1483 ?_
      obtain ⟨hb8431, k⟩ := k
      refine V_sld dL_law_1484 hb8431 ?_
      refine U_callV1 [.int (E.2.2 (v3 + (1 : Int32)).toNatClampNeg)] dL_law_1485 ov_L_154 s_0 rfl ⟨rfl, rfl, rfl⟩ rfl rfl rfl (CallI_mono k (fun x8432 I8433 J8434 k => ?_))
      refine V_aload_n dL_law_1488 rfl ?_
      refine V_aloadS_n dL_law_1489 (Or.inr (Or.inr rfl)) rfl ?_
      refine V_iload_n dL_law_1490 rfl ?_
      refine V_iconst (v := (1 : Int32)) dL_law_1491 rfl ?_
      refine V_iadd dL_law_1492 ?_
      obtain ⟨hb8435, k⟩ := k
      refine V_sld dL_law_1493 hb8435 ?_
      refine U_callV1 [.int (E.2.2 (v3 + (1 : Int32)).toNatClampNeg)] dL_law_1494 ov_L_157 s_68 rfl ⟨rfl, rfl, rfl⟩ rfl rfl rfl (CallI_mono k (fun x8436 I8437 J8438 k => ?_))
      refine V_icmp_eq dL_law_1497 (fun c8439 => ?_) (fun c8439 => ?_)
      · have k := k.1 c8439
        refine U_iinc (v := v3 + (8 : Int32)) (L2 := [.float 32, .ref 0, .ref 68, .int (v3 + (8 : Int32))]) dL_law_1700 (by decide) rfl rfl rfl ?_
        refine V_goto dL_law_1703 ?_
        exact k
      · have k := k.2 c8439
        refine V_iconst (v := (0 : Int32)) dL_law_1500 rfl ?_
        exact V_iret dL_law_1501 ⟨_, rfl, rfl⟩ rfl rfl ⟨_, _, _, rfl, rfl, k⟩
    by_cases c8450 : ((E.2.2 v3.toNatClampNeg) &&& (63 : Int32)) = (33 : Int32)
    · refine V_tabIn (off := 1469) (tgt := 1502) dL_law_33 (by rw [c8450]; decide) (by rw [c8450]; decide) (by rw [c8450]; rfl) rfl ?_
      have k := k.2.2.2.2.2.2.2.2.2.2.2.2.2.2.2.2.2.2.2.2.2.2.2.2.2.2.2.2.2.2.2.2.2.1 c8450
      refine V_aload_n dL_law_1502 rfl ?_
      refine V_aloadS_n dL_law_1503 (Or.inr (Or.inr rfl)) rfl ?_
      refine V_iload_n dL_law_1504 rfl ?_
      refine V_iconst (v := (1 : Int32)) dL_law_1505 rfl ?_
      refine V_iadd dL_law_1506 ?_
      obtain ⟨hb8441, k⟩ := k
      refine V_sld dL_law_1507 hb8441 ?_
      refine U_callV1 [.int (E.2.2 (v3 + (1 : Int32)).toNatClampNeg)] dL_law_1508 ov_L_158 s_0 rfl ⟨rfl, rfl, rfl⟩ rfl rfl rfl (CallI_mono k (fun x8442 I8443 J8444 k => ?_))
      refine V_aload_n dL_law_1511 rfl ?_
      refine V_aloadS_n dL_law_1512 (Or.inr (Or.inr rfl)) rfl ?_
      refine V_iload_n dL_law_1513 rfl ?_
      refine V_iconst (v := (1 : Int32)) dL_law_1514 rfl ?_
      refine V_iadd dL_law_1515 ?_
      obtain ⟨hb8445, k⟩ := k
      refine V_sld dL_law_1516 hb8445 ?_
      refine U_callV1 [.int (E.2.2 (v3 + (1 : Int32)).toNatClampNeg)] dL_law_1517 ov_L_161 s_68 rfl ⟨rfl, rfl, rfl⟩ rfl rfl rfl (CallI_mono k (fun x8446 I8447 J8448 k => ?_))
      refine V_icmp_eq dL_law_1520 (fun c8449 => ?_) (fun c8449 => ?_)
      · have k := k.1 c8449
        refine U_iinc (v := v3 + (8 : Int32)) (L2 := [.float 32, .ref 0, .ref 68, .int (v3 + (8 : Int32))]) dL_law_1700 (by decide) rfl rfl rfl ?_
        refine V_goto dL_law_1703 ?_
        exact k
      · have k := k.2 c8449
        refine V_iconst (v := (0 : Int32)) dL_law_1523 rfl ?_
        exact V_iret dL_law_1524 ⟨_, rfl, rfl⟩ rfl rfl ⟨_, _, _, rfl, rfl, k⟩
    by_cases c8464 : ((E.2.2 v3.toNatClampNeg) &&& (63 : Int32)) = (34 : Int32)
    · refine V_tabIn (off := 1492) (tgt := 1525) dL_law_33 (by rw [c8464]; decide) (by rw [c8464]; decide) (by rw [c8464]; rfl) rfl ?_
      have k := k.2.2.2.2.2.2.2.2.2.2.2.2.2.2.2.2.2.2.2.2.2.2.2.2.2.2.2.2.2.2.2.2.2.2.1 c8464
      refine V_aload_n dL_law_1525 rfl ?_
      refine V_aloadS_n dL_law_1526 (Or.inr (Or.inr rfl)) rfl ?_
      refine V_iload_n dL_law_1527 rfl ?_
      refine V_iconst (v := (1 : Int32)) dL_law_1528 rfl ?_
      refine V_iadd dL_law_1529 ?_
      obtain ⟨hb8451, k⟩ := k
      refine V_sld dL_law_1530 hb8451 ?_
      refine V_aloadS_n dL_law_1531 (Or.inr (Or.inr rfl)) rfl ?_
      refine V_iload_n dL_law_1532 rfl ?_
      refine V_iconst (v := (2 : Int32)) dL_law_1533 rfl ?_
      refine V_iadd dL_law_1534 ?_
      obtain ⟨hb8452, k⟩ := k
      refine V_sld dL_law_1535 hb8452 ?_
      refine V_aloadS_n dL_law_1536 (Or.inr (Or.inr rfl)) rfl ?_
      refine V_iload_n dL_law_1537 rfl ?_
      refine V_iconst (v := (3 : Int32)) dL_law_1538 rfl ?_
      refine V_iadd dL_law_1539 ?_
      obtain ⟨hb8453, k⟩ := k
      refine V_sld dL_law_1540 hb8453 ?_
      refine U_callV1 [.int (E.2.2 (v3 + (1 : Int32)).toNatClampNeg), .int (E.2.2 (v3 + (2 : Int32)).toNatClampNeg), .int (E.2.2 (v3 + (3 : Int32)).toNatClampNeg)] dL_law_1541 ov_L_162 s_0 rfl ⟨rfl, rfl, rfl⟩ rfl rfl rfl (CallI_mono k (fun x8454 I8455 J8456 k => ?_))
      refine V_aload_n dL_law_1544 rfl ?_
      refine V_aloadS_n dL_law_1545 (Or.inr (Or.inr rfl)) rfl ?_
      refine V_iload_n dL_law_1546 rfl ?_
      refine V_iconst (v := (1 : Int32)) dL_law_1547 rfl ?_
      refine V_iadd dL_law_1548 ?_
      obtain ⟨hb8457, k⟩ := k
      refine V_sld dL_law_1549 hb8457 ?_
      refine V_aloadS_n dL_law_1550 (Or.inr (Or.inr rfl)) rfl ?_
      refine V_iload_n dL_law_1551 rfl ?_
      refine V_iconst (v := (2 : Int32)) dL_law_1552 rfl ?_
      refine V_iadd dL_law_1553 ?_
      obtain ⟨hb8458, k⟩ := k
      refine V_sld dL_law_1554 hb8458 ?_
      refine V_aloadS_n dL_law_1555 (Or.inr (Or.inr rfl)) rfl ?_
      refine V_iload_n dL_law_1556 rfl ?_
      refine V_iconst (v := (3 : Int32)) dL_law_1557 rfl ?_
      refine V_iadd dL_law_1558 ?_
      obtain ⟨hb8459, k⟩ := k
      refine V_sld dL_law_1559 hb8459 ?_
      refine U_callV1 [.int (E.2.2 (v3 + (1 : Int32)).toNatClampNeg), .int (E.2.2 (v3 + (2 : Int32)).toNatClampNeg), .int (E.2.2 (v3 + (3 : Int32)).toNatClampNeg)] dL_law_1560 ov_L_165 s_68 rfl ⟨rfl, rfl, rfl⟩ rfl rfl rfl (CallI_mono k (fun x8460 I8461 J8462 k => ?_))
      refine V_icmp_eq dL_law_1563 (fun c8463 => ?_) (fun c8463 => ?_)
      · have k := k.1 c8463
        refine U_iinc (v := v3 + (8 : Int32)) (L2 := [.float 32, .ref 0, .ref 68, .int (v3 + (8 : Int32))]) dL_law_1700 (by decide) rfl rfl rfl ?_
        refine V_goto dL_law_1703 ?_
        exact k
      · have k := k.2 c8463
        refine V_iconst (v := (0 : Int32)) dL_law_1566 rfl ?_
        exact V_iret dL_law_1567 ⟨_, rfl, rfl⟩ rfl rfl ⟨_, _, _, rfl, rfl, k⟩
    by_cases c8478 : ((E.2.2 v3.toNatClampNeg) &&& (63 : Int32)) = (35 : Int32)
    · refine V_tabIn (off := 1535) (tgt := 1568) dL_law_33 (by rw [c8478]; decide) (by rw [c8478]; decide) (by rw [c8478]; rfl) rfl ?_
      have k := k.2.2.2.2.2.2.2.2.2.2.2.2.2.2.2.2.2.2.2.2.2.2.2.2.2.2.2.2.2.2.2.2.2.2.2.1 c8478
      refine V_aload_n dL_law_1568 rfl ?_
      refine V_aloadS_n dL_law_1569 (Or.inr (Or.inr rfl)) rfl ?_
      refine V_iload_n dL_law_1570 rfl ?_
      refine V_iconst (v := (1 : Int32)) dL_law_1571 rfl ?_
      refine V_iadd dL_law_1572 ?_
      obtain ⟨hb8465, k⟩ := k
      refine V_sld dL_law_1573 hb8465 ?_
      refine V_aloadS_n dL_law_1574 (Or.inr (Or.inr rfl)) rfl ?_
      refine V_iload_n dL_law_1575 rfl ?_
      refine V_iconst (v := (2 : Int32)) dL_law_1576 rfl ?_
      refine V_iadd dL_law_1577 ?_
      obtain ⟨hb8466, k⟩ := k
      refine V_sld dL_law_1578 hb8466 ?_
      refine V_aloadS_n dL_law_1579 (Or.inr (Or.inr rfl)) rfl ?_
      refine V_iload_n dL_law_1580 rfl ?_
      refine V_iconst (v := (3 : Int32)) dL_law_1581 rfl ?_
      refine V_iadd dL_law_1582 ?_
      obtain ⟨hb8467, k⟩ := k
      refine V_sld dL_law_1583 hb8467 ?_
      refine U_callV1 [.int (E.2.2 (v3 + (1 : Int32)).toNatClampNeg), .int (E.2.2 (v3 + (2 : Int32)).toNatClampNeg), .int (E.2.2 (v3 + (3 : Int32)).toNatClampNeg)] dL_law_1584 ov_L_166 s_0 rfl ⟨rfl, rfl, rfl⟩ rfl rfl rfl (CallI_mono k (fun x8468 I8469 J8470 k => ?_))
      refine V_aload_n dL_law_1587 rfl ?_
      refine V_aloadS_n dL_law_1588 (Or.inr (Or.inr rfl)) rfl ?_
      refine V_iload_n dL_law_1589 rfl ?_
      refine V_iconst (v := (1 : Int32)) dL_law_1590 rfl ?_
      refine V_iadd dL_law_1591 ?_
      obtain ⟨hb8471, k⟩ := k
      refine V_sld dL_law_1592 hb8471 ?_
      refine V_aloadS_n dL_law_1593 (Or.inr (Or.inr rfl)) rfl ?_
      refine V_iload_n dL_law_1594 rfl ?_
      refine V_iconst (v := (2 : Int32)) dL_law_1595 rfl ?_
      refine V_iadd dL_law_1596 ?_
      obtain ⟨hb8472, k⟩ := k
      refine V_sld dL_law_1597 hb8472 ?_
      refine V_aloadS_n dL_law_1598 (Or.inr (Or.inr rfl)) rfl ?_
      refine V_iload_n dL_law_1599 rfl ?_
      refine V_iconst (v := (3 : Int32)) dL_law_1600 rfl ?_
      refine V_iadd dL_law_1601 ?_
      obtain ⟨hb8473, k⟩ := k
      refine V_sld dL_law_1602 hb8473 ?_
      refine U_callV1 [.int (E.2.2 (v3 + (1 : Int32)).toNatClampNeg), .int (E.2.2 (v3 + (2 : Int32)).toNatClampNeg), .int (E.2.2 (v3 + (3 : Int32)).toNatClampNeg)] dL_law_1603 ov_L_169 s_68 rfl ⟨rfl, rfl, rfl⟩ rfl rfl rfl (CallI_mono k (fun x8474 I8475 J8476 k => ?_))
      refine V_icmp_eq dL_law_1606 (fun c8477 => ?_) (fun c8477 => ?_)
      · have k := k.1 c8477
        refine U_iinc (v := v3 + (8 : Int32)) (L2 := [.float 32, .ref 0, .ref 68, .int (v3 + (8 : Int32))]) dL_law_1700 (by decide) rfl rfl rfl ?_
        refine V_goto dL_law_1703 ?_
        exact k
      · have k := k.2 c8477
        refine V_iconst (v := (0 : Int32)) dL_law_1609 rfl ?_
        exact V_iret dL_law_1610 ⟨_, rfl, rfl⟩ rfl rfl ⟨_, _, _, rfl, rfl, k⟩
    by_cases c8494 : ((E.2.2 v3.toNatClampNeg) &&& (63 : Int32)) = (36 : Int32)
    · refine V_tabIn (off := 1578) (tgt := 1611) dL_law_33 (by rw [c8494]; decide) (by rw [c8494]; decide) (by rw [c8494]; rfl) rfl ?_
      have k := k.2.2.2.2.2.2.2.2.2.2.2.2.2.2.2.2.2.2.2.2.2.2.2.2.2.2.2.2.2.2.2.2.2.2.2.2.1 c8494
      refine V_aload_n dL_law_1611 rfl ?_
      refine V_aloadS_n dL_law_1612 (Or.inr (Or.inr rfl)) rfl ?_
      refine V_iload_n dL_law_1613 rfl ?_
      refine V_iconst (v := (1 : Int32)) dL_law_1614 rfl ?_
      refine V_iadd dL_law_1615 ?_
      obtain ⟨hb8479, k⟩ := k
      refine V_sld dL_law_1616 hb8479 ?_
      refine V_aloadS_n dL_law_1617 (Or.inr (Or.inr rfl)) rfl ?_
      refine V_iload_n dL_law_1618 rfl ?_
      refine V_iconst (v := (2 : Int32)) dL_law_1619 rfl ?_
      refine V_iadd dL_law_1620 ?_
      obtain ⟨hb8480, k⟩ := k
      refine V_sld dL_law_1621 hb8480 ?_
      refine V_aloadS_n dL_law_1622 (Or.inr (Or.inr rfl)) rfl ?_
      refine V_iload_n dL_law_1623 rfl ?_
      refine V_iconst (v := (3 : Int32)) dL_law_1624 rfl ?_
      refine V_iadd dL_law_1625 ?_
      obtain ⟨hb8481, k⟩ := k
      refine V_sld dL_law_1626 hb8481 ?_
      refine V_aloadS_n dL_law_1627 (Or.inr (Or.inr rfl)) rfl ?_
      refine V_iload_n dL_law_1628 rfl ?_
      refine V_iconst (v := (4 : Int32)) dL_law_1629 rfl ?_
      refine V_iadd dL_law_1630 ?_
      obtain ⟨hb8482, k⟩ := k
      refine V_sld dL_law_1631 hb8482 ?_
      refine U_callV1 [.int (E.2.2 (v3 + (1 : Int32)).toNatClampNeg), .int (E.2.2 (v3 + (2 : Int32)).toNatClampNeg), .int (E.2.2 (v3 + (3 : Int32)).toNatClampNeg), .int (E.2.2 (v3 + (4 : Int32)).toNatClampNeg)] dL_law_1632 ov_L_170 s_0 rfl ⟨rfl, rfl, rfl⟩ rfl rfl rfl (CallI_mono k (fun x8483 I8484 J8485 k => ?_))
      refine V_aload_n dL_law_1635 rfl ?_
      refine V_aloadS_n dL_law_1636 (Or.inr (Or.inr rfl)) rfl ?_
      refine V_iload_n dL_law_1637 rfl ?_
      refine V_iconst (v := (1 : Int32)) dL_law_1638 rfl ?_
      refine V_iadd dL_law_1639 ?_
      obtain ⟨hb8486, k⟩ := k
      refine V_sld dL_law_1640 hb8486 ?_
      refine V_aloadS_n dL_law_1641 (Or.inr (Or.inr rfl)) rfl ?_
      refine V_iload_n dL_law_1642 rfl ?_
      refine V_iconst (v := (2 : Int32)) dL_law_1643 rfl ?_
      refine V_iadd dL_law_1644 ?_
      obtain ⟨hb8487, k⟩ := k
      refine V_sld dL_law_1645 hb8487 ?_
      refine V_aloadS_n dL_law_1646 (Or.inr (Or.inr rfl)) rfl ?_
      refine V_iload_n dL_law_1647 rfl ?_
      refine V_iconst (v := (3 : Int32)) dL_law_1648 rfl ?_
      refine V_iadd dL_law_1649 ?_
      obtain ⟨hb8488, k⟩ := k
      refine V_sld dL_law_1650 hb8488 ?_
      refine V_aloadS_n dL_law_1651 (Or.inr (Or.inr rfl)) rfl ?_
      refine V_iload_n dL_law_1652 rfl ?_
      refine V_iconst (v := (4 : Int32)) dL_law_1653 rfl ?_
      refine V_iadd dL_law_1654 ?_
      obtain ⟨hb8489, k⟩ := k
      refine V_sld dL_law_1655 hb8489 ?_
      refine U_callV1 [.int (E.2.2 (v3 + (1 : Int32)).toNatClampNeg), .int (E.2.2 (v3 + (2 : Int32)).toNatClampNeg), .int (E.2.2 (v3 + (3 : Int32)).toNatClampNeg), .int (E.2.2 (v3 + (4 : Int32)).toNatClampNeg)] dL_law_1656 ov_L_173 s_68 rfl ⟨rfl, rfl, rfl⟩ rfl rfl rfl (CallI_mono k (fun x8490 I8491 J8492 k => ?_))
      refine V_icmp_eq dL_law_1659 (fun c8493 => ?_) (fun c8493 => ?_)
      · have k := k.1 c8493
        refine U_iinc (v := v3 + (8 : Int32)) (L2 := [.float 32, .ref 0, .ref 68, .int (v3 + (8 : Int32))]) dL_law_1700 (by decide) rfl rfl rfl ?_
        refine V_goto dL_law_1703 ?_
        exact k
      · have k := k.2 c8493
        refine V_iconst (v := (0 : Int32)) dL_law_1662 rfl ?_
        exact V_iret dL_law_1663 ⟨_, rfl, rfl⟩ rfl rfl ⟨_, _, _, rfl, rfl, k⟩
    by_cases c8502 : ((E.2.2 v3.toNatClampNeg) &&& (63 : Int32)) = (37 : Int32)
    · refine V_tabIn (off := 1631) (tgt := 1664) dL_law_33 (by rw [c8502]; decide) (by rw [c8502]; decide) (by rw [c8502]; rfl) rfl ?_
      have k := k.2.2.2.2.2.2.2.2.2.2.2.2.2.2.2.2.2.2.2.2.2.2.2.2.2.2.2.2.2.2.2.2.2.2.2.2.2.1 c8502
      refine V_aload_n dL_law_1664 rfl ?_
      refine U_callV1 [] dL_law_1665 ov_L_174 s_0 rfl ⟨rfl, rfl, rfl⟩ rfl rfl rfl (CallI_mono k (fun x8495 I8496 J8497 k => ?_))
      refine V_aload_n dL_law_1668 rfl ?_
      refine U_callV1 [] dL_law_1669 ov_L_177 s_68 rfl ⟨rfl, rfl, rfl⟩ rfl rfl rfl (CallI_mono k (fun x8498 I8499 J8500 k => ?_))
      refine V_icmp_eq dL_law_1672 (fun c8501 => ?_) (fun c8501 => ?_)
      · have k := k.1 c8501
        refine U_iinc (v := v3 + (8 : Int32)) (L2 := [.float 32, .ref 0, .ref 68, .int (v3 + (8 : Int32))]) dL_law_1700 (by decide) rfl rfl rfl ?_
        refine V_goto dL_law_1703 ?_
        exact k
      · have k := k.2 c8501
        refine V_iconst (v := (0 : Int32)) dL_law_1675 rfl ?_
        exact V_iret dL_law_1676 ⟨_, rfl, rfl⟩ rfl rfl ⟨_, _, _, rfl, rfl, k⟩
    by_cases c8512 : ((E.2.2 v3.toNatClampNeg) &&& (63 : Int32)) = (38 : Int32)
    · refine V_tabIn (off := 1644) (tgt := 1677) dL_law_33 (by rw [c8512]; decide) (by rw [c8512]; decide) (by rw [c8512]; rfl) rfl ?_
      have k := k.2.2.2.2.2.2.2.2.2.2.2.2.2.2.2.2.2.2.2.2.2.2.2.2.2.2.2.2.2.2.2.2.2.2.2.2.2.2.1 c8512
      refine V_aload_n dL_law_1677 rfl ?_
      refine V_aloadS_n dL_law_1678 (Or.inr (Or.inr rfl)) rfl ?_
      refine V_iload_n dL_law_1679 rfl ?_
      refine V_iconst (v := (1 : Int32)) dL_law_1680 rfl ?_
      refine V_iadd dL_law_1681 ?_
      obtain ⟨hb8503, k⟩ := k
      refine V_sld dL_law_1682 hb8503 ?_
      refine U_callV1 [.int (E.2.2 (v3 + (1 : Int32)).toNatClampNeg)] dL_law_1683 ov_L_178 s_0 rfl ⟨rfl, rfl, rfl⟩ rfl rfl rfl (CallI_mono k (fun x8504 I8505 J8506 k => ?_))
      refine V_aload_n dL_law_1686 rfl ?_
      refine V_aloadS_n dL_law_1687 (Or.inr (Or.inr rfl)) rfl ?_
      refine V_iload_n dL_law_1688 rfl ?_
      refine V_iconst (v := (1 : Int32)) dL_law_1689 rfl ?_
      refine V_iadd dL_law_1690 ?_
      obtain ⟨hb8507, k⟩ := k
      refine V_sld dL_law_1691 hb8507 ?_
      refine U_callV1 [.int (E.2.2 (v3 + (1 : Int32)).toNatClampNeg)] dL_law_1692 ov_L_181 s_68 rfl ⟨rfl, rfl, rfl⟩ rfl rfl rfl (CallI_mono k (fun x8508 I8509 J8510 k => ?_))
      refine V_icmp_eq dL_law_1695 (fun c8511 => ?_) (fun c8511 => ?_)
      · have k := k.1 c8511
        refine U_iinc (v := v3 + (8 : Int32)) (L2 := [.float 32, .ref 0, .ref 68, .int (v3 + (8 : Int32))]) dL_law_1700 (by decide) rfl rfl rfl ?_
        refine V_goto dL_law_1703 ?_
        exact k
      · have k := k.2 c8511
        refine V_iconst (v := (0 : Int32)) dL_law_1698 rfl ?_
        exact V_iret dL_law_1699 ⟨_, rfl, rfl⟩ rfl rfl ⟨_, _, _, rfl, rfl, k⟩
    · have hto := tab_out (x := (E.2.2 v3.toNatClampNeg) &&& (63 : Int32)) (lo := 0) (n := 39) (by
        intro k hk
        have hk := List.mem_range.mp hk
        rcases (show k = 0 ∨ k = 1 ∨ k = 2 ∨ k = 3 ∨ k = 4 ∨ k = 5 ∨ k = 6 ∨ k = 7 ∨ k = 8 ∨ k = 9 ∨ k = 10 ∨ k = 11 ∨ k = 12 ∨ k = 13 ∨ k = 14 ∨ k = 15 ∨ k = 16 ∨ k = 17 ∨ k = 18 ∨ k = 19 ∨ k = 20 ∨ k = 21 ∨ k = 22 ∨ k = 23 ∨ k = 24 ∨ k = 25 ∨ k = 26 ∨ k = 27 ∨ k = 28 ∨ k = 29 ∨ k = 30 ∨ k = 31 ∨ k = 32 ∨ k = 33 ∨ k = 34 ∨ k = 35 ∨ k = 36 ∨ k = 37 ∨ k = 38 by omega) with rfl | rfl | rfl | rfl | rfl | rfl | rfl | rfl | rfl | rfl | rfl | rfl | rfl | rfl | rfl | rfl | rfl | rfl | rfl | rfl | rfl | rfl | rfl | rfl | rfl | rfl | rfl | rfl | rfl | rfl | rfl | rfl | rfl | rfl | rfl | rfl | rfl | rfl | rfl
        · exact c14
        · exact c24
        · exact c32
        · exact c40
        · exact c50
        · exact c62
        · exact c76
        · exact c92
        · exact c106
        · exact c118
        · exact c132
        · exact c154
        · exact c166
        · exact c178
        · exact c190
        · exact c204
        · exact c220
        · exact c232
        · exact c242
        · exact c254
        · exact c4276
        · exact c8296
        · exact c8312
        · exact c8322
        · exact c8334
        · exact c8346
        · exact c8358
        · exact c8372
        · exact c8386
        · exact c8400
        · exact c8414
        · exact c8430
        · exact c8440
        · exact c8450
        · exact c8464
        · exact c8478
        · exact c8494
        · exact c8502
        · exact c8512
        ) (by decide)
      refine V_tabOut (tgt := 1700) dL_law_33 rfl (by omega) ?_
      have k := k.2.2.2.2.2.2.2.2.2.2.2.2.2.2.2.2.2.2.2.2.2.2.2.2.2.2.2.2.2.2.2.2.2.2.2.2.2.2.2 ⟨c14, c24, c32, c40, c50, c62, c76, c92, c106, c118, c132, c154, c166, c178, c190, c204, c220, c232, c242, c254, c4276, c8296, c8312, c8322, c8334, c8346, c8358, c8372, c8386, c8400, c8414, c8430, c8440, c8450, c8464, c8478, c8494, c8502, c8512⟩
      refine U_iinc (v := v3 + (8 : Int32)) (L2 := [.float 32, .ref 0, .ref 68, .int (v3 + (8 : Int32))]) dL_law_1700 (by decide) rfl rfl rfl ?_
      refine V_goto dL_law_1703 ?_
      exact k
theorem law_loop {E : aE} {P : Int32 → hI_ → hJ_ → Prop} (hE : E.2.1 ≤ 4096) (k1 : ∀ I J, P 1 I J) : ∀ (f i : Nat) (I : hI_) (J : hJ_), E.2.1 < i + 8 * f → i ≤ 4096 → Rel I → HL_law_18 E P (nI i) I J
  | 0, i, I, J, hf, hi, h => by
    refine wL_law_18 ⟨fun _ => k1 I J, fun z => absurd ?_ z⟩
    have e8 : (8 : Int32).toInt = 8 := rfl
    have e : (Int32.ofNat E.2.1).toInt = E.2.1 := nI_toInt (by omega)
    rw [Int32.lt_iff_toInt_lt, ti_sub (by rw [e, e8]; omega) (by rw [e, e8]; omega), e, e8, nI_toInt (by omega)]
    omega
  | f + 1, i, I, J, hf, hi, h => by
    have e8 : (8 : Int32).toInt = 8 := rfl
    have e : (Int32.ofNat E.2.1).toInt = E.2.1 := nI_toInt (by omega)
    have ex : ((Int32.ofNat E.2.1) - (8 : Int32) < nI i) ↔ E.2.1 < i + 8 := by
      rw [Int32.lt_iff_toInt_lt, ti_sub (by rw [e, e8]; omega) (by rw [e, e8]; omega), e, e8, nI_toInt (by omega)]
      omega
    refine wL_law_18 ⟨fun _ => k1 I J, fun z => ?_⟩
    have z : i + 8 ≤ E.2.1 := by
      rcases Nat.lt_or_ge E.2.1 (i + 8) with y | y
      · exact absurd (ex.mpr y) z
      · exact y
    have v : ∀ q, q < 8 → vp_in (nI i + nI q) E.2.1 := fun q hq => by
      rw [nI_add]; exact vp_in_nI (by omega) (by omega)
    have nx : nI i + (8 : Int32) = nI (i + 8) := by rw [show (8 : Int32) = nI 8 from rfl, nI_add]
    have hP : ∀ I2 J2, Rel I2 → HL_law_18 E P (nI i + 8) I2 J2 := fun I2 J2 h2 => by
      rw [nx]
      exact law_loop hE k1 f (i + 8) I2 J2 (by omega) (by omega) h2
    refine ⟨vp_in_nI (by omega) (by omega), ?_⟩
    exact ⟨fun _ => ⟨v 1 (by omega), v 2 (by omega), CallI_mono (op_feed h hP) (fun x I2 J2 q => ⟨v 1 (by omega), v 2 (by omega), CallI_mono q (fun y I3 J3 q2 => ⟨fun _ => q2.2, fun w => absurd q2.1 w⟩)⟩)⟩,
      fun _ => ⟨v 1 (by omega), CallI_mono (op_end h hP) (fun x I2 J2 q => ⟨v 1 (by omega), CallI_mono q (fun y I3 J3 q2 => ⟨fun _ => q2.2, fun w => absurd q2.1 w⟩)⟩)⟩,
      fun _ => CallI_mono (op_system h hP) (fun x I2 J2 q => CallI_mono q (fun y I3 J3 q2 => ⟨fun _ => q2.2, fun w => absurd q2.1 w⟩)),
      fun _ => CallI_mono (op_fault h hP) (fun x I2 J2 q => CallI_mono q (fun y I3 J3 q2 => ⟨fun _ => q2.2, fun w => absurd q2.1 w⟩)),
      fun _ => ⟨v 1 (by omega), CallI_mono (op_told h hP) (fun x I2 J2 q => ⟨v 1 (by omega), CallI_mono q (fun y I3 J3 q2 => ⟨fun _ => q2.2, fun w => absurd q2.1 w⟩)⟩)⟩,
      fun _ => ⟨v 1 (by omega), v 2 (by omega), CallI_mono (op_way h hP) (fun x I2 J2 q => ⟨v 1 (by omega), v 2 (by omega), CallI_mono q (fun y I3 J3 q2 => ⟨fun _ => q2.2, fun w => absurd q2.1 w⟩)⟩)⟩,
      fun _ => ⟨v 1 (by omega), v 2 (by omega), v 3 (by omega), CallI_mono (op_comes h hP) (fun x I2 J2 q => ⟨v 1 (by omega), v 2 (by omega), v 3 (by omega), CallI_mono q (fun y I3 J3 q2 => ⟨fun _ => q2.2, fun w => absurd q2.1 w⟩)⟩)⟩,
      fun _ => ⟨v 1 (by omega), v 2 (by omega), v 3 (by omega), v 4 (by omega), CallI_mono (op_knows h hP) (fun x I2 J2 q => ⟨v 1 (by omega), v 2 (by omega), v 3 (by omega), v 4 (by omega), CallI_mono q (fun y I3 J3 q2 => ⟨fun _ => q2.2, fun w => absurd q2.1 w⟩)⟩)⟩,
      fun _ => ⟨v 1 (by omega), v 2 (by omega), v 3 (by omega), CallI_mono (op_step h hP) (fun x I2 J2 q => ⟨v 1 (by omega), v 2 (by omega), v 3 (by omega), CallI_mono q (fun y I3 J3 q2 => ⟨fun _ => q2.2, fun w => absurd q2.1 w⟩)⟩)⟩,
      fun _ => ⟨v 1 (by omega), v 2 (by omega), CallI_mono (op_price h hP) (fun x I2 J2 q => ⟨v 1 (by omega), v 2 (by omega), CallI_mono q (fun y I3 J3 q2 => ⟨fun _ => q2.2, fun w => absurd q2.1 w⟩)⟩)⟩,
      fun _ => ⟨v 1 (by omega), v 2 (by omega), v 3 (by omega), CallI_mono (op_dearest h hP) (fun x I2 J2 q => ⟨v 1 (by omega), v 2 (by omega), v 3 (by omega), CallI_mono q (fun y I3 J3 q2 => ⟨fun _ => q2.2, fun w => absurd q2.1 w⟩)⟩)⟩,
      fun _ => ⟨v 1 (by omega), v 2 (by omega), v 3 (by omega), v 4 (by omega), v 5 (by omega), v 6 (by omega), v 7 (by omega), CallI_mono (op_call h hP) (fun x I2 J2 q => ⟨v 1 (by omega), v 2 (by omega), v 3 (by omega), v 4 (by omega), v 5 (by omega), v 6 (by omega), v 7 (by omega), CallI_mono q (fun y I3 J3 q2 => ⟨fun _ => q2.2, fun w => absurd q2.1 w⟩)⟩)⟩,
      fun _ => ⟨v 1 (by omega), v 2 (by omega), CallI_mono (op_takeBack h hP) (fun x I2 J2 q => ⟨v 1 (by omega), v 2 (by omega), CallI_mono q (fun y I3 J3 q2 => ⟨fun _ => q2.2, fun w => absurd q2.1 w⟩)⟩)⟩,
      fun _ => ⟨v 1 (by omega), v 2 (by omega), CallI_mono (op_of h hP) (fun x I2 J2 q => ⟨v 1 (by omega), v 2 (by omega), CallI_mono q (fun y I3 J3 q2 => ⟨fun _ => q2.2, fun w => absurd q2.1 w⟩)⟩)⟩,
      fun _ => ⟨v 1 (by omega), v 2 (by omega), CallI_mono (op_stands h hP) (fun x I2 J2 q => ⟨v 1 (by omega), v 2 (by omega), CallI_mono q (fun y I3 J3 q2 => ⟨fun _ => q2.2, fun w => absurd q2.1 w⟩)⟩)⟩,
      fun _ => ⟨v 1 (by omega), v 2 (by omega), v 3 (by omega), CallI_mono (op_seen h hP) (fun x I2 J2 q => ⟨v 1 (by omega), v 2 (by omega), v 3 (by omega), CallI_mono q (fun y I3 J3 q2 => ⟨fun _ => q2.2, fun w => absurd q2.1 w⟩)⟩)⟩,
      fun _ => ⟨v 1 (by omega), v 2 (by omega), v 3 (by omega), v 4 (by omega), CallI_mono (op_deal h hP) (fun x I2 J2 q => ⟨v 1 (by omega), v 2 (by omega), v 3 (by omega), v 4 (by omega), CallI_mono q (fun y I3 J3 q2 => ⟨fun _ => q2.2, fun w => absurd q2.1 w⟩)⟩)⟩,
      fun _ => ⟨v 1 (by omega), v 2 (by omega), CallI_mono (op_sent h hP) (fun x I2 J2 q => ⟨v 1 (by omega), v 2 (by omega), CallI_mono q (fun y I3 J3 q2 => ⟨fun _ => q2.2, fun w => absurd q2.1 w⟩)⟩)⟩,
      fun _ => ⟨v 1 (by omega), CallI_mono (op_empty h hP) (fun x I2 J2 q => ⟨v 1 (by omega), CallI_mono q (fun y I3 J3 q2 => ⟨fun _ => q2.2, fun w => absurd q2.1 w⟩)⟩)⟩,
      fun _ => ⟨v 1 (by omega), v 2 (by omega), CallI_mono (op_undo h hP) (fun x I2 J2 q => ⟨v 1 (by omega), v 2 (by omega), CallI_mono q (fun y I3 J3 q2 => ⟨fun _ => q2.2, fun w => absurd q2.1 w⟩)⟩)⟩,
      fun _ => ⟨v 1 (by omega), v 2 (by omega), v 3 (by omega), v 4 (by omega), CallI_mono (op_gain h hP) (fun x I2 J2 q => ⟨v 1 (by omega), v 2 (by omega), v 3 (by omega), v 4 (by omega), CallI_mono q (fun y I3 J3 q2 => ⟨fun _ => q2.2, fun w => absurd q2.1 w⟩)⟩)⟩,
      fun _ => ⟨v 1 (by omega), v 2 (by omega), v 3 (by omega), CallI_mono (op_chance h hP) (fun x I2 J2 q => ⟨v 1 (by omega), v 2 (by omega), v 3 (by omega), CallI_mono q (fun y I3 J3 q2 => ⟨fun _ => q2.2, fun w => absurd q2.1 w⟩)⟩)⟩,
      fun _ => ⟨v 1 (by omega), v 2 (by omega), v 3 (by omega), v 4 (by omega), CallI_mono (op_owes h hP) (fun x I2 J2 q => ⟨v 1 (by omega), v 2 (by omega), v 3 (by omega), v 4 (by omega), CallI_mono q (fun y I3 J3 q2 => ⟨fun _ => q2.2, fun w => absurd q2.1 w⟩)⟩)⟩,
      fun _ => ⟨v 1 (by omega), CallI_mono (op_over h hP) (fun x I2 J2 q => ⟨v 1 (by omega), CallI_mono q (fun y I3 J3 q2 => ⟨fun _ => q2.2, fun w => absurd q2.1 w⟩)⟩)⟩,
      fun _ => ⟨v 1 (by omega), v 2 (by omega), CallI_mono (op_peak h hP) (fun x I2 J2 q => ⟨v 1 (by omega), v 2 (by omega), CallI_mono q (fun y I3 J3 q2 => ⟨fun _ => q2.2, fun w => absurd q2.1 w⟩)⟩)⟩,
      fun _ => ⟨v 1 (by omega), v 2 (by omega), CallI_mono (op_waits h hP) (fun x I2 J2 q => ⟨v 1 (by omega), v 2 (by omega), CallI_mono q (fun y I3 J3 q2 => ⟨fun _ => q2.2, fun w => absurd q2.1 w⟩)⟩)⟩,
      fun _ => ⟨v 1 (by omega), v 2 (by omega), CallI_mono (op_book h hP) (fun x I2 J2 q => ⟨v 1 (by omega), v 2 (by omega), CallI_mono q (fun y I3 J3 q2 => ⟨fun _ => q2.2, fun w => absurd q2.1 w⟩)⟩)⟩,
      fun _ => ⟨v 1 (by omega), v 2 (by omega), v 3 (by omega), CallI_mono (op_enough h hP) (fun x I2 J2 q => ⟨v 1 (by omega), v 2 (by omega), v 3 (by omega), CallI_mono q (fun y I3 J3 q2 => ⟨fun _ => q2.2, fun w => absurd q2.1 w⟩)⟩)⟩,
      fun _ => ⟨v 1 (by omega), v 2 (by omega), v 3 (by omega), CallJ_mono (op_odds h hP) (fun x I2 J2 q => ⟨v 1 (by omega), v 2 (by omega), v 3 (by omega), CallJ_mono q (fun y I3 J3 q2 => ⟨fun _ => q2.2, fun w => absurd q2.1 w⟩)⟩)⟩,
      fun _ => ⟨v 1 (by omega), v 2 (by omega), v 3 (by omega), CallJ_mono (op_loss h hP) (fun x I2 J2 q => ⟨v 1 (by omega), v 2 (by omega), v 3 (by omega), CallJ_mono q (fun y I3 J3 q2 => ⟨fun _ => q2.2, fun w => absurd q2.1 w⟩)⟩)⟩,
      fun _ => ⟨v 1 (by omega), v 2 (by omega), v 3 (by omega), CallI_mono (op_wide h hP) (fun x I2 J2 q => ⟨v 1 (by omega), v 2 (by omega), v 3 (by omega), CallI_mono q (fun y I3 J3 q2 => ⟨fun _ => q2.2, fun w => absurd q2.1 w⟩)⟩)⟩,
      fun _ => ⟨v 1 (by omega), v 2 (by omega), v 3 (by omega), v 4 (by omega), CallJ_mono (op_near h hP) (fun x I2 J2 q => ⟨v 1 (by omega), v 2 (by omega), v 3 (by omega), v 4 (by omega), CallJ_mono q (fun y I3 J3 q2 => ⟨fun _ => q2.2, fun w => absurd q2.1 w⟩)⟩)⟩,
      fun _ => ⟨v 1 (by omega), CallI_mono (op_keep h hP) (fun x I2 J2 q => ⟨v 1 (by omega), CallI_mono q (fun y I3 J3 q2 => ⟨fun _ => q2.2, fun w => absurd q2.1 w⟩)⟩)⟩,
      fun _ => ⟨v 1 (by omega), CallI_mono (op_back h hP) (fun x I2 J2 q => ⟨v 1 (by omega), CallI_mono q (fun y I3 J3 q2 => ⟨fun _ => q2.2, fun w => absurd q2.1 w⟩)⟩)⟩,
      fun _ => ⟨v 1 (by omega), v 2 (by omega), v 3 (by omega), CallI_mono (op_sheet h hP) (fun x I2 J2 q => ⟨v 1 (by omega), v 2 (by omega), v 3 (by omega), CallI_mono q (fun y I3 J3 q2 => ⟨fun _ => q2.2, fun w => absurd q2.1 w⟩)⟩)⟩,
      fun _ => ⟨v 1 (by omega), v 2 (by omega), v 3 (by omega), CallI_mono (op_lay h hP) (fun x I2 J2 q => ⟨v 1 (by omega), v 2 (by omega), v 3 (by omega), CallI_mono q (fun y I3 J3 q2 => ⟨fun _ => q2.2, fun w => absurd q2.1 w⟩)⟩)⟩,
      fun _ => ⟨v 1 (by omega), v 2 (by omega), v 3 (by omega), v 4 (by omega), CallI_mono (op_read h hP) (fun x I2 J2 q => ⟨v 1 (by omega), v 2 (by omega), v 3 (by omega), v 4 (by omega), CallI_mono q (fun y I3 J3 q2 => ⟨fun _ => q2.2, fun w => absurd q2.1 w⟩)⟩)⟩,
      fun _ => CallI_mono (op_torn h hP) (fun x I2 J2 q => CallI_mono q (fun y I3 J3 q2 => ⟨fun _ => q2.2, fun w => absurd q2.1 w⟩)),
      fun _ => ⟨v 1 (by omega), CallI_mono (op_count h hP) (fun x I2 J2 q => ⟨v 1 (by omega), CallI_mono q (fun y I3 J3 q2 => ⟨fun _ => q2.2, fun w => absurd q2.1 w⟩)⟩)⟩, fun _ => hP I J h⟩
