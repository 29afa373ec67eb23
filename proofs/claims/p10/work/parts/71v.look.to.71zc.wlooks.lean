/-! looks: the relation stays; printed by wip/rel/r2b.py -/
theorem zgm1_G103 : zAP.all (fun i => xmemN xgA_G103 i) = true := by decide +kernel
theorem zgm2_G103 : zFP.all (fun p => xmemP xgF_G103 p.1 p.2) = true := by decide +kernel
theorem zgm1_G57 : zAP.all (fun i => xmemN xgA_G57 i) = true := by decide +kernel
theorem zgm2_G57 : zFP.all (fun p => xmemP xgF_G57 p.1 p.2) = true := by decide +kernel
theorem zgm1_G94 : zAP.all (fun i => xmemN xgA_G94 i) = true := by decide +kernel
theorem zgm2_G94 : zFP.all (fun p => xmemP xgF_G94 p.1 p.2) = true := by decide +kernel
theorem zgm1_G95 : zAP.all (fun i => xmemN xgA_G95 i) = true := by decide +kernel
theorem zgm2_G95 : zFP.all (fun p => xmemP xgF_G95 p.1 p.2) = true := by decide +kernel
theorem zgm1_G96 : zAP.all (fun i => xmemN xgA_G96 i) = true := by decide +kernel
theorem zgm2_G96 : zFP.all (fun p => xmemP xgF_G96 p.1 p.2) = true := by decide +kernel
theorem zgm1_G98 : zAP.all (fun i => xmemN xgA_G98 i) = true := by decide +kernel
theorem zgm2_G98 : zFP.all (fun p => xmemP xgF_G98 p.1 p.2) = true := by decide +kernel
theorem zgc1_G54 : zAR.all (fun i => xmemN xgA_G54 i) = true := by decide +kernel
theorem zgc2_G54 : zFR.all (fun p => xmemP xgF_G54 p.1 p.2) = true := by decide +kernel
theorem zgc3_G54 : (xmemN xgA_G54 51 && xmemN xgA_G54 52 && xmemP xgF_G54 48 4) = true := by decide +kernel
theorem zgc1_G8 : zAR.all (fun i => xmemN xgA_G8 i) = true := by decide +kernel
theorem zgc2_G8 : zFR.all (fun p => xmemP xgF_G8 p.1 p.2) = true := by decide +kernel
theorem zgc3_G8 : (xmemN xgA_G8 51 && xmemN xgA_G8 52 && xmemP xgF_G8 48 4) = true := by decide +kernel
theorem zgc1_G9 : zAR.all (fun i => xmemN xgA_G9 i) = true := by decide +kernel
theorem zgc2_G9 : zFR.all (fun p => xmemP xgF_G9 p.1 p.2) = true := by decide +kernel
theorem zgc3_G9 : (xmemN xgA_G9 51 && xmemN xgA_G9 52 && xmemP xgF_G9 48 4) = true := by decide +kernel
theorem xrm_sees {x : Int32} : xRm 257 [.int x] kJ := xRmod xLE_G94 zgm1_G94 zgm2_G94 (fun n E h hE => xn_257_0 h (fun p q => (hE p q).1.1)) (by decide) (by decide) (fun _ => ⟨xaRi rfl (by decide), xaT, trivial⟩) (fun _ _ h => yrj h)
theorem xrc_sees {x : Int32} : xRc 147 [.int x] kJ := xRcls xLE_G9 zgc1_G9 zgc2_G9 zgc3_G9 (fun h hC => xn_147_0 h hC) (by decide) (fun _ => ⟨xaRi rfl (by decide), xaT, trivial⟩) (fun _ _ h => yrj h)
theorem xrs_sees {x : Int32} : xRs 147 257 [.int x] (fun a b => kJ a ∧ kJ b) := xRboth xrc_sees xrm_sees
theorem xrm_seers {x : Int32} : xRm 258 [.int x] kI := xRmod xLE_G94 zgm1_G94 zgm2_G94 (fun n E h hE => xn_258_0 h (fun p q => (hE p q).1.1)) (by decide) (by decide) (fun _ => ⟨xaRi rfl (by decide), xaT, trivial⟩) (fun _ _ h => yri h)
theorem xrc_seers {x : Int32} : xRc 148 [.int x] kI := xRcls xLE_G9 zgc1_G9 zgc2_G9 zgc3_G9 (fun h hC => xn_148_0 h hC) (by decide) (fun _ => ⟨xaRi rfl (by decide), xaT, trivial⟩) (fun _ _ h => yri h)
theorem xrs_seers {x : Int32} : xRs 148 258 [.int x] (fun a b => kI a ∧ kI b) := xRboth xrc_seers xrm_seers
theorem xrm_hidden : xRm 260 [] kJ := xRmod xLE_G94 zgm1_G94 zgm2_G94 (fun n E h hE => xn_260_0 h (fun p q => (hE p q).1.1)) (by decide) (by decide) (fun _ => ⟨xaRi rfl (by decide), trivial⟩) (fun _ _ h => yrj h)
theorem xrc_hidden : xRc 149 [] kJ := xRcls xLE_G9 zgc1_G9 zgc2_G9 zgc3_G9 (fun h hC => xn_149_0 h hC) (by decide) (fun _ => ⟨xaRi rfl (by decide), trivial⟩) (fun _ _ h => yrj h)
theorem xrs_hidden : xRs 149 260 [] (fun a b => kJ a ∧ kJ b) := xRboth xrc_hidden xrm_hidden
theorem xrm_pairs : xRm 261 [] kI := xRmod xLE_G94 zgm1_G94 zgm2_G94 (fun n E h hE => xn_261_0 h (fun p q => (hE p q).1.1) (fun p q => xINV_PG (hE p q).2)) (by decide) (by decide) (fun _ => ⟨xaRi rfl (by decide), trivial⟩) (fun _ _ h => yri h)
theorem xrc_pairs : xRc 150 [] kI := xRcls xLE_G9 zgc1_G9 zgc2_G9 zgc3_G9 (fun h hC => xn_150_0 h hC) (by decide) (fun _ => ⟨xaRi rfl (by decide), trivial⟩) (fun _ _ h => yri h)
theorem xrs_pairs : xRs 150 261 [] (fun a b => kI a ∧ kI b) := xRboth xrc_pairs xrm_pairs
theorem xrm_behind {x : Int32} : xRm 262 [.int x] kI := xRmod xLE_G94 zgm1_G94 zgm2_G94 (fun n E h hE => xn_262_0 h (fun p q => (hE p q).1.1) (fun p q => xINV_PG (hE p q).2)) (by decide) (by decide) (fun _ => ⟨xaRi rfl (by decide), xaT, trivial⟩) (fun _ _ h => yri h)
theorem xrc_behind {x : Int32} : xRc 151 [.int x] kI := xRcls xLE_G9 zgc1_G9 zgc2_G9 zgc3_G9 (fun h hC => xn_151_0 h hC) (by decide) (fun _ => ⟨xaRi rfl (by decide), xaT, trivial⟩) (fun _ _ h => yri h)
theorem xrs_behind {x : Int32} : xRs 151 262 [.int x] (fun a b => kI a ∧ kI b) := xRboth xrc_behind xrm_behind
theorem xrm_widest : xRm 263 [] kI := xRmod xLE_G94 zgm1_G94 zgm2_G94 (fun n E h hE => xn_263_0 h (fun p q => (hE p q).1.1)) (by decide) (by decide) (fun _ => ⟨xaRi rfl (by decide), trivial⟩) (fun _ _ h => yri h)
theorem xrc_widest : xRc 152 [] kI := xRcls xLE_G9 zgc1_G9 zgc2_G9 zgc3_G9 (fun h hC => xn_152_0 h hC) (by decide) (fun _ => ⟨xaRi rfl (by decide), trivial⟩) (fun _ _ h => yri h)
theorem xrs_widest : xRs 152 263 [] (fun a b => kI a ∧ kI b) := xRboth xrc_widest xrm_widest
theorem xrm_watch : xRm 265 [] kI := xRmod xLE_G94 zgm1_G94 zgm2_G94 (fun n E h hE => xn_265_0 h (fun p q => (hE p q).1.1)) (by decide) (by decide) (fun _ => ⟨xaRi rfl (by decide), trivial⟩) (fun _ _ h => yri h)
theorem xrc_watch : xRc 153 [] kI := xRcls xLE_G9 zgc1_G9 zgc2_G9 zgc3_G9 (fun h hC => xn_153_0 h hC) (by decide) (fun _ => ⟨xaRi rfl (by decide), trivial⟩) (fun _ _ h => yri h)
theorem xrs_watch : xRs 153 265 [] (fun a b => kI a ∧ kI b) := xRboth xrc_watch xrm_watch
theorem xrm_learns {x y : Int32} : xRm 266 [.int x, .int y] kI := xRmod xLE_G95 zgm1_G95 zgm2_G95 (fun n E h hE => xn_266_0 h (fun p q => (hE p q).1.1)) (by decide) (by decide) (fun _ => ⟨xaRi rfl (by decide), xaT, xaT, trivial⟩) (fun _ _ h => yri h)
theorem xrc_learns {x y : Int32} : xRc 154 [.int x, .int y] kI := xRcls xLE_G54 zgc1_G54 zgc2_G54 zgc3_G54 (fun h hC => xn_154_0 h hC) (by decide) (fun _ => ⟨xaRi rfl (by decide), xaT, xaT, trivial⟩) (fun _ _ h => yri h)
theorem xrs_learns {x y : Int32} : xRs 154 266 [.int x, .int y] (fun a b => kI a ∧ kI b) := xRboth xrc_learns xrm_learns
theorem xrm_all : xRm 268 [] kI := xRmod xLE_G95 zgm1_G95 zgm2_G95 (fun n E h hE => xn_268_0 h (fun p q => (hE p q).1.1)) (by decide) (by decide) (fun _ => ⟨xaRi rfl (by decide), trivial⟩) (fun _ _ h => yri h)
theorem xrc_all : xRc 155 [] kI := xRcls xLE_G54 zgc1_G54 zgc2_G54 zgc3_G54 (fun h hC => xn_155_0 h hC) (by decide) (fun _ => ⟨xaRi rfl (by decide), trivial⟩) (fun _ _ h => yri h)
theorem xrs_all : xRs 155 268 [] (fun a b => kI a ∧ kI b) := xRboth xrc_all xrm_all
theorem xrm_ahead {x : Int32} : xRm 269 [.int x] kI := xRmod xLE_G95 zgm1_G95 zgm2_G95 (fun n E h hE => xn_269_0 h (fun p q => (hE p q).1.1)) (by decide) (by decide) (fun _ => ⟨xaRi rfl (by decide), xaT, trivial⟩) (fun _ _ h => yri h)
theorem xrc_ahead {x : Int32} : xRc 156 [.int x] kI := xRcls xLE_G54 zgc1_G54 zgc2_G54 zgc3_G54 (fun h hC => xn_156_0 h hC) (by decide) (fun _ => ⟨xaRi rfl (by decide), xaT, trivial⟩) (fun _ _ h => yri h)
theorem xrs_ahead {x : Int32} : xRs 156 269 [.int x] (fun a b => kI a ∧ kI b) := xRboth xrc_ahead xrm_ahead
theorem xrm_gossip {x : Int32} : xRm 270 [.int x] kI := xRmod xLE_G94 zgm1_G94 zgm2_G94 (fun n E h hE => xn_270_0 h (fun p q => (hE p q).1.1)) (by decide) (by decide) (fun _ => ⟨xaRi rfl (by decide), xaT, trivial⟩) (fun _ _ h => yri h)
theorem xrc_gossip {x : Int32} : xRc 157 [.int x] kI := xRcls xLE_G9 zgc1_G9 zgc2_G9 zgc3_G9 (fun h hC => xn_157_0 h hC) (by decide) (fun _ => ⟨xaRi rfl (by decide), xaT, trivial⟩) (fun _ _ h => yri h)
theorem xrs_gossip {x : Int32} : xRs 157 270 [.int x] (fun a b => kI a ∧ kI b) := xRboth xrc_gossip xrm_gossip
theorem xrm_eighths {x y : Int32} : xRm 272 [.int x, .int y] kI := xRmod xLE_G94 zgm1_G94 zgm2_G94 (fun n E h hE => xn_272_0 h (fun p q => (hE p q).1.1)) (by decide) (by decide) (fun _ => ⟨xaRi rfl (by decide), xaT, xaT, trivial⟩) (fun _ _ h => yri h)
theorem xrc_eighths {x y : Int32} : xRc 158 [.int x, .int y] kI := xRcls xLE_G9 zgc1_G9 zgc2_G9 zgc3_G9 (fun h hC => xn_158_0 h hC) (by decide) (fun _ => ⟨xaRi rfl (by decide), xaT, xaT, trivial⟩) (fun _ _ h => yri h)
theorem xrs_eighths {x y : Int32} : xRs 158 272 [.int x, .int y] (fun a b => kI a ∧ kI b) := xRboth xrc_eighths xrm_eighths
theorem xrm_turned : xRm 276 [] kI := xRmod xLE_G96 zgm1_G96 zgm2_G96 (fun n E h hE => xn_276_0 h (fun p q => (hE p q).1.1) (fun p q => xINV_PG (hE p q).2)) (by decide) (by decide) (fun _ => ⟨xaRi rfl (by decide), trivial⟩) (fun _ _ h => yri h)
theorem xrc_turned : xRc 159 [] kI := xRcls xLE_G9 zgc1_G9 zgc2_G9 zgc3_G9 (fun h hC => xn_159_0 h hC) (by decide) (fun _ => ⟨xaRi rfl (by decide), trivial⟩) (fun _ _ h => yri h)
theorem xrs_turned : xRs 159 276 [] (fun a b => kI a ∧ kI b) := xRboth xrc_turned xrm_turned
theorem xrm_best {x : Int32} : xRm 277 [.int x] kI := xRmod xLE_G94 zgm1_G94 zgm2_G94 (fun n E h hE => xn_277_0 h (fun p q => (hE p q).1.1) (fun p q => xINV_PG (hE p q).2)) (by decide) (by decide) (fun _ => ⟨xaRi rfl (by decide), xaT, trivial⟩) (fun _ _ h => yri h)
theorem xrc_best {x : Int32} : xRc 160 [.int x] kI := xRcls xLE_G9 zgc1_G9 zgc2_G9 zgc3_G9 (fun h hC => xn_160_0 h hC) (by decide) (fun _ => ⟨xaRi rfl (by decide), xaT, trivial⟩) (fun _ _ h => yri h)
theorem xrs_best {x : Int32} : xRs 160 277 [.int x] (fun a b => kI a ∧ kI b) := xRboth xrc_best xrm_best
theorem xrm_bears {x y : Int32} : xRm 278 [.int x, .int y] kI := xRmod xLE_G94 zgm1_G94 zgm2_G94 (fun n E h hE => xn_278_0 h (fun p q => (hE p q).1.1)) (by decide) (by decide) (fun _ => ⟨xaRi rfl (by decide), xaT, xaT, trivial⟩) (fun _ _ h => yri h)
theorem xrc_bears {x y : Int32} : xRc 161 [.int x, .int y] kI := xRcls xLE_G9 zgc1_G9 zgc2_G9 zgc3_G9 (fun h hC => xn_161_0 h hC) (by decide) (fun _ => ⟨xaRi rfl (by decide), xaT, xaT, trivial⟩) (fun _ _ h => yri h)
theorem xrs_bears {x y : Int32} : xRs 161 278 [.int x, .int y] (fun a b => kI a ∧ kI b) := xRboth xrc_bears xrm_bears
theorem xrm_back {x y : Int32} : xRm 281 [.int x, .int y] kI := xRmod xLE_G98 zgm1_G98 zgm2_G98 (fun n E h hE => xn_281_0 h (fun p q => (hE p q).1.1)) (by decide) (by decide) (fun _ => ⟨xaRi rfl (by decide), xaT, xaT, trivial⟩) (fun _ _ h => yri h)
theorem xrc_back {x y : Int32} : xRc 164 [.int x, .int y] kI := xRcls xLE_G9 zgc1_G9 zgc2_G9 zgc3_G9 (fun h hC => xn_164_0 h hC) (by decide) (fun _ => ⟨xaRi rfl (by decide), xaT, xaT, trivial⟩) (fun _ _ h => yri h)
theorem xrs_back {x y : Int32} : xRs 164 281 [.int x, .int y] (fun a b => kI a ∧ kI b) := xRboth xrc_back xrm_back
theorem xrm_open {x y : Int32} : xRm 282 [.int x, .int y] kI := xRmod xLE_G98 zgm1_G98 zgm2_G98 (fun n E h hE => xn_282_0 h (fun p q => (hE p q).1.1)) (by decide) (by decide) (fun _ => ⟨xaRi rfl (by decide), xaT, xaT, trivial⟩) (fun _ _ h => yri h)
theorem xrc_open {x y : Int32} : xRc 165 [.int x, .int y] kI := xRcls xLE_G9 zgc1_G9 zgc2_G9 zgc3_G9 (fun h hC => xn_165_0 h hC) (by decide) (fun _ => ⟨xaRi rfl (by decide), xaT, xaT, trivial⟩) (fun _ _ h => yri h)
theorem xrs_open {x y : Int32} : xRs 165 282 [.int x, .int y] (fun a b => kI a ∧ kI b) := xRboth xrc_open xrm_open
theorem xrm_lost : xRm 286 [] kJ := xRmod xLE_G94 zgm1_G94 zgm2_G94 (fun n E h hE => xn_286_0 h (fun p q => (hE p q).1.1)) (by decide) (by decide) (fun _ => ⟨xaRi rfl (by decide), trivial⟩) (fun _ _ h => yrj h)
theorem xrc_lost : xRc 168 [] kJ := xRcls xLE_G9 zgc1_G9 zgc2_G9 zgc3_G9 (fun h hC => xn_168_0 h) (by decide) (fun _ => ⟨xaRi rfl (by decide), trivial⟩) (fun _ _ h => yrj h)
theorem xrs_lost : xRs 168 286 [] (fun a b => kJ a ∧ kJ b) := xRboth xrc_lost xrm_lost
theorem xrm_asks : xRm 287 [] kI := xRmod xLE_G94 zgm1_G94 zgm2_G94 (fun n E h hE => xn_287_0 h (fun p q => (hE p q).1.1)) (by decide) (by decide) (fun _ => ⟨xaRi rfl (by decide), trivial⟩) (fun _ _ h => yri h)
theorem xrc_asks : xRc 169 [] kI := xRcls xLE_G9 zgc1_G9 zgc2_G9 zgc3_G9 (fun h hC => xn_169_0 h hC) (by decide) (fun _ => ⟨xaRi rfl (by decide), trivial⟩) (fun _ _ h => yri h)
theorem xrs_asks : xRs 169 287 [] (fun a b => kI a ∧ kI b) := xRboth xrc_asks xrm_asks
theorem xrm_storm {x y z : Int32} : xRm 288 [.int x, .int y, .int z] kI := xRmod xLE_G94 zgm1_G94 zgm2_G94 (fun n E h hE => xn_288_0 h (fun p q => (hE p q).1.1)) (by decide) (by decide) (fun _ => ⟨xaRi rfl (by decide), xaT, xaT, xaT, trivial⟩) (fun _ _ h => yri h)
theorem xrc_storm {x y z : Int32} : xRc 171 [.int x, .int y, .int z] kI := xRcls xLE_G9 zgc1_G9 zgc2_G9 zgc3_G9 (fun h hC => xn_171_0 h hC) (by decide) (fun _ => ⟨xaRi rfl (by decide), xaT, xaT, xaT, trivial⟩) (fun _ _ h => yri h)
theorem xrs_storm {x y z : Int32} : xRs 171 288 [.int x, .int y, .int z] (fun a b => kI a ∧ kI b) := xRboth xrc_storm xrm_storm
theorem xrm_cock {x y : Int32} : xRm 289 [.int x, .int y] kI := xRmod xLE_G57 zgm1_G57 zgm2_G57 (fun n E h hE => xn_289_0 h) (by decide) (by decide) (fun _ => ⟨xaRi rfl (by decide), xaT, xaT, trivial⟩) (fun _ _ h => yri h)
theorem xrc_cock {x y : Int32} : xRc 172 [.int x, .int y] kI := xRcls xLE_G8 zgc1_G8 zgc2_G8 zgc3_G8 (fun h hC => xn_172_0 h) (by decide) (fun _ => ⟨xaRi rfl (by decide), xaT, xaT, trivial⟩) (fun _ _ h => yri h)
theorem xrs_cock {x y : Int32} : xRs 172 289 [.int x, .int y] (fun a b => kI a ∧ kI b) := xRboth xrc_cock xrm_cock
theorem xrm_rests {x : Int32} : xRm 293 [.int x] kI := xRmod xLE_G94 zgm1_G94 zgm2_G94 (fun n E h hE => xn_293_0 h) (by decide) (by decide) (fun _ => ⟨xaRi rfl (by decide), xaT, trivial⟩) (fun _ _ h => yri h)
theorem xrc_rests {x : Int32} : xRc 174 [.int x] kI := xRcls xLE_G9 zgc1_G9 zgc2_G9 zgc3_G9 (fun h hC => xn_174_0 h) (by decide) (fun _ => ⟨xaRi rfl (by decide), xaT, trivial⟩) (fun _ _ h => yri h)
theorem xrs_rests {x : Int32} : xRs 174 293 [.int x] (fun a b => kI a ∧ kI b) := xRboth xrc_rests xrm_rests
theorem xrm_years {x y : Int32} : xRm 295 [.int x, .int y] kI := xRmod xLE_G103 zgm1_G103 zgm2_G103 (fun n E h hE => xn_295_0 h (fun p q => (hE p q).1.1)) (by decide) (by decide) (fun _ => ⟨xaRi rfl (by decide), xaT, xaT, trivial⟩) (fun _ _ h => yri h)
theorem xrc_years {x y : Int32} : xRc 175 [.int x, .int y] kI := xRcls xLE_G54 zgc1_G54 zgc2_G54 zgc3_G54 (fun h hC => xn_175_0 h hC) (by decide) (fun _ => ⟨xaRi rfl (by decide), xaT, xaT, trivial⟩) (fun _ _ h => yri h)
theorem xrs_years {x y : Int32} : xRs 175 295 [.int x, .int y] (fun a b => kI a ∧ kI b) := xRboth xrc_years xrm_years
theorem xrm_count {x : Int32} : xRm 298 [.int x] kI := xRmod xLE_G57 zgm1_G57 zgm2_G57 (fun n E h hE => xn_298_0 h (fun p q => (hE p q).1.1)) (by decide) (by decide) (fun _ => ⟨xaRi rfl (by decide), xaT, trivial⟩) (fun _ _ h => yri h)
theorem xrc_count {x : Int32} : xRc 179 [.int x] kI := xRcls xLE_G8 zgc1_G8 zgc2_G8 zgc3_G8 (fun h hC => xn_179_0 h hC) (by decide) (fun _ => ⟨xaRi rfl (by decide), xaT, trivial⟩) (fun _ _ h => yri h)
theorem xrs_count {x : Int32} : xRs 179 298 [.int x] (fun a b => kI a ∧ kI b) := xRboth xrc_count xrm_count
theorem xrm_person {x y : Int32} : xRm 235 [.int x, .int y] kI := xRmod xLE_G57 zgm1_G57 zgm2_G57 (fun n E h hE => xn_235_0 h (fun p q => (hE p q).1.1)) (by decide) (by decide) (fun _ => ⟨xaRi rfl (by decide), xaT, xaT, trivial⟩) (fun _ _ h => yri h)
theorem xrm_thing {x y : Int32} : xRm 236 [.int x, .int y] kI := xRmod xLE_G57 zgm1_G57 zgm2_G57 (fun n E h hE => xn_236_0 h (fun p q => (hE p q).1.1) (fun p q => xINV_PG (hE p q).2)) (by decide) (by decide) (fun _ => ⟨xaRi rfl (by decide), xaT, xaT, trivial⟩) (fun _ _ h => yri h)
theorem xrm_row {x : Int32} : xRm 299 [.int x] kJ := xRmod xLE_G57 zgm1_G57 zgm2_G57 (fun n E h hE => xn_299_0 h) (by decide) (by decide) (fun _ => ⟨xaRi rfl (by decide), xaT, trivial⟩) (fun _ _ h => yrj h)

/-! the calls that change the relation; printed by wip/rel/r3.py -/
theorem tRl {T : Nat → Nat → Prop} {p q : pm_H} (h : zEQ T p q) (t : ∀ a k, tL a k → T a k) : zEQ tL p q := zEQ_m t h
section RW
variable {R C sn cn cm F F2 P G nx u fl hn ch : Nat} {rk kp : Nat → Bool} {sk cd cdm v kc : Nat → Nat} {w sv svm : Nat → Nat → Nat}
/-- an end of both calls -/
theorem xRI_fin {n : Nat} {p1 p2 : pm_H} {m : Int} {w0 : Nat} (hP : xH xX kK (xLm (n + 1)) 0 p2) (b1 : xH xX kK m w0 p1) (hLE : xLE (n + 1) p2) (hpp : zPP (n + 1) ((R, C, rk, sn, sk), (cn, cd, cm, cdm), (F, F2, P, G, nx, u, fl, hn, ch), (v, w, sv, svm), (kp, kc))) (e2 : zEQ tCC p1 p2) (hK : zKC p1 R C rk P G v nx u w fl sv hn) (hX : zXc p1 (R, C, rk, sn, sk, cn, cd) F F2) (hcc : zCc p1 R C rk) (hM : zKM p2 R C rk P G v u w ch kp kc svm hn) (hMr : zMr p1 sn sk cm cdm) (hcg : zcg cm cdm) : xRI (n + 1) p2 := by
  have eL : zEQ tL p1 p2 := zEQ_m (fun _ _ t => Or.inl t) e2
  have eN : zEQ tN p1 p2 := zEQ_m (fun _ _ t => Or.inr (Or.inl t)) e2
  have eH : zEQ tH p1 p2 := zEQ_m (fun _ _ t => Or.inr (Or.inr (Or.inl t))) e2
  have eI : zEQ tI p1 p2 := zEQ_m (fun _ _ t => Or.inr (Or.inr (Or.inr (Or.inl t)))) e2
  have eX : zEQ tX p1 p2 := zEQ_m (fun _ _ t => Or.inr (Or.inr (Or.inr (Or.inr (Or.inl t))))) e2
  have eD : zEQ tD p1 p2 := zEQ_m (fun _ _ t => Or.inr (Or.inr (Or.inr (Or.inr (Or.inr (Or.inl t)))))) e2
  have eE : zEQ tE p1 p2 := zEQ_m (fun _ _ t => Or.inr (Or.inr (Or.inr (Or.inr (Or.inr (Or.inr t)))))) e2
  refine ⟨hP, ((R, C, rk, sn, sk), (cn, cd, cm, cdm), (F, F2, P, G, nx, u, fl, hn, ch), (v, w, sv, svm), (kp, kc)), hLE, hpp, ⟨⟨zKC_Q eL eN eH hK, zXc_Q hP eL eI eX hX⟩, ?_⟩, hM, hM.1, zMr_Q eE hMr, hcg⟩
  show zCc p2 R C rk
  exact zCc_Q eD hcc
/-- rows of undo with one more -/
theorem zAW_all {Pd : (Nat → Nat) → Prop} (hv : Pd v) (hw : ∀ i, i < u → Pd (w i)) (hu : u ≤ 15) : ∀ i, i < zAd u → Pd (zAw u (zWp u w v) i) := by
  intro i hi
  unfold zAd at hi
  unfold zAw zWp
  by_cases h : u < 15
  · rw [if_pos h] at hi
    rw [if_pos h]
    by_cases e : i = u
    · show Pd (if i = u then v else w i)
      rw [if_pos e]
      exact hv
    · show Pd (if i = u then v else w i)
      rw [if_neg e]
      exact hw i (by omega)
  · rw [if_neg h] at hi
    rw [if_neg h]
    by_cases e : i + 1 = u
    · show Pd (if i + 1 = u then v else w (i + 1))
      rw [if_pos e]
      exact hv
    · show Pd (if i + 1 = u then v else w (i + 1))
      rw [if_neg e]
      exact hw (i + 1) (by omega)
theorem zPP_push {n nx' : Nat} {v' : Nat → Nat} (h : zPP n ((R, C, rk, sn, sk), (cn, cd, cm, cdm), (F, F2, P, G, nx, u, fl, hn, ch), (v, w, sv, svm), (kp, kc))) (hu : u ≤ 15) (hO : zOk R C P G v') (h40 : v' 40 ≤ 540 * (n + 1)) : zPP (n + 1) ((R, C, rk, sn, sk), (cn, cd, cm, cdm), (F, F2, P, G, nx', (zAd u), fl, hn, ch), (v', (zAw u (zWp u w v)), sv, svm), (kp, kc)) := by
  obtain ⟨h1, h2, h3, h4, h5, h6, h7⟩ := h
  exact ⟨h1, h2, h3, by omega, ⟨hO, h40⟩, zAW_all (Pd := fun r => zOk R C P G r ∧ r 40 ≤ 540 * (n + 1)) ⟨h5.1, by omega⟩ (fun i hi => ⟨(h6 i hi).1, by have := (h6 i hi).2; omega⟩) hu, fun i hi hb => ⟨(h7 i hi hb).1, by have := (h7 i hi hb).2; omega⟩⟩
/-- the row of now changed alone; fewer rows of undo -/
theorem zPP_set {n nx' u' : Nat} {v' : Nat → Nat} (h : zPP n ((R, C, rk, sn, sk), (cn, cd, cm, cdm), (F, F2, P, G, nx, u, fl, hn, ch), (v, w, sv, svm), (kp, kc))) (hu : u' ≤ u) (hO : zOk R C P G v') (h40 : v' 40 ≤ 540 * (n + 1)) : zPP (n + 1) ((R, C, rk, sn, sk), (cn, cd, cm, cdm), (F, F2, P, G, nx', u', fl, hn, ch), (v', w, sv, svm), (kp, kc)) := by
  obtain ⟨h1, h2, h3, h4, h5, h6, h7⟩ := h
  exact ⟨h1, h2, h3, by omega, ⟨hO, h40⟩, fun i hi => ⟨(h6 i (by omega)).1, by have := (h6 i (by omega)).2; omega⟩, fun i hi hb => ⟨(h7 i hi hb).1, by have := (h7 i hi hb).2; omega⟩⟩
theorem zPP_hn {n hn' : Nat} (h : zPP n ((R, C, rk, sn, sk), (cn, cd, cm, cdm), (F, F2, P, G, nx, u, fl, hn, ch), (v, w, sv, svm), (kp, kc))) : zPP (n + 1) ((R, C, rk, sn, sk), (cn, cd, cm, cdm), (F, F2, P, G, nx, u, fl, hn', ch), (v, w, sv, svm), (kp, kc)) := zPP_le h
end RW
theorem zn_int {x : Int32} {p : Nat} (h : x = zn p) (hp : p < 1000) : x.toInt = (p : Int) := by
  subst h
  exact znt (by omega)
theorem zn_two {x : Int32} {p q : Nat} (h : x = zn p) (h' : x = zn q) (hp : p < 1000) (hq : q < 1000) : p = q := by
  have e1 := zn_int h hp
  have e2 := zn_int h' hq
  omega
/-! the class's half of a call that writes -/
theorem zvW1 : zAW.all (fun i => xmemN xgA_G19 i) = true := by decide +kernel
theorem zvW2 : zFW.all (fun p => xmemP xgF_G19 p.1 p.2) = true := by decide +kernel
def xVI (n : Nat) (p : pm_H) : Prop := xV p ∧ xINV n p
theorem xVI_G {gA : List Nat} {gF : List (Nat × Nat)} (s1 : [9, 13, 28, 29, 30].all (fun i => xmemN gA i) = true) (s2 : ((0, 23) :: xgFI).all (fun p => xmemP gF p.1 p.2) = true) (n : Nat) : xHE xX gA gF (xVI n) := xHE_and (xHE_sub (by
  simp only [List.all_cons, List.all_nil, Bool.and_true, Bool.and_eq_true] at s1 ⊢
  exact s1.1) (by
  simp only [List.all_cons, Bool.and_eq_true] at s2
  simp only [List.all_cons, List.all_nil, Bool.and_true]
  exact s2.1) xHEV) (xHE_sub (by
  simp only [xgAI, List.all_cons, List.all_nil, Bool.and_true, Bool.and_eq_true] at s1 ⊢
  exact ⟨s1.2.1, s1.2.2.1, s1.2.2.2.1, s1.2.2.2.2⟩) (by
  simp only [List.all_cons, Bool.and_eq_true] at s2
  exact s2.2) (xHEI n))
def xRk (E0 : Nat → pm_H → Prop) (Z : pm_H → Prop) (j : Nat) (as : List Value) (Q : Value → Prop) : Prop := ∀ n, n ≤ 512 → ∀ z ph, xH xX kK (xLm n) 0 ph → E0 n ph → zCR ph z → zCC ph z → ∃ v ph', pm_Rd kK false 600 j (.ref 0 :: as) ph (some v, ph', 0, 0) ∧ Q v ∧ xH xX kK (xLm n) 0 ph' ∧ E0 n ph' ∧ zEQ tWW ph ph' ∧ zCC ph' z ∧ Z ph'
theorem xRwr {E0 : Nat → pm_H → Prop} {Z : pm_H → Prop} {d j : Nat} {gA : List Nat} {gF : List (Nat × Nat)} {pre : List xh} {res : Option xh} {fq : List (Nat × xh)} {as : List Value} {Q : Value → Prop} (hle : ∀ n, xHE xX gA gF (E0 n)) (hlv : ∀ n, xHE xX xgA_G19 xgF_G19 (E0 n)) (s1 : zAW.all (fun i => xmemN gA i) = true) (s2 : zFW.all (fun p => xmemP gF p.1 p.2) = true) (s3 : (xmemN gA 51 && xmemN gA 52 && xmemP gF 48 4) = true) (hm : ∀ {E : pm_H → Prop}, xHE xX gA gF E → xPC E → xcon xX kK E d j pre [] 0 res fq) (hd : d ≤ 600) (hv : ∀ m, xhV xX m (.ref 0 :: as) pre) (hr : ∀ m v, xhR xX m v res → ∃ u, v = some u ∧ Q u) (hz : ∀ m p, xhF xX m p fq → Z p) : xRk E0 Z j as Q := fun n hn z ph hP h0 hCR hCC => by
  obtain ⟨s34, s5⟩ := Bool.and_eq_true_iff.mp s3
  obtain ⟨s3, s4⟩ := Bool.and_eq_true_iff.mp s34
  have h4 := zCR_4 hCR
  obtain ⟨v0, ph', a, b, c, e, f⟩ := hm (E := fun p => (E0 n p ∧ xSame xX zAW zFW ph p) ∧ zqC p z.1.1 z.1.2.1 z.1.2.2.1) (xHE_and (xHE_and (hle n) (xHE_sub s1 s2 xHE_slf)) (zqC_G s3 s4 s5)) (xPC_F (hlv n) hP zvW1 zvW2 zbW zckW (fun _ _ t => Or.inl t) (fun _ _ t => Or.inr (Or.inr (Or.inl t))) h4 (zCR_l hCR)) 600 hd (xLm n) (xLm_le (by omega)) xLm_0 _ ph (hv _) (fun _ _ h => absurd h List.not_mem_nil) hP ⟨⟨h0, xSame_rf⟩, zqC_x hP hCC⟩
  obtain ⟨u, rfl, q⟩ := hr _ _ e
  exact ⟨u, ph', a, q, b, c.1.1, zEQ_W hP b c.1.2, zqC_c c.2, hz _ _ f⟩
theorem zRC_VR {p : pm_H} : xHE xX xgA_VR xgF_VR (fun q => xSame xX zAC zFC p q) := xHE_sub (by decide +kernel) (by decide +kernel) xHE_slf
theorem zRC_VS {p : pm_H} : xHE xX xgA_VR xgF_VS (fun q => xSame xX zAC zFC p q) := xHE_sub (by decide +kernel) (by decide +kernel) xHE_slf
theorem zRC_VU {p : pm_H} : xHE xX xgA_VT xgF_VU (fun q => xSame xX zAC zFC p q) := xHE_sub (by decide +kernel) (by decide +kernel) xHE_slf
theorem xVI_G19 (n : Nat) : xHE xX xgA_G19 xgF_G19 (xVI n) := xVI_G (by decide +kernel) (by decide +kernel) n
theorem zgw1_G13 : zAW.all (fun i => xmemN xgA_G13 i) = true := by decide +kernel
theorem zgw2_G13 : zFW.all (fun p => xmemP xgF_G13 p.1 p.2) = true := by decide +kernel
theorem zgw3_G13 : (xmemN xgA_G13 51 && xmemN xgA_G13 52 && xmemP xgF_G13 48 4) = true := by decide +kernel
theorem zgw1_G16 : zAW.all (fun i => xmemN xgA_G16 i) = true := by decide +kernel
theorem zgw2_G16 : zFW.all (fun p => xmemP xgF_G16 p.1 p.2) = true := by decide +kernel
theorem zgw3_G16 : (xmemN xgA_G16 51 && xmemN xgA_G16 52 && xmemP xgF_G16 48 4) = true := by decide +kernel
theorem zgw1_G17 : zAW.all (fun i => xmemN xgA_G17 i) = true := by decide +kernel
theorem zgw2_G17 : zFW.all (fun p => xmemP xgF_G17 p.1 p.2) = true := by decide +kernel
theorem zgw3_G17 : (xmemN xgA_G17 51 && xmemN xgA_G17 52 && xmemP xgF_G17 48 4) = true := by decide +kernel
theorem zgw1_G33 : zAW.all (fun i => xmemN xgA_G33 i) = true := by decide +kernel
theorem zgw2_G33 : zFW.all (fun p => xmemP xgF_G33 p.1 p.2) = true := by decide +kernel
theorem zgw3_G33 : (xmemN xgA_G33 51 && xmemN xgA_G33 52 && xmemP xgF_G33 48 4) = true := by decide +kernel
theorem zgw1_G35 : zAW.all (fun i => xmemN xgA_G35 i) = true := by decide +kernel
theorem zgw2_G35 : zFW.all (fun p => xmemP xgF_G35 p.1 p.2) = true := by decide +kernel
theorem zgw3_G35 : (xmemN xgA_G35 51 && xmemN xgA_G35 52 && xmemP xgF_G35 48 4) = true := by decide +kernel
theorem zgw1_G36 : zAW.all (fun i => xmemN xgA_G36 i) = true := by decide +kernel
theorem zgw2_G36 : zFW.all (fun p => xmemP xgF_G36 p.1 p.2) = true := by decide +kernel
theorem zgw3_G36 : (xmemN xgA_G36 51 && xmemN xgA_G36 52 && xmemP xgF_G36 48 4) = true := by decide +kernel
theorem zgw1_G39 : zAW.all (fun i => xmemN xgA_G39 i) = true := by decide +kernel
theorem zgw2_G39 : zFW.all (fun p => xmemP xgF_G39 p.1 p.2) = true := by decide +kernel
theorem zgw3_G39 : (xmemN xgA_G39 51 && xmemN xgA_G39 52 && xmemP xgF_G39 48 4) = true := by decide +kernel
theorem zgw1_G42 : zAW.all (fun i => xmemN xgA_G42 i) = true := by decide +kernel
theorem zgw2_G42 : zFW.all (fun p => xmemP xgF_G42 p.1 p.2) = true := by decide +kernel
theorem zgw3_G42 : (xmemN xgA_G42 51 && xmemN xgA_G42 52 && xmemP xgF_G42 48 4) = true := by decide +kernel
theorem zgw1_G44 : zAW.all (fun i => xmemN xgA_G44 i) = true := by decide +kernel
theorem zgw2_G44 : zFW.all (fun p => xmemP xgF_G44 p.1 p.2) = true := by decide +kernel
theorem zgw3_G44 : (xmemN xgA_G44 51 && xmemN xgA_G44 52 && xmemP xgF_G44 48 4) = true := by decide +kernel
theorem zgw1_G46 : zAW.all (fun i => xmemN xgA_G46 i) = true := by decide +kernel
theorem zgw2_G46 : zFW.all (fun p => xmemP xgF_G46 p.1 p.2) = true := by decide +kernel
theorem zgw3_G46 : (xmemN xgA_G46 51 && xmemN xgA_G46 52 && xmemP xgF_G46 48 4) = true := by decide +kernel
theorem zgw1_G47 : zAW.all (fun i => xmemN xgA_G47 i) = true := by decide +kernel
theorem zgw2_G47 : zFW.all (fun p => xmemP xgF_G47 p.1 p.2) = true := by decide +kernel
theorem zgw3_G47 : (xmemN xgA_G47 51 && xmemN xgA_G47 52 && xmemP xgF_G47 48 4) = true := by decide +kernel
theorem zgw1_G49 : zAW.all (fun i => xmemN xgA_G49 i) = true := by decide +kernel
theorem zgw2_G49 : zFW.all (fun p => xmemP xgF_G49 p.1 p.2) = true := by decide +kernel
theorem zgw3_G49 : (xmemN xgA_G49 51 && xmemN xgA_G49 52 && xmemP xgF_G49 48 4) = true := by decide +kernel
theorem zgw1_G51 : zAW.all (fun i => xmemN xgA_G51 i) = true := by decide +kernel
theorem zgw2_G51 : zFW.all (fun p => xmemP xgF_G51 p.1 p.2) = true := by decide +kernel
theorem zgw3_G51 : (xmemN xgA_G51 51 && xmemN xgA_G51 52 && xmemP xgF_G51 48 4) = true := by decide +kernel
theorem yz1_F (m : Int) (p : pm_H) (f : xhF xX m p [(4097, .inl (Int.ofNat 0, Int.ofNat 0))]) : yz1 p := by
  obtain ⟨x, g1, g2, g3⟩ := xhF_getA (a := 1) (c := 1) f (List.Mem.head _) rfl rfl
  obtain rfl := xint0 g2 g3
  exact g1
theorem xrk_sheet {x y z w : Int32} : xRk xLE (fun _ => True) 131 [.int x, .int y, .int z, .int w] kI := xRwr xLE_G39 xLE_G19 zgw1_G39 zgw2_G39 zgw3_G39 (fun h hC => xn_131_0 h) (by decide) (fun _ => ⟨xaRi rfl (by decide), xaT, xaT, xaT, xaT, trivial⟩) (fun _ _ h => yri h) (fun _ _ _ => trivial)
theorem xrk_hours {x : Int32} : xRk xLE (fun _ => True) 133 [.int x] kI := xRwr xLE_G42 xLE_G19 zgw1_G42 zgw2_G42 zgw3_G42 (fun h hC => xn_133_0 h hC) (by decide) (fun _ => ⟨xaRi rfl (by decide), xaT, trivial⟩) (fun _ _ h => yri h) (fun _ _ _ => trivial)
theorem xrk_faces {x y : Int32} : xRk xLE (fun _ => True) 134 [.int x, .int y] kI := xRwr xLE_G44 xLE_G19 zgw1_G44 zgw2_G44 zgw3_G44 (fun h hC => xn_134_0 h) (by decide) (fun _ => ⟨xaRi rfl (by decide), xaT, xaT, trivial⟩) (fun _ _ h => yri h) (fun _ _ _ => trivial)
theorem xrk_steps {x y : Int32} : xRk xLE (fun _ => True) 135 [.int x, .int y] kI := xRwr xLE_G46 xLE_G19 zgw1_G46 zgw2_G46 zgw3_G46 (fun h hC => xn_135_0 h) (by decide) (fun _ => ⟨xaRi rfl (by decide), xaT, xaT, trivial⟩) (fun _ _ h => yri h) (fun _ _ _ => trivial)
theorem xrk_trims {x y : Int32} : xRk xLE (fun _ => True) 136 [.int x, .int y] kI := xRwr xLE_G47 xLE_G19 zgw1_G47 zgw2_G47 zgw3_G47 (fun h hC => xn_136_0 h) (by decide) (fun _ => ⟨xaRi rfl (by decide), xaT, xaT, trivial⟩) (fun _ _ h => yri h) (fun _ _ _ => trivial)
theorem xrk_puts {x y : Int32} : xRk xLE (fun _ => True) 137 [.int x, .int y] kI := xRwr xLE_G49 xLE_G19 zgw1_G49 zgw2_G49 zgw3_G49 (fun h hC => xn_137_0 h) (by decide) (fun _ => ⟨xaRi rfl (by decide), xaT, xaT, trivial⟩) (fun _ _ h => yri h) (fun _ _ _ => trivial)
theorem xrk_undo : xRk xLE (fun _ => True) 139 [] kI := xRwr xLE_G13 xLE_G19 zgw1_G13 zgw2_G13 zgw3_G13 (fun h hC => xn_139_0 h) (by decide) (fun _ => ⟨xaRi rfl (by decide), trivial⟩) (fun _ _ h => yri h) (fun _ _ _ => trivial)
theorem xrk_heard {x y : Int32} : xRk xLE (fun _ => True) 166 [.int x, .int y] kI := xRwr xLE_G33 xLE_G19 zgw1_G33 zgw2_G33 zgw3_G33 (fun h hC => xn_166_0 h hC) (by decide) (fun _ => ⟨xaRi rfl (by decide), xaT, xaT, trivial⟩) (fun _ _ h => yri h) (fun _ _ _ => trivial)
theorem xrk_forget : xRk xLE (fun _ => True) 167 [] kI := xRwr xLE_G33 xLE_G19 zgw1_G33 zgw2_G33 zgw3_G33 (fun h hC => xn_167_0 h) (by decide) (fun _ => ⟨xaRi rfl (by decide), trivial⟩) (fun _ _ h => yri h) (fun _ _ _ => trivial)
theorem xrk_again {x : Int32} : xRk xLE (fun _ => True) 178 [.int x] kI := xRwr xLE_G17 xLE_G19 zgw1_G17 zgw2_G17 zgw3_G17 (fun h hC => xn_178_0 h) (by decide) (fun _ => ⟨xaRi rfl (by decide), xaT, trivial⟩) (fun _ _ h => yri h) (fun _ _ _ => trivial)
theorem xrk_keep {x : Int32} : xRk xLE (fun _ => True) 177 [.int x] kI := xRwr xLE_G16 xLE_G19 zgw1_G16 zgw2_G16 zgw3_G16 (fun h hC => xn_177_0 h) (by decide) (fun _ => ⟨xaRi rfl (by decide), xaT, trivial⟩) (fun _ _ h => yri h) (fun _ _ _ => trivial)
theorem xVI_G35 (n : Nat) : xHE xX xgA_G35 xgF_G35 (xVI n) := xVI_G (by decide +kernel) (by decide +kernel) n
theorem xrk_people : xRk xVI yz1 125 [] kI := xRwr xVI_G35 xVI_G19 zgw1_G35 zgw2_G35 zgw3_G35 (fun h hC => xn_125_0 h) (by decide) (fun _ => ⟨xaRi rfl (by decide), trivial⟩) (fun _ _ h => yri h) yz1_F
theorem xVI_G36 (n : Nat) : xHE xX xgA_G36 xgF_G36 (xVI n) := xVI_G (by decide +kernel) (by decide +kernel) n
theorem xrk_things : xRk xVI yz1 126 [] kI := xRwr xVI_G36 xVI_G19 zgw1_G36 zgw2_G36 zgw3_G36 (fun h hC => xn_126_0 h) (by decide) (fun _ => ⟨xaRi rfl (by decide), trivial⟩) (fun _ _ h => yri h) yz1_F
theorem xVI_G51 (n : Nat) : xHE xX xgA_G51 xgF_G51 (xVI n) := xVI_G (by decide +kernel) (by decide +kernel) n
theorem xrk_day : xRk xVI yz1 138 [] kI := xRwr xVI_G51 xVI_G19 zgw1_G51 zgw2_G51 zgw3_G51 (fun h hC => xn_138_0 h hC) (by decide) (fun _ => ⟨xaRi rfl (by decide), trivial⟩) (fun _ _ h => yri h) yz1_F
theorem xrs_facesE {x y : Int32} : xRs 134 249 [.int x, .int y] (fun a b => kI a ∧ a = b) := fun n hn ph ⟨hP, z, hR⟩ => by
  obtain ⟨v1, p1, a1, q1, b1, c1, e1, d1, -⟩ := xrk_faces n hn z ph hP hR.1 hR.2.2.1.1 hR.2.2.1.2
  obtain ⟨⟨R, C, rk, sn, sk⟩, ⟨cn, cd, cm, cdm⟩, ⟨F, F2, P, G, nx, u, fl, hn, ch⟩, ⟨v, w, sv, svm⟩, kp, kc⟩ := z
  obtain ⟨hLE, hpp, ⟨⟨hK, hX⟩, hcc⟩, hM, hMe⟩ := hR
  have hpq := hpp
  obtain ⟨zq, zF, zk, zch, ⟨zO, z40⟩, zw, zs⟩ := hpq
  have hS := zSh_of hP hX.2.2.2.2
  have hP8 := hK.2.1.2.1
  have hu15 := hK.2.2.1.2.2.2.1
  have eL : zEQ tL ph p1 := zEQ_m (fun _ _ t => Or.inl t) e1
  have eM : zEQ tM ph p1 := zEQ_m (fun _ _ t => Or.inr (Or.inr (Or.inr (Or.inl t)))) e1
  have hX1 := zXc_Q b1 eL (zEQ_m (fun _ _ t => Or.inr (Or.inl t)) e1) (zEQ_m (fun _ _ t => Or.inr (Or.inr (Or.inl t))) e1) hX
  have hM1 := zKM_Q eM hM
  have hMe1 := zMe_Q eM hMe
  have hS1 := zSh_of b1 hX1.2.2.2.2
  replace d1 : zCc p1 R C rk := d1
  have W1 := zc_faces hS hK zO (x := x) (y := y) 600 _ a1
  obtain ⟨v2, p2, a2, r, rfl, b2, c2, i2, t2, k2⟩ := xw_faces (n := n) (p := x) (q := y) (R := fun p => xtie p ∧ xSame xX zAC zFC p1 p) (xHE_and xHE_tie zRC_VR) (xLm_le (n := n + 1) (by omega)) xLm_0 (D := 600) (by decide) (xshift b1 (by decide)) c1.1.1 c1.2 ⟨c1.1.2, xSame_rf⟩
  have hLE2 : xLE (n + 1) p2 := ⟨⟨c2, t2⟩, xINV_le (Nat.le_succ n) i2⟩
  have e2 := zEQ_C b1 b2 k2
  have W2 := zm_faces hS1 hM1 zO (x := x) (y := y) 600 _ a2
  rcases W1 with ⟨g1, e3, K1⟩ | ⟨p, f, g1, g2, g3, g4, e3, nx1, K1⟩
  · rcases W2 with ⟨g5, e4, K2⟩ | ⟨p', f', g5, g6, g7, g8, e4, K2⟩
    · exact ⟨v1, .int r, p1, p2, ⟨xat0 hP, xat170 b1⟩, a1, a2, ⟨q1, (Option.some.inj e3).trans (Option.some.inj e4).symm⟩, xRI_fin b2 b1 hLE2 (zPP_le hpp) e2 K1 hX1 d1 K2 hMe1.2.1 hMe1.2.2⟩
    · have := zn_int g5 (by omega)
      have := zn_int g6 (by omega)
      omega
  · have h1 := zn_int g1 (by omega)
    have h2 := zn_int g2 (by omega)
    rcases W2 with ⟨g5, e4, K2⟩ | ⟨p', f', g5, g6, g7, g8, e4, K2⟩
    · omega
    · obtain rfl := zn_two g1 g5 (by omega) (by omega)
      obtain rfl := zn_two g2 g6 (by omega) (by omega)
      have z40' : (znu v (8 + p) f) 40 ≤ 540 * (n + 1) := by
        rw [znu_n (show (40 : Nat) ≠ 8 + p by omega)]
        omega
      exact ⟨v1, .int r, p1, p2, ⟨xat0 hP, xat170 b1⟩, a1, a2, ⟨q1, (Option.some.inj e3).trans (Option.some.inj e4).symm⟩, xRI_fin b2 b1 hLE2 (zPP_push (nx' := nx1) hpp hu15 (zOk_u zO (i := 8 + p) (x := f) (by omega) (by omega) (by omega) (by omega) (by omega) (by omega) hP8) z40') e2 K1 hX1 d1 K2 hMe1.2.1 hMe1.2.2⟩
theorem xrs_trimsE {x y : Int32} : xRs 136 251 [.int x, .int y] (fun a b => kI a ∧ a = b) := fun n hn ph ⟨hP, z, hR⟩ => by
  obtain ⟨v1, p1, a1, q1, b1, c1, e1, d1, -⟩ := xrk_trims n hn z ph hP hR.1 hR.2.2.1.1 hR.2.2.1.2
  obtain ⟨⟨R, C, rk, sn, sk⟩, ⟨cn, cd, cm, cdm⟩, ⟨F, F2, P, G, nx, u, fl, hn, ch⟩, ⟨v, w, sv, svm⟩, kp, kc⟩ := z
  obtain ⟨hLE, hpp, ⟨⟨hK, hX⟩, hcc⟩, hM, hMe⟩ := hR
  have hpq := hpp
  obtain ⟨zq, zF, zk, zch, ⟨zO, z40⟩, zw, zs⟩ := hpq
  have hS := zSh_of hP hX.2.2.2.2
  have hP8 := hK.2.1.2.1
  have hu15 := hK.2.2.1.2.2.2.1
  have eL : zEQ tL ph p1 := zEQ_m (fun _ _ t => Or.inl t) e1
  have eM : zEQ tM ph p1 := zEQ_m (fun _ _ t => Or.inr (Or.inr (Or.inr (Or.inl t)))) e1
  have hX1 := zXc_Q b1 eL (zEQ_m (fun _ _ t => Or.inr (Or.inl t)) e1) (zEQ_m (fun _ _ t => Or.inr (Or.inr (Or.inl t))) e1) hX
  have hM1 := zKM_Q eM hM
  have hMe1 := zMe_Q eM hMe
  have hS1 := zSh_of b1 hX1.2.2.2.2
  replace d1 : zCc p1 R C rk := d1
  have W1 := zc_trims hS hK zO (x := x) (y := y) 600 _ a1
  obtain ⟨v2, p2, a2, r, rfl, b2, c2, i2, t2, k2⟩ := xw_trims (n := n) (p := x) (q := y) (R := fun p => xtie p ∧ xSame xX zAC zFC p1 p) (xHE_and xHE_tie zRC_VR) (xLm_le (n := n + 1) (by omega)) xLm_0 (D := 600) (by decide) (xshift b1 (by decide)) c1.1.1 c1.2 ⟨c1.1.2, xSame_rf⟩
  have hLE2 : xLE (n + 1) p2 := ⟨⟨c2, t2⟩, xINV_le (Nat.le_succ n) i2⟩
  have e2 := zEQ_C b1 b2 k2
  have W2 := zm_trims hS1 hM1 zO (x := x) (y := y) 600 _ a2
  rcases W1 with ⟨g1, e3, K1⟩ | ⟨p, f, g1, g2, g3, g4, e3, nx1, K1⟩
  · rcases W2 with ⟨g5, e4, K2⟩ | ⟨p', f', g5, g6, g7, g8, e4, K2⟩
    · exact ⟨v1, .int r, p1, p2, ⟨xat0 hP, xat170 b1⟩, a1, a2, ⟨q1, (Option.some.inj e3).trans (Option.some.inj e4).symm⟩, xRI_fin b2 b1 hLE2 (zPP_le hpp) e2 K1 hX1 d1 K2 hMe1.2.1 hMe1.2.2⟩
    · have := zn_int g5 (by omega)
      have := zn_int g6 (by omega)
      omega
  · have h1 := zn_int g1 (by omega)
    have h2 := zn_int g2 (by omega)
    rcases W2 with ⟨g5, e4, K2⟩ | ⟨p', f', g5, g6, g7, g8, e4, K2⟩
    · omega
    · obtain rfl := zn_two g1 g5 (by omega) (by omega)
      obtain rfl := zn_two g2 g6 (by omega) (by omega)
      have z40' : (znu v (16 + p) f) 40 ≤ 540 * (n + 1) := by
        rw [znu_n (show (40 : Nat) ≠ 16 + p by omega)]
        omega
      exact ⟨v1, .int r, p1, p2, ⟨xat0 hP, xat170 b1⟩, a1, a2, ⟨q1, (Option.some.inj e3).trans (Option.some.inj e4).symm⟩, xRI_fin b2 b1 hLE2 (zPP_push (nx' := nx1) hpp hu15 (zOk_u zO (i := 16 + p) (x := f) (by omega) (by omega) (by omega) (by omega) (by omega) (by omega) hP8) z40') e2 K1 hX1 d1 K2 hMe1.2.1 hMe1.2.2⟩
theorem xrs_stepsE {x y : Int32} : xRs 135 250 [.int x, .int y] (fun a b => kI a ∧ a = b) := fun n hn ph ⟨hP, z, hR⟩ => by
  obtain ⟨v1, p1, a1, q1, b1, c1, e1, d1, -⟩ := xrk_steps n hn z ph hP hR.1 hR.2.2.1.1 hR.2.2.1.2
  obtain ⟨⟨R, C, rk, sn, sk⟩, ⟨cn, cd, cm, cdm⟩, ⟨F, F2, P, G, nx, u, fl, hn, ch⟩, ⟨v, w, sv, svm⟩, kp, kc⟩ := z
  obtain ⟨hLE, hpp, ⟨⟨hK, hX⟩, hcc⟩, hM, hMe⟩ := hR
  have hpq := hpp
  obtain ⟨zq, zF, zk, zch, ⟨zO, z40⟩, zw, zs⟩ := hpq
  have hS := zSh_of hP hX.2.2.2.2
  have hP8 := hK.2.1.2.1
  have hu15 := hK.2.2.1.2.2.2.1
  have eL : zEQ tL ph p1 := zEQ_m (fun _ _ t => Or.inl t) e1
  have eM : zEQ tM ph p1 := zEQ_m (fun _ _ t => Or.inr (Or.inr (Or.inr (Or.inl t)))) e1
  have hX1 := zXc_Q b1 eL (zEQ_m (fun _ _ t => Or.inr (Or.inl t)) e1) (zEQ_m (fun _ _ t => Or.inr (Or.inr (Or.inl t))) e1) hX
  have hM1 := zKM_Q eM hM
  have hMe1 := zMe_Q eM hMe
  have hS1 := zSh_of b1 hX1.2.2.2.2
  replace d1 : zCc p1 R C rk := d1
  have W1 := zc_steps hS hK zO (x := x) (y := y) 600 _ a1
  obtain ⟨v2, p2, a2, r, rfl, b2, c2, i2, t2, k2⟩ := xw_steps (n := n) (p := x) (q := y) (R := fun p => xtie p ∧ xSame xX zAC zFC p1 p) (xHE_and xHE_tie zRC_VR) (xLm_le (n := n + 1) (by omega)) xLm_0 (D := 600) (by decide) (xshift b1 (by decide)) c1.1.1 c1.2 ⟨c1.1.2, xSame_rf⟩
  have hLE2 : xLE (n + 1) p2 := ⟨⟨c2, t2⟩, xINV_le (Nat.le_succ n) i2⟩
  have e2 := zEQ_C b1 b2 k2
  have W2 := zm_steps hS1 hM1 zO (x := x) (y := y) 600 _ a2
  rcases W1 with ⟨g1, e3, K1⟩ | ⟨p, f, g1, g2, g3, g4, g9, e3, K1⟩ | ⟨p, f, g1, g2, g3, g4, g, gl, g9, e3, nx1, K1⟩
  · rcases W2 with ⟨g5, e4, K2⟩ | ⟨p', f', g5, g6, g7, g8, -⟩ | ⟨p', f', g5, g6, g7, g8, -⟩
    · exact ⟨v1, .int r, p1, p2, ⟨xat0 hP, xat170 b1⟩, a1, a2, ⟨q1, (Option.some.inj e3).trans (Option.some.inj e4).symm⟩, xRI_fin b2 b1 hLE2 (zPP_le hpp) e2 K1 hX1 d1 K2 hMe1.2.1 hMe1.2.2⟩
    · have := zn_int g5 (by omega)
      have := zn_int g6 (by omega)
      omega
    · have := zn_int g5 (by omega)
      have := zn_int g6 (by omega)
      omega
  · have h1 := zn_int g1 (by omega)
    have h2 := zn_int g2 (by omega)
    rcases W2 with ⟨g5, e4, K2⟩ | ⟨p', f', g5, g6, g7, g8, g10, e4, K2⟩ | ⟨p', f', g5, g6, g7, g8, g', gl', g10, e4, K2⟩
    · omega
    · exact ⟨v1, .int r, p1, p2, ⟨xat0 hP, xat170 b1⟩, a1, a2, ⟨q1, (Option.some.inj e3).trans (Option.some.inj e4).symm⟩, xRI_fin b2 b1 hLE2 (zPP_le hpp) e2 K1 hX1 d1 K2 hMe1.2.1 hMe1.2.2⟩
    · obtain rfl := zn_two g1 g5 (by omega) (by omega)
      obtain rfl := zn_two g2 g6 (by omega) (by omega)
      omega
  · have h1 := zn_int g1 (by omega)
    have h2 := zn_int g2 (by omega)
    rcases W2 with ⟨g5, e4, K2⟩ | ⟨p', f', g5, g6, g7, g8, g10, e4, K2⟩ | ⟨p', f', g5, g6, g7, g8, g', gl', g10, e4, K2⟩
    · omega
    · obtain rfl := zn_two g1 g5 (by omega) (by omega)
      obtain rfl := zn_two g2 g6 (by omega) (by omega)
      omega
    · obtain rfl := zn_two g1 g5 (by omega) (by omega)
      obtain rfl := zn_two g2 g6 (by omega) (by omega)
      obtain rfl : g = g' := by omega
      have e8 : 8 * (1 - 1) + p = p := by omega
      rw [e8] at K1
      have z40' : (znu v p g) 40 ≤ 540 * (n + 1) := by
        rw [znu_n (show (40 : Nat) ≠ p by omega)]
        omega
      exact ⟨v1, .int r, p1, p2, ⟨xat0 hP, xat170 b1⟩, a1, a2, ⟨q1, (Option.some.inj e3).trans (Option.some.inj e4).symm⟩, xRI_fin b2 b1 hLE2 (zPP_push (nx' := nx1) hpp hu15 (zOk_u zO (i := p) (x := g) (by omega) (fun _ => gl) (by omega) (by omega) (by omega) (fun _ => gl) hP8) z40') e2 K1 hX1 d1 K2 hMe1.2.1 hMe1.2.2⟩
theorem xrs_putsE {x y : Int32} : xRs 137 252 [.int x, .int y] (fun a b => kI a ∧ a = b) := fun n hn ph ⟨hP, z, hR⟩ => by
  obtain ⟨v1, p1, a1, q1, b1, c1, e1, d1, -⟩ := xrk_puts n hn z ph hP hR.1 hR.2.2.1.1 hR.2.2.1.2
  obtain ⟨⟨R, C, rk, sn, sk⟩, ⟨cn, cd, cm, cdm⟩, ⟨F, F2, P, G, nx, u, fl, hn, ch⟩, ⟨v, w, sv, svm⟩, kp, kc⟩ := z
  obtain ⟨hLE, hpp, ⟨⟨hK, hX⟩, hcc⟩, hM, hMe⟩ := hR
  have hpq := hpp
  obtain ⟨zq, zF, zk, zch, ⟨zO, z40⟩, zw, zs⟩ := hpq
  have hS := zSh_of hP hX.2.2.2.2
  have hP8 := hK.2.1.2.1
  have hu15 := hK.2.2.1.2.2.2.1
  have eL : zEQ tL ph p1 := zEQ_m (fun _ _ t => Or.inl t) e1
  have eM : zEQ tM ph p1 := zEQ_m (fun _ _ t => Or.inr (Or.inr (Or.inr (Or.inl t)))) e1
  have hX1 := zXc_Q b1 eL (zEQ_m (fun _ _ t => Or.inr (Or.inl t)) e1) (zEQ_m (fun _ _ t => Or.inr (Or.inr (Or.inl t))) e1) hX
  have hM1 := zKM_Q eM hM
  have hMe1 := zMe_Q eM hMe
  have hS1 := zSh_of b1 hX1.2.2.2.2
  replace d1 : zCc p1 R C rk := d1
  have hG8 := hK.2.1.2.2.2.1
  have hR49 : R * C ≤ 49 := zRC49 hM.1.2.2.2.2.1 hM.1.2.2.2.2.2.2
  have W1 := zc_puts hS hK zO (x := x) (y := y) 600 _ a1
  obtain ⟨v2, p2, a2, r, rfl, b2, c2, i2, t2, k2⟩ := xw_puts (n := n) (p := x) (q := y) (R := fun p => xtie p ∧ xSame xX zAC zFC p1 p) (xHE_and xHE_tie zRC_VR) (xLm_le (n := n + 1) (by omega)) xLm_0 (D := 600) (by decide) (xshift b1 (by decide)) c1.1.1 c1.2 ⟨c1.1.2, xSame_rf⟩
  have hLE2 : xLE (n + 1) p2 := ⟨⟨c2, t2⟩, xINV_le (Nat.le_succ n) i2⟩
  have e2 := zEQ_C b1 b2 k2
  have W2 := zm_puts hS1 hM1 zO (x := x) (y := y) 600 _ a2
  rcases W1 with ⟨g1, e3, K1⟩ | ⟨p, f, g1, g2, g3, g4, g9, e3, K1⟩ | ⟨p, f, g1, g2, g3, g4, g9, e3, nx1, K1⟩
  · rcases W2 with ⟨g5, e4, K2⟩ | ⟨p', f', g5, g6, g7, g8, -⟩ | ⟨p', f', g5, g6, g7, g8, -⟩
    · exact ⟨v1, .int r, p1, p2, ⟨xat0 hP, xat170 b1⟩, a1, a2, ⟨q1, (Option.some.inj e3).trans (Option.some.inj e4).symm⟩, xRI_fin b2 b1 hLE2 (zPP_le hpp) e2 K1 hX1 d1 K2 hMe1.2.1 hMe1.2.2⟩
    · have := zn_int g5 (by omega)
      have := zn_int g6 (by omega)
      omega
    · have := zn_int g5 (by omega)
      have := zn_int g6 (by omega)
      omega
  · have h1 := zn_int g1 (by omega)
    have h2 := zn_int g2 (by omega)
    rcases W2 with ⟨g5, e4, K2⟩ | ⟨p', f', g5, g6, g7, g8, g10, e4, K2⟩ | ⟨p', f', g5, g6, g7, g8, g10, e4, K2⟩
    · omega
    · exact ⟨v1, .int r, p1, p2, ⟨xat0 hP, xat170 b1⟩, a1, a2, ⟨q1, (Option.some.inj e3).trans (Option.some.inj e4).symm⟩, xRI_fin b2 b1 hLE2 (zPP_le hpp) e2 K1 hX1 d1 K2 hMe1.2.1 hMe1.2.2⟩
    · obtain rfl := zn_two g1 g5 (by omega) (by omega)
      obtain rfl := zn_two g2 g6 (by omega) (by omega)
      exact absurd g9 g10
  · have h1 := zn_int g1 (by omega)
    have h2 := zn_int g2 (by omega)
    rcases W2 with ⟨g5, e4, K2⟩ | ⟨p', f', g5, g6, g7, g8, g10, e4, K2⟩ | ⟨p', f', g5, g6, g7, g8, g10, e4, K2⟩
    · omega
    · obtain rfl := zn_two g1 g5 (by omega) (by omega)
      obtain rfl := zn_two g2 g6 (by omega) (by omega)
      exact absurd g10 g9
    · obtain rfl := zn_two g1 g5 (by omega) (by omega)
      obtain rfl := zn_two g2 g6 (by omega) (by omega)
      have z40' : (znu v (32 + p) f) 40 ≤ 540 * (n + 1) := by
        rw [znu_n (show (40 : Nat) ≠ 32 + p by omega)]
        omega
      exact ⟨v1, .int r, p1, p2, ⟨xat0 hP, xat170 b1⟩, a1, a2, ⟨q1, (Option.some.inj e3).trans (Option.some.inj e4).symm⟩, xRI_fin b2 b1 hLE2 (zPP_push (nx' := nx1) hpp hu15 (zOk_u zO (i := 32 + p) (x := f) (by omega) (by omega) (by omega) (by omega) (by omega) (fun _ => g4) hP8) z40') e2 K1 hX1 d1 K2 hMe1.2.1 hMe1.2.2⟩
theorem xrs_undoE : xRs 139 241 [] (fun a b => kI a ∧ a = b) := fun n hn ph ⟨hP, z, hR⟩ => by
  obtain ⟨v1, p1, a1, q1, b1, c1, e1, d1, -⟩ := xrk_undo n hn z ph hP hR.1 hR.2.2.1.1 hR.2.2.1.2
  obtain ⟨⟨R, C, rk, sn, sk⟩, ⟨cn, cd, cm, cdm⟩, ⟨F, F2, P, G, nx, u, fl, hn, ch⟩, ⟨v, w, sv, svm⟩, kp, kc⟩ := z
  obtain ⟨hLE, hpp, ⟨⟨hK, hX⟩, hcc⟩, hM, hMe⟩ := hR
  have hpq := hpp
  obtain ⟨zq, zF, zk, zch, ⟨zO, z40⟩, zw, zs⟩ := hpq
  have hS := zSh_of hP hX.2.2.2.2
  have hP8 := hK.2.1.2.1
  have hu15 := hK.2.2.1.2.2.2.1
  have eL : zEQ tL ph p1 := zEQ_m (fun _ _ t => Or.inl t) e1
  have eM : zEQ tM ph p1 := zEQ_m (fun _ _ t => Or.inr (Or.inr (Or.inr (Or.inl t)))) e1
  have hX1 := zXc_Q b1 eL (zEQ_m (fun _ _ t => Or.inr (Or.inl t)) e1) (zEQ_m (fun _ _ t => Or.inr (Or.inr (Or.inl t))) e1) hX
  have hM1 := zKM_Q eM hM
  have hMe1 := zMe_Q eM hMe
  have hS1 := zSh_of b1 hX1.2.2.2.2
  replace d1 : zCc p1 R C rk := d1
  have W1 := zc_undo hS hK zO 600 _ a1
  obtain ⟨v2, p2, a2, r, rfl, b2, c2, i2, t2, k2⟩ := xundo (n := n) (R := fun p => xtie p ∧ xSame xX zAC zFC p1 p) (xHE_and xHE_tie zRC_VR) (xLm_le (n := n + 1) (by omega)) xLm_0 (D := 599) (xshift b1 (by decide)) c1.1.1 c1.2 ⟨c1.1.2, xSame_rf⟩
  have hLE2 : xLE (n + 1) p2 := ⟨⟨c2, t2⟩, xINV_le (Nat.le_succ n) i2⟩
  have e2 := zEQ_C b1 b2 k2
  have W2 := zm_undo hS1 hM1 zO 600 _ a2
  rcases W1 with ⟨g1, e3, K1⟩ | ⟨g1, e3, nx1, K1⟩
  · rcases W2 with ⟨g5, e4, K2⟩ | ⟨g5, e4, K2⟩
    · exact ⟨v1, .int r, p1, p2, ⟨xat0 hP, xat170 b1⟩, a1, a2, ⟨q1, (Option.some.inj e3).trans (Option.some.inj e4).symm⟩, xRI_fin b2 b1 hLE2 (zPP_le hpp) e2 K1 hX1 d1 K2 hMe1.2.1 hMe1.2.2⟩
    · omega
  · rcases W2 with ⟨g5, e4, K2⟩ | ⟨g5, e4, K2⟩
    · omega
    · exact ⟨v1, .int r, p1, p2, ⟨xat0 hP, xat170 b1⟩, a1, a2, ⟨q1, (Option.some.inj e3).trans (Option.some.inj e4).symm⟩, xRI_fin b2 b1 hLE2 (zPP_set (nx' := nx1) (u' := u - 1) hpp (by omega) (zw (u - 1) (by omega)).1 (by have := (zw (u - 1) (by omega)).2; omega)) e2 K1 hX1 d1 K2 hMe1.2.1 hMe1.2.2⟩
theorem xrs_againE {x : Int32} : xRs 178 297 [.int x] (fun a b => kI a ∧ a = b) := fun n hn ph ⟨hP, z, hR⟩ => by
  obtain ⟨v1, p1, a1, q1, b1, c1, e1, d1, -⟩ := xrk_again n hn z ph hP hR.1 hR.2.2.1.1 hR.2.2.1.2
  obtain ⟨⟨R, C, rk, sn, sk⟩, ⟨cn, cd, cm, cdm⟩, ⟨F, F2, P, G, nx, u, fl, hn, ch⟩, ⟨v, w, sv, svm⟩, kp, kc⟩ := z
  obtain ⟨hLE, hpp, ⟨⟨hK, hX⟩, hcc⟩, hM, hMe⟩ := hR
  have hpq := hpp
  obtain ⟨zq, zF, zk, zch, ⟨zO, z40⟩, zw, zs⟩ := hpq
  have hS := zSh_of hP hX.2.2.2.2
  have hP8 := hK.2.1.2.1
  have hu15 := hK.2.2.1.2.2.2.1
  have eL : zEQ tL ph p1 := zEQ_m (fun _ _ t => Or.inl t) e1
  have eM : zEQ tM ph p1 := zEQ_m (fun _ _ t => Or.inr (Or.inr (Or.inr (Or.inl t)))) e1
  have hX1 := zXc_Q b1 eL (zEQ_m (fun _ _ t => Or.inr (Or.inl t)) e1) (zEQ_m (fun _ _ t => Or.inr (Or.inr (Or.inl t))) e1) hX
  have hM1 := zKM_Q eM hM
  have hMe1 := zMe_Q eM hMe
  have hS1 := zSh_of b1 hX1.2.2.2.2
  replace d1 : zCc p1 R C rk := d1
  have W1 := zc_again hS hK zO (x := x) 600 _ a1
  obtain ⟨v2, p2, a2, r, rfl, b2, c2, i2, t2, k2⟩ := xagain (n := n) (y := x) (R := fun p => xtie p ∧ xSame xX zAC zFC p1 p) (xHE_and xHE_tie zRC_VR) (xLm_le (n := n + 1) (by omega)) xLm_0 (D := 600) (by decide) (xshift b1 (by decide)) c1.1.1 c1.2 ⟨c1.1.2, xSame_rf⟩
  have hLE2 : xLE (n + 1) p2 := ⟨⟨c2, t2⟩, xINV_le (Nat.le_succ n) i2⟩
  have e2 := zEQ_C b1 b2 k2
  have W2 := zm_again hS1 hM1 zO (x := x) 600 _ a2
  rcases W1 with ⟨g1, e3, K1⟩ | ⟨i, g1, g2, g3, e3, K1⟩
  · rcases W2 with ⟨g5, e4, K2⟩ | ⟨i, g5, g6, g7, g8, e4, K2⟩
    · exact ⟨v1, .int r, p1, p2, ⟨xat0 hP, xat170 b1⟩, a1, a2, ⟨q1, (Option.some.inj e3).trans (Option.some.inj e4).symm⟩, xRI_fin b2 b1 hLE2 (zPP_le hpp) e2 K1 hX1 d1 K2 hMe1.2.1 hMe1.2.2⟩
    · exfalso
      have h1 := (zk i g6).1
      rw [g7, g8, decide_eq_true rfl] at h1
      rcases g1 with g | g | g
      · omega
      · omega
      · rw [show x.toInt.toNat = i by omega, h1] at g
        cases g
  · rcases W2 with ⟨g5, e4, K2⟩ | ⟨i', g5, g6, g7, g8, e4, K2⟩
    · exfalso
      have h1 := (zk i g2).1
      rw [g3] at h1
      obtain ⟨h2, h3⟩ := Bool.and_eq_true_iff.mp h1.symm
      have h3 := of_decide_eq_true h3
      rw [show x.toInt.toNat = i by omega] at g5
      rcases g5 with g | g | g | g
      · omega
      · omega
      · rw [h2] at g
        cases g
      · exact g h3
    · obtain rfl : i = i' := by omega
      have es := (zk i g2).2 g3
      rw [← es] at K2
      exact ⟨v1, .int r, p1, p2, ⟨xat0 hP, xat170 b1⟩, a1, a2, ⟨q1, (Option.some.inj e3).trans (Option.some.inj e4).symm⟩, xRI_fin b2 b1 hLE2 (zPP_set (nx' := nx) (u' := 0) hpp (Nat.zero_le _) (zs i g2 g3).1 (by have := (zs i g2 g3).2; omega)) e2 K1 hX1 d1 K2 hMe1.2.1 hMe1.2.2⟩
theorem xrs_keepE {x : Int32} : xRs 177 296 [.int x] (fun a b => kI a ∧ a = b) := fun n hn ph ⟨hP, z, hR⟩ => by
  obtain ⟨v1, p1, a1, q1, b1, c1, e1, d1, -⟩ := xrk_keep n hn z ph hP hR.1 hR.2.2.1.1 hR.2.2.1.2
  obtain ⟨⟨R, C, rk, sn, sk⟩, ⟨cn, cd, cm, cdm⟩, ⟨F, F2, P, G, nx, u, fl, hn, ch⟩, ⟨v, w, sv, svm⟩, kp, kc⟩ := z
  obtain ⟨hLE, hpp, ⟨⟨hK, hX⟩, hcc⟩, hM, hMe⟩ := hR
  have hpq := hpp
  obtain ⟨zq, zF, zk, zch, ⟨zO, z40⟩, zw, zs⟩ := hpq
  have hS := zSh_of hP hX.2.2.2.2
  have hP8 := hK.2.1.2.1
  have hu15 := hK.2.2.1.2.2.2.1
  have eL : zEQ tL ph p1 := zEQ_m (fun _ _ t => Or.inl t) e1
  have eM : zEQ tM ph p1 := zEQ_m (fun _ _ t => Or.inr (Or.inr (Or.inr (Or.inl t)))) e1
  have hX1 := zXc_Q b1 eL (zEQ_m (fun _ _ t => Or.inr (Or.inl t)) e1) (zEQ_m (fun _ _ t => Or.inr (Or.inr (Or.inl t))) e1) hX
  have hM1 := zKM_Q eM hM
  have hMe1 := zMe_Q eM hMe
  have hS1 := zSh_of b1 hX1.2.2.2.2
  replace d1 : zCc p1 R C rk := d1
  have W1 := zc_keep hS hK zO (x := x) 600 _ a1
  obtain ⟨v2, p2, a2, r, rfl, b2, c2, i2, ⟨t2, k2⟩, -⟩ := xkeeps (n := n) (y := x) (R := fun p => xtie p ∧ xSame xX zAC zFC p1 p) (xHE_and xHE_tie zRC_VR) (xLm_le (n := n + 1) (by omega)) xLm_0 (D := 600) (by decide) (xshift b1 (by decide)) c1.1.1 c1.2 ⟨c1.1.2, xSame_rf⟩
  have hLE2 : xLE (n + 1) p2 := ⟨⟨c2, t2⟩, xINV_le (Nat.le_succ n) i2⟩
  have e2 := zEQ_C b1 b2 k2
  have W2 := zm_keep hS1 hM1 zO (x := x) 600 _ a2
  rcases W1 with ⟨g1, e3, K1⟩ | ⟨i, g1, g2, e3, K1⟩
  · rcases W2 with ⟨g5, e4, K2⟩ | ⟨i, g5, g6, e4, K2⟩
    · exact ⟨v1, .int r, p1, p2, ⟨xat0 hP, xat170 b1⟩, a1, a2, ⟨q1, (Option.some.inj e3).trans (Option.some.inj e4).symm⟩, xRI_fin b2 b1 hLE2 (zPP_le hpp) e2 K1 hX1 d1 K2 hMe1.2.1 hMe1.2.2⟩
    · omega
  · rcases W2 with ⟨g5, e4, K2⟩ | ⟨i', g5, g6, e4, K2⟩
    · omega
    · obtain rfl : i = i' := by omega
      have hfl := hK.2.2.2.1.2.1
      have hpk : zPP (n + 1) ((R, C, rk, sn, sk), (cn, cd, cm, cdm), (F, F2, P, G, nx, u, fl ||| 2 ^ i, hn, ch), (v, w, (fun j => if j = i then v else sv j), (fun j => if j = i then v else svm j)), ((fun j => if j = i then true else kp j), (fun j => if j = i then ch else kc j))) := by
        refine ⟨zq, zF, fun j hj => ?_, by omega, ⟨zO, by omega⟩, fun j hj => ⟨(zw j hj).1, by have := (zw j hj).2; omega⟩, fun j hj hb => ?_⟩
        · rw [ztb fl hfl i g2 j hj]
          by_cases e : j = i
          · subst e
            rw [decide_eq_true rfl]
            refine ⟨?_, fun _ => ?_⟩
            · show (true || fl.testBit j) = ((if j = j then true else kp j) && decide ((if j = j then ch else kc j) = ch))
              rw [if_pos rfl, if_pos rfl, decide_eq_true rfl]
              rfl
            · show (if j = j then v else sv j) = (if j = j then v else svm j)
              rw [if_pos rfl, if_pos rfl]
          · rw [decide_eq_false e]
            show (false || fl.testBit j) = ((if j = i then true else kp j) && decide ((if j = i then ch else kc j) = ch)) ∧ ((false || fl.testBit j) = true → (if j = i then v else sv j) = (if j = i then v else svm j))
            rw [if_neg e, if_neg e, if_neg e, if_neg e, Bool.false_or]
            exact zk j hj
        · rw [ztb fl hfl i g2 j hj] at hb
          show zOk R C P G (if j = i then v else sv j) ∧ (if j = i then v else sv j) 40 ≤ 540 * (n + 1)
          by_cases e : j = i
          · rw [if_pos e]
            exact ⟨zO, by omega⟩
          · rw [if_neg e]
            rw [decide_eq_false e, Bool.false_or] at hb
            exact ⟨(zs j hj hb).1, by have := (zs j hj hb).2; omega⟩
      exact ⟨v1, .int r, p1, p2, ⟨xat0 hP, xat170 b1⟩, a1, a2, ⟨q1, (Option.some.inj e3).trans (Option.some.inj e4).symm⟩, xRI_fin b2 b1 hLE2 (hpk) e2 K1 hX1 d1 K2 hMe1.2.1 hMe1.2.2⟩
theorem zsr_ok {R C P G : Nat} {v : Nat → Nat} {kd nn f st : Int32} (hP : P ≤ 8) (h : zOk R C P G v) : zOk R C P G (zsr v P kd nn f st) ∧ (zsr v P kd nn f st) 40 = v 40 := by
  unfold zsr
  split
  · exact ⟨h, rfl⟩
  · exact ⟨zsh_ok hP h, zsh_o (by omega)⟩
theorem xrs_sheetE {x y z w : Int32} : xRs 131 237 [.int x, .int y, .int z, .int w] (fun a b => kI a ∧ a = b) := fun n hn ph ⟨hP, z0, hR⟩ => by
  obtain ⟨v1, p1, a1, q1, b1, c1, e1, d1, -⟩ := xrk_sheet n hn z0 ph hP hR.1 hR.2.2.1.1 hR.2.2.1.2
  obtain ⟨⟨R, C, rk, sn, sk⟩, ⟨cn, cd, cm, cdm⟩, ⟨F, F2, P, G, nx, u, fl, hn, ch⟩, ⟨v, w9, sv, svm⟩, kp, kc⟩ := z0
  obtain ⟨hLE, hpp, ⟨⟨hK, hX⟩, hcc⟩, hM, hMe⟩ := hR
  have hpq := hpp
  obtain ⟨zq, zF, zk, zch, ⟨zO, z40⟩, zw, zs⟩ := hpq
  have hS := zSh_of hP hX.2.2.2.2
  have hP8 := hK.2.1.2.1
  have hu15 := hK.2.2.1.2.2.2.1
  have eL : zEQ tL ph p1 := zEQ_m (fun _ _ t => Or.inl t) e1
  have eM : zEQ tM ph p1 := zEQ_m (fun _ _ t => Or.inr (Or.inr (Or.inr (Or.inl t)))) e1
  have hX1 := zXc_Q b1 eL (zEQ_m (fun _ _ t => Or.inr (Or.inl t)) e1) (zEQ_m (fun _ _ t => Or.inr (Or.inr (Or.inl t))) e1) hX
  have hM1 := zKM_Q eM hM
  have hMe1 := zMe_Q eM hMe
  have hS1 := zSh_of b1 hX1.2.2.2.2
  replace d1 : zCc p1 R C rk := d1
  have W1 := zc_sheet hS hK zO (kd := x) (nn := y) (ff := z) (sp := w) 600 _ a1
  obtain ⟨v2, p2, a2, b2, c2, r2, -⟩ := xn_237_0 (E := fun p => xLE n p ∧ xSame xX zAC zFC p1 p) (xHE_and (xLE_G76 n) (xHE_sub (by decide +kernel) (by decide +kernel) xHE_slf)) 600 (by decide) (xLm (n + 1)) (xLm_le (by omega)) (by unfold xLm; omega) [.ref 170, .int x, .int y, .int z, .int w] p1 ⟨xaRi rfl (by decide), xaT, xaT, xaT, xaT, trivial⟩ (fun _ _ h => absurd h List.not_mem_nil) (xshift b1 (by decide)) ⟨c1, xSame_rf⟩
  obtain ⟨u2, rfl, r, rfl⟩ := yri r2
  have hLE2 : xLE (n + 1) p2 := xLE_le c2.1
  have e2 := zEQ_C b1 b2 c2.2
  have W2 := zm_sheet hS1 hM1 zO (kd := x) (nn := y) (ff := z) (sp := w) 600 _ a2
  obtain ⟨e3, K1⟩ := W1
  obtain ⟨e4, K2⟩ := W2
  have hz := zsr_ok (kd := x) (nn := y) (f := z) (st := w) hP8 zO
  exact ⟨v1, .int r, p1, p2, ⟨xat0 hP, xat170 b1⟩, a1, a2, ⟨q1, (Option.some.inj e3).trans (Option.some.inj e4).symm⟩, xRI_fin b2 b1 hLE2 (zPP_set (nx' := nx) (u' := u) hpp (Nat.le_refl _) hz.1 (by rw [hz.2]; omega)) e2 K1 hX1 d1 K2 hMe1.2.1 hMe1.2.2⟩
theorem xrs_forgetE : xRs 167 284 [] (fun a b => kI a ∧ a = b) := fun n hn ph ⟨hP, z, hR⟩ => by
  obtain ⟨v1, p1, a1, q1, b1, c1, e1, d1, -⟩ := xrk_forget n hn z ph hP hR.1 hR.2.2.1.1 hR.2.2.1.2
  obtain ⟨⟨R, C, rk, sn, sk⟩, ⟨cn, cd, cm, cdm⟩, ⟨F, F2, P, G, nx, u, fl, hn, ch⟩, ⟨v, w, sv, svm⟩, kp, kc⟩ := z
  obtain ⟨hLE, hpp, ⟨⟨hK, hX⟩, hcc⟩, hM, hMe⟩ := hR
  have hpq := hpp
  obtain ⟨zq, zF, zk, zch, ⟨zO, z40⟩, zw, zs⟩ := hpq
  have hS := zSh_of hP hX.2.2.2.2
  have hP8 := hK.2.1.2.1
  have hu15 := hK.2.2.1.2.2.2.1
  have eL : zEQ tL ph p1 := zEQ_m (fun _ _ t => Or.inl t) e1
  have eM : zEQ tM ph p1 := zEQ_m (fun _ _ t => Or.inr (Or.inr (Or.inr (Or.inl t)))) e1
  have hX1 := zXc_Q b1 eL (zEQ_m (fun _ _ t => Or.inr (Or.inl t)) e1) (zEQ_m (fun _ _ t => Or.inr (Or.inr (Or.inl t))) e1) hX
  have hM1 := zKM_Q eM hM
  have hMe1 := zMe_Q eM hMe
  have hS1 := zSh_of b1 hX1.2.2.2.2
  replace d1 : zCc p1 R C rk := d1
  have W1 := zc_forget hS hK zO 600 _ a1
  obtain ⟨v2, p2, a2, b2, c2, r2, -⟩ := xn_284_0 (E := fun p => xLE n p ∧ xSame xX zAC zFC p1 p) (xHE_and (xLE_G100 n) (xHE_sub (by decide +kernel) (by decide +kernel) xHE_slf)) 600 (by decide) (xLm (n + 1)) (xLm_le (by omega)) (by unfold xLm; omega) [.ref 170] p1 ⟨xaRi rfl (by decide), trivial⟩ (fun _ _ h => absurd h List.not_mem_nil) (xshift b1 (by decide)) ⟨c1, xSame_rf⟩
  obtain ⟨u2, rfl, r, rfl⟩ := yri r2
  have hLE2 : xLE (n + 1) p2 := xLE_le c2.1
  have e2 := zEQ_C b1 b2 c2.2
  have W2 := zm_forget hS1 hM1 zO 600 _ a2
  obtain ⟨e3, K1⟩ := W1
  obtain ⟨e4, K2⟩ := W2
  exact ⟨v1, .int r, p1, p2, ⟨xat0 hP, xat170 b1⟩, a1, a2, ⟨q1, (Option.some.inj e3).trans (Option.some.inj e4).symm⟩, xRI_fin b2 b1 hLE2 (zPP_hn (hn' := 0) hpp) e2 K1 hX1 d1 K2 hMe1.2.1 hMe1.2.2⟩
theorem xrs_heardE {x y : Int32} : xRs 166 283 [.int x, .int y] (fun a b => kI a ∧ a = b) := fun n hn ph ⟨hP, z, hR⟩ => by
  obtain ⟨v1, p1, a1, q1, b1, c1, e1, d1, -⟩ := xrk_heard n hn z ph hP hR.1 hR.2.2.1.1 hR.2.2.1.2
  obtain ⟨⟨R, C, rk, sn, sk⟩, ⟨cn, cd, cm, cdm⟩, ⟨F, F2, P, G, nx, u, fl, hn, ch⟩, ⟨v, w, sv, svm⟩, kp, kc⟩ := z
  obtain ⟨hLE, hpp, ⟨⟨hK, hX⟩, hcc⟩, hM, hMe⟩ := hR
  have hpq := hpp
  obtain ⟨zq, zF, zk, zch, ⟨zO, z40⟩, zw, zs⟩ := hpq
  have hS := zSh_of hP hX.2.2.2.2
  have hP8 := hK.2.1.2.1
  have hu15 := hK.2.2.1.2.2.2.1
  have eL : zEQ tL ph p1 := zEQ_m (fun _ _ t => Or.inl t) e1
  have eM : zEQ tM ph p1 := zEQ_m (fun _ _ t => Or.inr (Or.inr (Or.inr (Or.inl t)))) e1
  have hX1 := zXc_Q b1 eL (zEQ_m (fun _ _ t => Or.inr (Or.inl t)) e1) (zEQ_m (fun _ _ t => Or.inr (Or.inr (Or.inl t))) e1) hX
  have hM1 := zKM_Q eM hM
  have hMe1 := zMe_Q eM hMe
  have hS1 := zSh_of b1 hX1.2.2.2.2
  replace d1 : zCc p1 R C rk := d1
  have h13 : ∃ m, zc ph 0 13 = some (.long m) := by
    obtain ⟨fl9, hat, hfl⟩ := zxO_at hP (A := 0) (i := 31) rfl rfl
    obtain ⟨v9, hv9, x9, rfl⟩ := hfl 13 _ rfl
    refine ⟨x9, ?_⟩
    unfold zc
    rw [hat]
    exact hv9
  have W1 := zc_heard hS hK zO (x := x) (y := y) h13 (fun p hp => zM_imp (zc_viewOf hS hX.1 ⟨⟨by decide, zSs_of hS (by decide)⟩, hK.2.1⟩ zO hX.2.1 hcc hp) (fun v0 q h => ⟨h.1, _, h.2.2⟩)) 600 _ a1
  obtain ⟨v2, p2, a2, b2, c2, r2, -⟩ := xn_283_0 (E := fun p => xLE n p ∧ xSame xX zAC zFC p1 p) (xHE_and (xLE_G99 n) (xHE_sub (by decide +kernel) (by decide +kernel) xHE_slf)) 600 (by decide) (xLm (n + 1)) (xLm_le (by omega)) (by unfold xLm; omega) [.ref 170, .int x, .int y] p1 ⟨xaRi rfl (by decide), xaT, xaT, trivial⟩ (fun _ _ h => absurd h List.not_mem_nil) (xshift b1 (by decide)) ⟨c1, xSame_rf⟩
  obtain ⟨u2, rfl, r, rfl⟩ := yri r2
  have hLE2 : xLE (n + 1) p2 := xLE_le c2.1
  have e2 := zEQ_C b1 b2 c2.2
  have W2 := zm_heard hS1 hM1 zO (x := x) (y := y) 600 _ a2
  rcases W1 with ⟨g1, e3, K1⟩ | ⟨g1, g2, g3, g4, g5, e3, K1⟩
  · rcases W2 with ⟨g6, e4, K2⟩ | ⟨g6, g7, g8, g9, g10, e4, K2⟩
    · exact ⟨v1, .int r, p1, p2, ⟨xat0 hP, xat170 b1⟩, a1, a2, ⟨q1, (Option.some.inj e3).trans (Option.some.inj e4).symm⟩, xRI_fin b2 b1 hLE2 (zPP_le hpp) e2 K1 hX1 d1 K2 hMe1.2.1 hMe1.2.2⟩
    · omega
  · rcases W2 with ⟨g6, e4, K2⟩ | ⟨g6, g7, g8, g9, g10, e4, K2⟩
    · omega
    · exact ⟨v1, .int r, p1, p2, ⟨xat0 hP, xat170 b1⟩, a1, a2, ⟨q1, (Option.some.inj e3).trans (Option.some.inj e4).symm⟩, xRI_fin b2 b1 hLE2 (zPP_hn (hn' := hn + 1) hpp) e2 K1 hX1 d1 K2 hMe1.2.1 hMe1.2.2⟩

/-! the calls that change the relation, second half; printed by wip/rel/r4.py -/
/-- a DAY's acts are 30 at most -/
theorem zDo_30 {ln : Nat} {t : Nat → Nat} {ok : Bool} {a k : Nat} (h : zDo (min ln 60) t ok a k) : k ≤ 30 := by
  have h1 := zDp_ge h.1
  rcases h.2 with ⟨-, -, e⟩ | ⟨-, hb⟩
  · omega
  · have := hb.1
    omega
theorem zQ_goes {R C cn cm sn : Nat} {rk : Nat → Bool} {sk cd cdm : Nat → Nat} {P G N : Nat} {v : Nat → Nat} (h : zQe cn cd cm cdm) : zHqn (R, C, rk, sn, sk, cm, cdm) P G v N = zHqn (R, C, rk, sn, sk, cn, cd) P G v N := by rw [zQ_Hqn h]
theorem xrs_hoursE {x : Int32} : xRs 133 248 [.int x] (fun a b => kI a ∧ a = b) := fun n hn ph ⟨hP, z, hR⟩ => by
  obtain ⟨v1, p1, a1, q1, b1, c1, e1, d1, -⟩ := xrk_hours n hn z ph hP hR.1 hR.2.2.1.1 hR.2.2.1.2
  obtain ⟨⟨R, C, rk, sn, sk⟩, ⟨cn, cd, cm, cdm⟩, ⟨F, F2, P, G, nx, u, fl, hn, ch⟩, ⟨v, w, sv, svm⟩, kp, kc⟩ := z
  obtain ⟨hLE, hpp, ⟨⟨hK, hX⟩, hcc⟩, hM, hMe⟩ := hR
  have hpq := hpp
  obtain ⟨zq, zF, zk, zch, ⟨zO, z40⟩, zw, zs⟩ := hpq
  have hS := zSh_of hP hX.2.2.2.2
  have hP8 := hK.2.1.2.1
  have hu15 := hK.2.2.1.2.2.2.1
  have eL : zEQ tL ph p1 := zEQ_m (fun _ _ t => Or.inl t) e1
  have eM : zEQ tM ph p1 := zEQ_m (fun _ _ t => Or.inr (Or.inr (Or.inr (Or.inl t)))) e1
  have hX1 := zXc_Q b1 eL (zEQ_m (fun _ _ t => Or.inr (Or.inl t)) e1) (zEQ_m (fun _ _ t => Or.inr (Or.inr (Or.inl t))) e1) hX
  have hM1 := zKM_Q eM hM
  have hMe1 := zMe_Q eM hMe
  have hS1 := zSh_of b1 hX1.2.2.2.2
  replace d1 : zCc p1 R C rk := d1
  have hG8 := hK.2.1.2.2.2.1
  have W1 := zc_hours hS hK zO (x := x) (T := fun v2 y => v2 = zHqn (R, C, rk, sn, sk, cn, cd) P G v x.toInt.toNat ∧ y = zKw v2 P) (fun h0 h60 q fq => by
    have ex : x = zn x.toInt.toNat := zn_of (by omega)
    have eQ : ∀ a k, ¬ (31 ≤ a ∧ a ≤ 36) → zc q a k = zc ph a k := fun a k ha => fq.1 a k (by simp <;> omega) (by simp <;> omega)
    have hSq : zSh q := zSh_F fq (by decide +kernel) hS
    have hCq : zCe q (R, C, rk, sn, sk, cn, cd) F := zCe_Q hSq (fun a k t => eQ a k (by omega)) (fun a k t => eQ a k (by omega)) (fun a k t => eQ a k (by omega)) hX.1
    have hdq : zSd q 25 P G v := zSN_Q (fun a k t => eQ a k (by omega)) hK.2.1
    have h9 := zc_pass (S := 25) (N := x.toInt.toNat) hSq hCq ⟨⟨by decide, zSs_of hSq (by decide)⟩, hdq⟩ zO (Or.inl rfl) ((eQ 10 1 (by omega)).trans hX.2.1) (zCc_Q (fun a k t => eQ a k (by omega)) hcc) (by omega)
    rw [← ex] at h9
    refine zM_imp h9 (fun v0 q2 h => ⟨h.1, _, _, h.2.2.2, ?_, h.2.1.2, rfl, rfl⟩)
    obtain ⟨kk, k1, k2⟩ := zKw_b (v := zHqn (R, C, rk, sn, sk, cn, cd) P G v x.toInt.toNat) P hP8 (fun p hp => ((zHqn_ok zO hP8 hG8 _ (by omega)).1 p hp).2.2.2)
    rw [k2, znt (by omega)]
    omega) 600 _ a1
  obtain ⟨v2, p2, a2, r, rfl, b2, c2, i2, t2, k2⟩ := xw_hours (n := n) (p0 := x) (R := fun p => xtie p ∧ xSame xX zAC zFC p1 p) (xHE_and xHE_tie zRC_VR) (xLm_le (n := n + 1) (by omega)) xLm_0 (xLm_s (w := 99) (by decide)) (D := 600) (by decide) (xshift b1 (by decide)) c1.1.1 c1.2 ⟨c1.1.2, xSame_rf⟩
  have hLE2 : xLE (n + 1) p2 := ⟨⟨c2, t2⟩, xINV_le (Nat.le_succ n) i2⟩
  have e2 := zEQ_C b1 b2 k2
  have W2 := zm_hours hS1 hM1 zO (x := x) (T := fun v2 => v2 = zHqn (R, C, rk, sn, sk, cn, cd) P G v x.toInt.toNat) (fun h0 h60 q fq => by
    have eQ : ∀ a k, a ≠ 183 → ¬ (a = 170 ∧ k = 0) → zc q a k = zc p1 a k := fun a k h1 h2 => fq.1 a k (by simp <;> omega) (by simp <;> omega)
    have hSq : zSh q := zSh_F fq (by decide +kernel) hS1
    have hMq : zMl q R C rk := ⟨(eQ 170 3 (by omega) (by omega)).trans hM1.1.1, (eQ 170 4 (by omega) (by omega)).trans hM1.1.2.1, fun f hf => (eQ 172 f (by omega) (by omega)).trans (hM1.1.2.2.1 f hf), hM1.1.2.2.2⟩
    have hMeq : zMe q (R, C, rk, sn, sk, cm, cdm) := ⟨hMq, zMr_Q (fun a k t => eQ a k (by omega) (by omega)) hMe1.2.1, hMe1.2.2⟩
    have hNq : zMp q P G := ⟨(eQ 170 5 (by omega) (by omega)).trans hM1.2.1.1, hM1.2.1.2.1, (eQ 170 6 (by omega) (by omega)).trans hM1.2.1.2.2.1, hM1.2.1.2.2.2⟩
    have h9 := zm_goesOn (A := 174) (N := x.toInt.toNat) (y := x) hSq hMeq hNq (Or.inl rfl) (zNr_Q (fun k _ _ => eQ 174 k (by omega) (by omega)) hM1.2.2.1) zO (by omega) (by omega)
    refine zM_imp h9 (fun v0 q2 h => ⟨h.1, zFr_mono h.2.1 (by simp) (by simp), _, h.2.2, ?_, zQ_goes zq⟩)
    exact zHqn_ok zO hP8 hG8 _ (by omega)) 600 _ a2
  rcases W1 with ⟨g1, e3, K1⟩ | ⟨g1, g2, v9, y9, e3, ⟨rfl, rfl⟩, nx1, K1⟩
  · rcases W2 with ⟨g5, e4, K2⟩ | ⟨g5, g6, v9, e4, rfl, K2⟩
    · exact ⟨v1, .int r, p1, p2, ⟨xat0 hP, xat170 b1⟩, a1, a2, ⟨q1, (Option.some.inj e3).trans (Option.some.inj e4).symm⟩, xRI_fin b2 b1 hLE2 (zPP_le hpp) e2 K1 hX1 d1 K2 hMe1.2.1 hMe1.2.2⟩
    · omega
  · rcases W2 with ⟨g5, e4, K2⟩ | ⟨g5, g6, v9, e4, rfl, K2⟩
    · omega
    · have h40 := zHqn_40 (E := (R, C, rk, sn, sk, cn, cd)) (G := G) (v := v) hP8 x.toInt.toNat
      exact ⟨v1, .int r, p1, p2, ⟨xat0 hP, xat170 b1⟩, a1, a2, ⟨q1, (Option.some.inj e3).trans (Option.some.inj e4).symm⟩, xRI_fin b2 b1 hLE2 (zPP_push (nx' := nx1) hpp hu15 (zHqn_ok zO hP8 hG8 _ (by omega)) (by rw [h40]; omega)) e2 K1 hX1 d1 K2 hMe1.2.1 hMe1.2.2⟩
theorem zPv_40 {C P : Nat} {t v : Nat → Nat} : ∀ {k}, P + k ≤ 8 → (zPv C t P v k) 40 = v 40
  | 0, _ => rfl
  | k + 1, h => by
    show (zad (zPv C t P v k) (P + k) (zLf C t (5 * k)) (t (5 * k + 2) - 48) (t (5 * k + 3) - 48)) 40 = v 40
    rw [zad_o (by omega), zPv_40 (by omega)]
theorem zGv_40 {C G : Nat} {t v : Nat → Nat} : ∀ {k}, G + k ≤ 8 → (zGv C t G v k) 40 = v 40
  | 0, _ => rfl
  | k + 1, h => by
    show (znu (zGv C t G v k) (32 + (G + k)) (zLf C t (3 * k))) 40 = v 40
    rw [znu_n (by omega), zGv_40 (by omega)]
theorem zPP_new {n P' G' : Nat} {v' : Nat → Nat} {R C sn cn cm F F2 P G nx u fl hn ch : Nat} {rk kp : Nat → Bool} {sk cd cdm v kc : Nat → Nat} {w sv svm : Nat → Nat → Nat} (h : zPP n ((R, C, rk, sn, sk), (cn, cd, cm, cdm), (F, F2, P, G, nx, u, fl, hn, ch), (v, w, sv, svm), (kp, kc))) (hc : ∀ i, i < 3 → kc i ≤ ch) (hO : zOk R C P' G' v') (h40 : v' 40 ≤ 540 * (n + 1)) : zPP (n + 1) ((R, C, rk, sn, sk), (cn, cd, cm, cdm), (F, F2, P', G', nx, 0, 0, hn, (ch + 1)), (v', w, sv, svm), (kp, kc)) := by
  obtain ⟨h1, h2, h3, h4, h5, h6, h7⟩ := h
  refine ⟨h1, h2, fun i hi => ⟨?_, fun e => by rw [Nat.zero_testBit] at e; cases e⟩, by omega, ⟨hO, h40⟩, fun i hi => absurd hi (Nat.not_lt_zero i), fun i hi e => by rw [Nat.zero_testBit] at e; cases e⟩
  have := hc i hi
  rw [Nat.zero_testBit, decide_eq_false (show ¬ kc i = ch + 1 by omega), Bool.and_false]
theorem xrs_peopleE : xRs 125 208 [] (fun a b => kI a ∧ a = b) := fun n hn ph ⟨hP, z, hR⟩ => by
  obtain ⟨v1, p1, a1, q1, b1, c1, e1, d1, hy1⟩ := xrk_people n hn z ph hP ⟨hR.1.1.1, hR.1.2⟩ hR.2.2.1.1 hR.2.2.1.2
  obtain ⟨ln, t, hT, h14, h80, h176⟩ := zTX_of hP hR.1.1.2
  obtain ⟨⟨R, C, rk, sn, sk⟩, ⟨cn, cd, cm, cdm⟩, ⟨F, F2, P, G, nx, u, fl, hn, ch⟩, ⟨v, w, sv, svm⟩, kp, kc⟩ := z
  obtain ⟨hLE, hpp, ⟨⟨hK, hX⟩, hcc⟩, hM, hMe⟩ := hR
  have hpq := hpp
  obtain ⟨zq, zF, zk, zch, ⟨zO, z40⟩, zw, zs⟩ := hpq
  have hS := zSh_of hP hX.2.2.2.2
  have hP8 := hK.2.1.2.1
  have hG8 := hK.2.1.2.2.2.1
  have hu15 := hK.2.2.1.2.2.2.1
  have eL : zEQ tL ph p1 := zEQ_m (fun _ _ t => Or.inl t) e1
  have eM : zEQ tM ph p1 := zEQ_m (fun _ _ t => Or.inr (Or.inr (Or.inr (Or.inl t)))) e1
  have eT : zEQ tT ph p1 := zEQ_m (fun _ _ t => Or.inr (Or.inr (Or.inr (Or.inr t)))) e1
  have hX1 := zXc_Q b1 eL (zEQ_m (fun _ _ t => Or.inr (Or.inl t)) e1) (zEQ_m (fun _ _ t => Or.inr (Or.inr (Or.inl t))) e1) hX
  have hM1 := zKM_Q eM hM
  have hMe1 := zMe_Q eM hMe
  have hS1 := zSh_of b1 hX1.2.2.2.2
  have h14a := (eT 170 14 (by decide)).trans h14
  have h176a : ∀ i, i < ln → zc p1 176 i = some (.int (zn (t i))) ∧ t i < 256 := fun i hi => ⟨(eT 176 i (Or.inr rfl)).trans (h176 i hi).1, (h176 i hi).2⟩
  replace d1 : zCc p1 R C rk := d1
  obtain ⟨-, z3, e3, g3, W1⟩ := zc_people hS hT hX.2.2.2.1 hK 600 _ a1
  obtain ⟨v2, p2, a2, r, rfl, b2, c2, i2, ⟨y2, k2⟩, z2⟩ := xw_people (n := n) (R := fun p => yz1 p ∧ xSame xX zAC zFC p1 p) (xHE_and yz1_VU zRC_VU) (xLm_le (n := n + 1) (by omega)) xLm_0 (D := 600) (by omega) (by decide) (xshift b1 (by decide)) c1.1 c1.2 ⟨hy1, xSame_rf⟩
  have t2 : xtie p2 := ⟨0, y2, z2, fun i hi => by
    have h0 : (0 : Int32).toInt = 0 := by decide
    omega⟩
  have hLE2 : xLE (n + 1) p2 := ⟨⟨c2, t2⟩, i2⟩
  have e2 := zEQ_C b1 b2 k2
  obtain ⟨z4, e4, g4, W2⟩ := zm_people hS1 h14a h80 h176a hM1 (by omega) 600 _ a2
  rcases W1 with ⟨g5, K1⟩ | ⟨k, g5, g6, g9, K1⟩
  · rcases W2 with ⟨g7, K2⟩ | ⟨k', g7, g8, K2⟩
    · exact ⟨v1, .int r, p1, p2, ⟨xat0 hP, xat170 b1⟩, a1, a2, ⟨q1, (Option.some.inj e3).trans ((congrArg Value.int (Int32.toInt_inj.mp (g3.trans g4.symm))).trans (Option.some.inj e4).symm)⟩, xRI_fin b2 b1 hLE2 (zPP_le hpp) e2 K1 hX1 d1 K2 hMe1.2.1 hMe1.2.2⟩
    · omega
  · rcases W2 with ⟨g7, K2⟩ | ⟨k', g7, g8, K2⟩
    · omega
    · obtain rfl : k = k' := by omega
      have hk8 := K1.2.1.2.1
      have hO2 := zPv_ok hM1.1.2.2.2.1 hM1.1.2.2.2.2.2.1 zO g9 hk8
      have h40 := zPv_40 hk8 (C := C) (t := t) (v := v)
      exact ⟨v1, .int r, p1, p2, ⟨xat0 hP, xat170 b1⟩, a1, a2, ⟨q1, (Option.some.inj e3).trans ((congrArg Value.int (Int32.toInt_inj.mp (g3.trans g4.symm))).trans (Option.some.inj e4).symm)⟩, xRI_fin b2 b1 hLE2 (zPP_new hpp (fun i hi => (hM1.2.2.2.2.1.2.2 i hi).2.2.1) hO2 (by rw [h40]; omega)) e2 K1 hX1 d1 K2 hMe1.2.1 hMe1.2.2⟩
theorem xrs_thingsE : xRs 126 209 [] (fun a b => kI a ∧ a = b) := fun n hn ph ⟨hP, z, hR⟩ => by
  obtain ⟨v1, p1, a1, q1, b1, c1, e1, d1, hy1⟩ := xrk_things n hn z ph hP ⟨hR.1.1.1, hR.1.2⟩ hR.2.2.1.1 hR.2.2.1.2
  obtain ⟨ln, t, hT, h14, h80, h176⟩ := zTX_of hP hR.1.1.2
  obtain ⟨⟨R, C, rk, sn, sk⟩, ⟨cn, cd, cm, cdm⟩, ⟨F, F2, P, G, nx, u, fl, hn, ch⟩, ⟨v, w, sv, svm⟩, kp, kc⟩ := z
  obtain ⟨hLE, hpp, ⟨⟨hK, hX⟩, hcc⟩, hM, hMe⟩ := hR
  have hpq := hpp
  obtain ⟨zq, zF, zk, zch, ⟨zO, z40⟩, zw, zs⟩ := hpq
  have hS := zSh_of hP hX.2.2.2.2
  have hP8 := hK.2.1.2.1
  have hG8 := hK.2.1.2.2.2.1
  have hu15 := hK.2.2.1.2.2.2.1
  have eL : zEQ tL ph p1 := zEQ_m (fun _ _ t => Or.inl t) e1
  have eM : zEQ tM ph p1 := zEQ_m (fun _ _ t => Or.inr (Or.inr (Or.inr (Or.inl t)))) e1
  have eT : zEQ tT ph p1 := zEQ_m (fun _ _ t => Or.inr (Or.inr (Or.inr (Or.inr t)))) e1
  have hX1 := zXc_Q b1 eL (zEQ_m (fun _ _ t => Or.inr (Or.inl t)) e1) (zEQ_m (fun _ _ t => Or.inr (Or.inr (Or.inl t))) e1) hX
  have hM1 := zKM_Q eM hM
  have hMe1 := zMe_Q eM hMe
  have hS1 := zSh_of b1 hX1.2.2.2.2
  have h14a := (eT 170 14 (by decide)).trans h14
  have h176a : ∀ i, i < ln → zc p1 176 i = some (.int (zn (t i))) ∧ t i < 256 := fun i hi => ⟨(eT 176 i (Or.inr rfl)).trans (h176 i hi).1, (h176 i hi).2⟩
  replace d1 : zCc p1 R C rk := d1
  obtain ⟨-, z3, e3, g3, W1⟩ := zc_things hS hT hX.2.2.2.1 hK 600 _ a1
  obtain ⟨v2, p2, a2, r, rfl, b2, c2, i2, ⟨y2, k2⟩, z2⟩ := xw_things (n := n) (R := fun p => yz1 p ∧ xSame xX zAC zFC p1 p) (xHE_and yz1_VU zRC_VU) (xLm_le (n := n + 1) (by omega)) xLm_0 (D := 600) (by omega) (by decide) (xshift b1 (by decide)) c1.1 c1.2 ⟨hy1, xSame_rf⟩
  have t2 : xtie p2 := ⟨0, y2, z2, fun i hi => by
    have h0 : (0 : Int32).toInt = 0 := by decide
    omega⟩
  have hLE2 : xLE (n + 1) p2 := ⟨⟨c2, t2⟩, i2⟩
  have e2 := zEQ_C b1 b2 k2
  obtain ⟨z4, e4, g4, W2⟩ := zm_things hS1 h14a h80 h176a hM1 (by omega) 600 _ a2
  rcases W1 with ⟨g5, K1⟩ | ⟨k, g5, g6, g9, K1⟩
  · rcases W2 with ⟨g7, K2⟩ | ⟨k', g7, g8, K2⟩
    · exact ⟨v1, .int r, p1, p2, ⟨xat0 hP, xat170 b1⟩, a1, a2, ⟨q1, (Option.some.inj e3).trans ((congrArg Value.int (Int32.toInt_inj.mp (g3.trans g4.symm))).trans (Option.some.inj e4).symm)⟩, xRI_fin b2 b1 hLE2 (zPP_le hpp) e2 K1 hX1 d1 K2 hMe1.2.1 hMe1.2.2⟩
    · omega
  · rcases W2 with ⟨g7, K2⟩ | ⟨k', g7, g8, K2⟩
    · omega
    · obtain rfl : k = k' := by omega
      have hk8 := K1.2.1.2.2.2.1
      have hO2 := zGv_ok hM1.1.2.2.2.1 hM1.1.2.2.2.2.2.1 hP8 zO g9 hk8
      have h40 := zGv_40 hk8 (C := C) (t := t) (v := v)
      exact ⟨v1, .int r, p1, p2, ⟨xat0 hP, xat170 b1⟩, a1, a2, ⟨q1, (Option.some.inj e3).trans ((congrArg Value.int (Int32.toInt_inj.mp (g3.trans g4.symm))).trans (Option.some.inj e4).symm)⟩, xRI_fin b2 b1 hLE2 (zPP_new hpp (fun i hi => (hM1.2.2.2.2.1.2.2 i hi).2.2.1) hO2 (by rw [h40]; omega)) e2 K1 hX1 d1 K2 hMe1.2.1 hMe1.2.2⟩
theorem xrs_dayE : xRs 138 255 [] (fun a b => kI a ∧ a = b) := fun n hn ph ⟨hP, z, hR⟩ => by
  obtain ⟨v1, p1, a1, q1, b1, c1, e1, d1, hy1⟩ := xrk_day n hn z ph hP ⟨hR.1.1.1, hR.1.2⟩ hR.2.2.1.1 hR.2.2.1.2
  obtain ⟨ln, t, hT, h14, h80, h176⟩ := zTX_of hP hR.1.1.2
  obtain ⟨⟨R, C, rk, sn, sk⟩, ⟨cn, cd, cm, cdm⟩, ⟨F, F2, P, G, nx, u, fl, hn, ch⟩, ⟨v, w, sv, svm⟩, kp, kc⟩ := z
  obtain ⟨hLE, hpp, ⟨⟨hK, hX⟩, hcc⟩, hM, hMe⟩ := hR
  have hpq := hpp
  obtain ⟨zq, zF, zk, zch, ⟨zO, z40⟩, zw, zs⟩ := hpq
  have hS := zSh_of hP hX.2.2.2.2
  have hP8 := hK.2.1.2.1
  have hG8 := hK.2.1.2.2.2.1
  have hu15 := hK.2.2.1.2.2.2.1
  have eL : zEQ tL ph p1 := zEQ_m (fun _ _ t => Or.inl t) e1
  have eM : zEQ tM ph p1 := zEQ_m (fun _ _ t => Or.inr (Or.inr (Or.inr (Or.inl t)))) e1
  have eT : zEQ tT ph p1 := zEQ_m (fun _ _ t => Or.inr (Or.inr (Or.inr (Or.inr t)))) e1
  have hX1 := zXc_Q b1 eL (zEQ_m (fun _ _ t => Or.inr (Or.inl t)) e1) (zEQ_m (fun _ _ t => Or.inr (Or.inr (Or.inl t))) e1) hX
  have hM1 := zKM_Q eM hM
  have hMe1 := zMe_Q eM hMe
  have hS1 := zSh_of b1 hX1.2.2.2.2
  have h14a := (eT 170 14 (by decide)).trans h14
  have h176a : ∀ i, i < ln → zc p1 176 i = some (.int (zn (t i))) ∧ t i < 256 := fun i hi => ⟨(eT 176 i (Or.inr rfl)).trans (h176 i hi).1, (h176 i hi).2⟩
  replace d1 : zCc p1 R C rk := d1
  obtain ⟨-, -, -, -, ok, a9, k, y9, g1, e3, W1⟩ := zc_day hS hK hX.1 hX.2.1 hcc zO (by omega) hT 600 _ a1
  obtain ⟨v2, p2, a2, r, rfl, b2, c2, i2, ⟨y2, k2⟩, z2⟩ := xw_day (n := n) (R := fun p => yz1 p ∧ xSame xX zAC zFC p1 p) (xHE_and yz1_VS zRC_VS) (xLm_le (n := n + 1) (by omega)) xLm_0 (xLm_s (w := 540) (by decide)) (D := 600) (by decide) (xshift b1 (by decide)) c1.1 c1.2 ⟨hy1, xSame_rf⟩
  have t2 : xtie p2 := ⟨0, y2, z2, fun i hi => by
    have h0 : (0 : Int32).toInt = 0 := by decide
    omega⟩
  have hLE2 : xLE (n + 1) p2 := ⟨⟨c2, t2⟩, xINV_le (Nat.le_succ n) i2⟩
  have e2 := zEQ_C b1 b2 k2
  obtain ⟨-, -, -, ok', a9', k', y9', g1', e4, W2⟩ := zm_day hS1 hM1 hMe1 zO (by omega) h14a h80 h176a 600 _ a2
  obtain ⟨rfl, rfl, rfl⟩ := zDo_u g1 g1'
  rcases W1 with ⟨g5, g3, K1⟩ | ⟨g5, g6, i, v2', g7, g3, W1⟩
  · rcases W2 with ⟨g8, g4, K2⟩ | ⟨g8, g9, -⟩
    · exact ⟨v1, .int r, p1, p2, ⟨xat0 hP, xat170 b1⟩, a1, a2, ⟨q1, (Option.some.inj e3).trans ((congrArg Value.int (Int32.toInt_inj.mp (g3.trans g4.symm))).trans (Option.some.inj e4).symm)⟩, xRI_fin b2 b1 hLE2 (zPP_le hpp) e2 K1 hX1 d1 K2 hMe1.2.1 hMe1.2.2⟩
    · exact absurd ⟨g8, g9⟩ g5
  · rcases W2 with ⟨g8, g4, K2⟩ | ⟨g8, g9, i', v3', g10, g4, W2⟩
    · exact absurd ⟨g5, g6⟩ g8
    · rw [← zQ_As2 zq] at g10
      obtain ⟨rfl, rfl⟩ := zAs2_u g7 g10
      have hk30 := zDo_30 g1
      obtain ⟨hO2, h40⟩ := zAr_ok (E := (R, C, rk, sn, sk, cn, cd)) zO hP8 hG8 g1.1 (by omega) i g7.1 g7.2.1
      have hi30 := g7.1
      rcases W1 with ⟨g11, K1⟩ | ⟨g11, nx1, K1⟩
      · rcases W2 with ⟨g12, K2⟩ | ⟨g12, K2⟩
        · exact ⟨v1, .int r, p1, p2, ⟨xat0 hP, xat170 b1⟩, a1, a2, ⟨q1, (Option.some.inj e3).trans ((congrArg Value.int (Int32.toInt_inj.mp (g3.trans g4.symm))).trans (Option.some.inj e4).symm)⟩, xRI_fin b2 b1 hLE2 (zPP_set (nx' := nx) (u' := u) hpp (Nat.le_refl _) hO2 (by omega)) e2 K1 hX1 d1 K2 hMe1.2.1 hMe1.2.2⟩
        · omega
      · rcases W2 with ⟨g12, K2⟩ | ⟨g12, K2⟩
        · omega
        · exact ⟨v1, .int r, p1, p2, ⟨xat0 hP, xat170 b1⟩, a1, a2, ⟨q1, (Option.some.inj e3).trans ((congrArg Value.int (Int32.toInt_inj.mp (g3.trans g4.symm))).trans (Option.some.inj e4).symm)⟩, xRI_fin b2 b1 hLE2 (zPP_push (nx' := nx1) hpp hu15 hO2 (by omega)) e2 K1 hX1 d1 K2 hMe1.2.1 hMe1.2.2⟩
theorem xrs_signE {x : Int32} : xRs 122 193 [.int x] (fun a b => kI a ∧ a = b) := fun n hn ph ⟨hP, z, hR⟩ => by
  obtain ⟨r, p1, p2, a1, a2, b1, b2, c2⟩ := xsignE (n := n) (xLm_le (by omega)) xLm_0 (D := 600) (by decide) (y := x) hP hR.1
  obtain ⟨w1, q1, r1, s1, t1, -, -⟩ := xn_122_0 (E := fun p => xSame xX zAP zFP ph p) (xHE_sub (by decide +kernel) (by decide +kernel) xHE_slf) 600 (by decide) (xLm n) (xLm_le (by omega)) xLm_0 [.ref 0, .int x] ph ⟨xaRi rfl (by decide), xaT, trivial⟩ (fun _ _ h => absurd h List.not_mem_nil) hP xSame_rf
  have e1 := yRd_det _ _ _ _ _ _ _ a1 r1
  cases e1
  obtain ⟨w2, q2, r2, s2, t2, -, -⟩ := xn_193_0 (E := fun p => xSame xX zAP zFP p1 p) (xHE_sub (by decide +kernel) (by decide +kernel) xHE_slf) 600 (by decide) (xLm n) (xLm_le (by omega)) xLm_0 [.ref 170, .int x] p1 ⟨xaRi rfl (by decide), xaT, trivial⟩ (fun _ _ h => absurd h List.not_mem_nil) b1 xSame_rf
  have e2 := yRd_det _ _ _ _ _ _ _ a2 r2
  cases e2
  exact ⟨.int r, .int r, p1, p2, ⟨xat0 hP, xat170 b1⟩, a1, a2, ⟨⟨r, rfl⟩, rfl⟩, xshift b2 (by decide), z, xRE_Q b2 (xLE_le c2) (zEQ_t (zEQ_P hP b1 t1) (zEQ_P b1 b2 t2)) hR⟩
theorem xrs_endE {x : Int32} : xRs 123 194 [.int x] (fun a b => kI a ∧ a = b) := fun n hn ph ⟨hP, z, hR⟩ => by
  obtain ⟨r, p1, p2, a1, a2, b1, b2, c2⟩ := xendE (n := n) (xLm_le (by omega)) xLm_0 (D := 600) (by decide) (y := x) hP hR.1
  obtain ⟨w1, q1, r1, s1, t1, -, -⟩ := xn_123_0 (E := fun p => xSame xX zAP zFP ph p) (xHE_sub (by decide +kernel) (by decide +kernel) xHE_slf) 600 (by decide) (xLm n) (xLm_le (by omega)) xLm_0 [.ref 0, .int x] ph ⟨xaRi rfl (by decide), xaT, trivial⟩ (fun _ _ h => absurd h List.not_mem_nil) hP xSame_rf
  have e1 := yRd_det _ _ _ _ _ _ _ a1 r1
  cases e1
  obtain ⟨w2, q2, r2, s2, t2, -, -⟩ := xn_194_0 (E := fun p => xSame xX zAP zFP p1 p) (xHE_sub (by decide +kernel) (by decide +kernel) xHE_slf) 600 (by decide) (xLm n) (xLm_le (by omega)) xLm_0 [.ref 170, .int x] p1 ⟨xaRi rfl (by decide), xaT, trivial⟩ (fun _ _ h => absurd h List.not_mem_nil) b1 xSame_rf
  have e2 := yRd_det _ _ _ _ _ _ _ a2 r2
  cases e2
  exact ⟨.int r, .int r, p1, p2, ⟨xat0 hP, xat170 b1⟩, a1, a2, ⟨⟨r, rfl⟩, rfl⟩, xshift b2 (by decide), z, xRE_Q b2 (xLE_le c2) (zEQ_t (zEQ_P hP b1 t1) (zEQ_P b1 b2 t2)) hR⟩
/-- the class's half of valley, light: no view, the frame T of what stays -/
theorem xhalf {E0 : pm_H → Prop} {d j : Nat} {gA : List Nat} {gF : List (Nat × Nat)} {sA : List Nat} {sF : List (Nat × Nat)} {res : Option xh} {n : Nat} {ph : pm_H} (hn : n ≤ 512) (hP : xH xX kK (xLm n) 0 ph) (h0 : xHE xX gA gF E0) (s1 : sA.all (fun i => xmemN gA i) = true) (s2 : sF.all (fun p => xmemP gF p.1 p.2) = true) (hm : ∀ {E : pm_H → Prop}, xHE xX gA gF E → xcon xX kK E d j [.inr (.inr (.inl 31))] [] 0 res [(4097, .inl (Int.ofNat 0, Int.ofNat 0))]) (hd : d ≤ 600) (hr : ∀ m v, xhR xX m v res → ∃ u, v = some u ∧ kI u) (g : E0 ph) : ∃ v p1, pm_Rd kK false 600 j [.ref 0] ph (some v, p1, 0, 0) ∧ kI v ∧ xH xX kK (xLm n) 0 p1 ∧ E0 p1 ∧ xSame xX sA sF ph p1 ∧ yz1 p1 := by
  obtain ⟨v0, p1, a, b, c, e, f⟩ := hm (E := fun p => E0 p ∧ xSame xX sA sF ph p) (xHE_and h0 (xHE_sub s1 s2 xHE_slf)) 600 hd (xLm n) (xLm_le (by omega)) xLm_0 [.ref 0] ph ⟨xaRi rfl (by decide), trivial⟩ (fun _ _ h => absurd h List.not_mem_nil) hP ⟨g, xSame_rf⟩
  obtain ⟨u, rfl, q⟩ := hr _ _ e
  exact ⟨u, p1, a, q, b, c.1, c.2, yz1_F _ _ f⟩
theorem xVI_G34 (n : Nat) : xHE xX xgA_G34 xgF_G34 (xVI n) := xVI_G (by decide +kernel) (by decide +kernel) n
theorem xVI_G37 (n : Nat) : xHE xX xgA_G37 xgF_G37 (xVI n) := xVI_G (by decide +kernel) (by decide +kernel) n
theorem xVI_G38 (n : Nat) : xHE xX xgA_G38 xgF_G38 (xVI n) := xVI_G (by decide +kernel) (by decide +kernel) n
theorem xrs_valleyE : xRs 124 202 [] (fun a b => kI a ∧ a = b) := fun n hn ph ⟨hP, z, hR⟩ => by
  obtain ⟨v1, p1, a1, q1, b1, c1, s1, hy1⟩ := xhalf (E0 := xVI n) (sA := zAV) (sF := zFV) hn hP (xVI_G34 n) (by decide +kernel) (by decide +kernel) (fun h => xn_124_0 h) (by decide) (fun _ _ h => yri h) ⟨hR.1.1.1, hR.1.2⟩
  have e1 := zEQ_V hP b1 s1
  obtain ⟨ln, t, hT, h14, h80, h176⟩ := zTX_of hP hR.1.1.2
  obtain ⟨⟨R, C, rk, sn, sk⟩, ⟨cn, cd, cm, cdm⟩, ⟨F, F2, P, G, nx, u, fl, hn, ch⟩, ⟨v, w, sv, svm⟩, kp, kc⟩ := z
  obtain ⟨hLE, hpp, ⟨⟨hK, hX⟩, hcc⟩, hM, hMe⟩ := hR
  replace hcc : zCc ph R C rk := hcc
  have hpq := hpp
  obtain ⟨zq, zF, zk, zch, ⟨zO, z40⟩, zw, zs⟩ := hpq
  have hS := zSh_of hP hX.2.2.2.2
  have eM : zEQ tM ph p1 := zEQ_m (fun _ _ t => (Or.inr (Or.inr (Or.inl t)))) e1
  have eT : zEQ tT ph p1 := zEQ_m (fun _ _ t => (Or.inr (Or.inr (Or.inr t)))) e1
  have eX : zEQ tX ph p1 := zEQ_m (fun _ _ t => (Or.inr (Or.inl t))) e1
  have h4 := zs44_Q eX hX.2.2.2.2
  have hS1 := zSh_of b1 h4
  have hM1 := zKM_Q eM hM
  have hMe1 := zMe_Q eM hMe
  have h14a := (eT 170 14 (by decide)).trans h14
  have h176a : ∀ i, i < ln → zc p1 176 i = some (.int (zn (t i))) ∧ t i < 256 := fun i hi => ⟨(eT 176 i (Or.inr rfl)).trans (h176 i hi).1, (h176 i hi).2⟩
  have eI : zEQ tI ph p1 := zEQ_m (fun _ _ t => Or.inl t) e1
  obtain ⟨z3, e3, g3, W1⟩ := zc_valley hS hT hK 600 _ a1
  obtain ⟨v2, p2, a2, r, rfl, b2, c2, i2, ⟨y2, k2⟩, z2⟩ := xw_valley (n := n) (R := fun p => yz1 p ∧ xSame xX zAC zFC p1 p) (xHE_and yz1_VU zRC_VU) (xLm_le (n := n + 1) (by omega)) xLm_0 (D := 600) (by omega) (by decide) (xshift b1 (by decide)) c1.1 c1.2 ⟨hy1, xSame_rf⟩
  have t2 : xtie p2 := ⟨0, y2, z2, fun i hi => by
    have h0 : (0 : Int32).toInt = 0 := by decide
    omega⟩
  have hLE2 : xLE (n + 1) p2 := ⟨⟨c2, t2⟩, i2⟩
  have e2 := zEQ_C b1 b2 k2
  obtain ⟨z4, e4, g4, W2⟩ := zm_valley hS1 h14a h80 h176a hM1 (by omega) 600 _ a2
  have hi1 := zCi_Q eI hX.1.2.1
  have hf1 := zFm_Q hS1 hX.1.2.2.2 eX hX.1.2.2.1
  rcases W1 with ⟨g5, d1, K1⟩ | ⟨g5, K1, f1⟩
  · rcases W2 with ⟨g6, K2⟩ | ⟨g6, K2⟩
    · have hX1 : zXc p1 (zVd ln t 0, zVd ln t 1, zVr t, sn, sk, cn, cd) F F2 := ⟨⟨K1.1, hi1, hf1, hX.1.2.2.2⟩, (eX 10 1 (by decide)).trans hX.2.1, (eX 10 2 (by decide)).trans hX.2.2.1, zBd_Q eX hX.2.2.2.1, h4⟩
      have hpn : zPP (n + 1) ((zVd ln t 0, zVd ln t 1, zVr t, sn, sk), (cn, cd, cm, cdm), (F, F2, 0, 0, nx, 0, 0, 0, (ch + 1)), ((znu v 40 0), w, sv, svm), (kp, kc)) := by
        refine ⟨zq, zF, fun i hi => ⟨?_, fun e => by rw [Nat.zero_testBit] at e; cases e⟩, by omega, ⟨⟨fun p hp => absurd hp (Nat.not_lt_zero p), fun t ht => absurd ht (Nat.not_lt_zero t), ?_⟩, ?_⟩, fun i hi => absurd hi (Nat.not_lt_zero i), fun i hi e => by rw [Nat.zero_testBit] at e; cases e⟩
        · have := (hM1.2.2.2.2.1.2.2 i hi).2.2.1
          rw [Nat.zero_testBit, decide_eq_false (show ¬ kc i = ch + 1 by omega), Bool.and_false]
        · rw [znu_e]
          decide
        · rw [znu_e]
          omega
      exact ⟨v1, .int r, p1, p2, ⟨xat0 hP, xat170 b1⟩, a1, a2, ⟨q1, (Option.some.inj e3).trans ((congrArg Value.int (Int32.toInt_inj.mp (g3.trans g4.symm))).trans (Option.some.inj e4).symm)⟩, xRI_fin b2 b1 hLE2 (hpn) e2 K1 hX1 d1 K2 hMe1.2.1 hMe1.2.2⟩
    · exact absurd g5 g6
  · rcases W2 with ⟨g6, K2⟩ | ⟨g6, K2⟩
    · exact absurd g6 g5
    · have eF : ∀ a k, ¬ (a = 1 ∧ k = 1) → zc p1 a k = zc ph a k := fun a k h => f1.1 a k (by simp) (by simp <;> omega)
      have hX1 := zXc_Q b1 (fun a k t => eF a k (by omega)) eI eX hX
      have d1 := zCc_Q (q := p1) (fun a k t => eF a k (by omega)) hcc
      exact ⟨v1, .int r, p1, p2, ⟨xat0 hP, xat170 b1⟩, a1, a2, ⟨q1, (Option.some.inj e3).trans ((congrArg Value.int (Int32.toInt_inj.mp (g3.trans g4.symm))).trans (Option.some.inj e4).symm)⟩, xRI_fin b2 b1 hLE2 (zPP_le hpp) e2 K1 hX1 d1 K2 hMe1.2.1 hMe1.2.2⟩
theorem zLm_20 {ln : Nat} {t : Nat → Nat} {k : Nat} (h : zLm ln t k) : k ≤ 20 ∧ ∀ i, i < k → t i - 48 ≤ 9 := ⟨h.2.1, fun i hi => by have := zdi_d (h.2.2.1 i hi); omega⟩
/-- the reference's light, rule, law: what is left of the text's tie -/
theorem xrs_lightE : xRs 127 210 [] (fun a b => kI a ∧ a = b) := fun n hn ph ⟨hP, z, hR⟩ => by
  obtain ⟨v1, p1, a1, q1, b1, c1, s1, hy1⟩ := xhalf (E0 := xVI n) (sA := zAU) (sF := zFU) hn hP (xVI_G37 n) (by decide +kernel) (by decide +kernel) (fun h => xn_127_0 h) (by decide) (fun _ _ h => yri h) ⟨hR.1.1.1, hR.1.2⟩
  have e1 := zEQ_U hP b1 s1
  obtain ⟨ln, t, hT, h14, h80, h176⟩ := zTX_of hP hR.1.1.2
  obtain ⟨⟨R, C, rk, sn, sk⟩, ⟨cn, cd, cm, cdm⟩, ⟨F, F2, P, G, nx, u, fl, hn, ch⟩, ⟨v, w, sv, svm⟩, kp, kc⟩ := z
  obtain ⟨hLE, hpp, ⟨⟨hK, hX⟩, hcc⟩, hM, hMe⟩ := hR
  replace hcc : zCc ph R C rk := hcc
  have hpq := hpp
  obtain ⟨zq, zF, zk, zch, ⟨zO, z40⟩, zw, zs⟩ := hpq
  have hS := zSh_of hP hX.2.2.2.2
  have eM : zEQ tM ph p1 := zEQ_m (fun _ _ t => (Or.inr (Or.inr (Or.inr (Or.inr (Or.inl t)))))) e1
  have eT : zEQ tT ph p1 := zEQ_m (fun _ _ t => (Or.inr (Or.inr (Or.inr (Or.inr (Or.inr (Or.inr t))))))) e1
  have eX : zEQ tX ph p1 := zEQ_m (fun _ _ t => (Or.inr (Or.inr (Or.inr (Or.inl t))))) e1
  have h4 := zs44_Q eX hX.2.2.2.2
  have hS1 := zSh_of b1 h4
  have hM1 := zKM_Q eM hM
  have hMe1 := zMe_Q eM hMe
  have h14a := (eT 170 14 (by decide)).trans h14
  have h176a : ∀ i, i < ln → zc p1 176 i = some (.int (zn (t i))) ∧ t i < 256 := fun i hi => ⟨(eT 176 i (Or.inr rfl)).trans (h176 i hi).1, (h176 i hi).2⟩
  obtain ⟨f1, -, k, y9, g5, e3, W1⟩ := zc_lightR hS hT 600 _ a1
  obtain ⟨v2, p2, a2, r, rfl, b2, c2, i2, y2, z2⟩ := xcr_light n (by omega) p1 b1 c1.1 c1.2 hy1
  have t2 : xtie p2 := ⟨0, y2, z2, fun i hi => by
    have h0 : (0 : Int32).toInt = 0 := by decide
    omega⟩
  have hLE2 : xLE (n + 1) p2 := ⟨⟨c2, t2⟩, i2⟩
  obtain ⟨f2, -, -, k', y9', g6, e4, W2⟩ := zm_lightR hS1 h14a h80 h176a 600 _ a2
  obtain rfl := zLm_u g5 g6
  have eF : ∀ a k, a ≠ 21 → ¬ (a = 10 ∧ k = 4) → ¬ (a = 1 ∧ k = 1) → zc p1 a k = zc ph a k := fun a k h1 h2 h3 => f1.1 a k (by simp <;> omega) (by simp <;> omega)
  have eG : ∀ a k, a ≠ 173 → a ≠ 178 → ¬ (a = 170 ∧ (k = 0 ∨ k = 8 ∨ k = 14 ∨ k = 15 ∨ k = 16 ∨ k = 17)) → zc p2 a k = zc p1 a k := fun a k h1 h2 h3 => f2.1 a k (by simp <;> omega) (by simp <;> omega)
  have K1 := zKC_Q (fun a k t => eF a k (by omega) (by omega) (by omega)) (fun a k t => eF a k (by omega) (by omega) (by omega)) (fun a k t => eF a k (by omega) (by omega) (by omega)) hK
  have d1 := zCc_Q (q := p1) (fun a k t => eF a k (by omega) (by omega) (by omega)) hcc
  have K2 := zKC_Q (q := p2) (fun a k t => eG a k (by omega) (by omega) (by omega)) (fun a k t => eG a k (by omega) (by omega) (by omega)) (fun a k t => eG a k (by omega) (by omega) (by omega)) K1
  have d2 := zCc_Q (q := p2) (fun a k t => eG a k (by omega) (by omega) (by omega)) d1
  have hMl2 : zMl p2 R C rk := ⟨(eG 170 3 (by omega) (by omega) (by omega)).trans hM1.1.1, (eG 170 4 (by omega) (by omega) (by omega)).trans hM1.1.2.1, fun f hf => (eG 172 f (by omega) (by omega) (by omega)).trans (hM1.1.2.2.1 f hf), hM1.1.2.2.2⟩
  have hM2 : zKM p2 R C rk P G v u w ch kp kc svm hn := ⟨hMl2, ⟨(eG 170 5 (by omega) (by omega) (by omega)).trans hM1.2.1.1, hM1.2.1.2.1, (eG 170 6 (by omega) (by omega) (by omega)).trans hM1.2.1.2.2.1, hM1.2.1.2.2.2⟩, zNr_Q (fun k _ _ => eG 174 k (by omega) (by omega) (by omega)) hM1.2.2.1, ⟨(eG 170 27 (by omega) (by omega) (by omega)).trans hM1.2.2.2.1.1, hM1.2.2.2.1.2.1, fun i hi => zNr_Q (fun k _ _ => eG 183 k (by omega) (by omega) (by omega)) (hM1.2.2.2.1.2.2 i hi)⟩, ⟨(eG 170 7 (by omega) (by omega) (by omega)).trans hM1.2.2.2.2.1.1, hM1.2.2.2.2.1.2.1, fun i hi => by
    obtain ⟨h1, h2, h3, h5⟩ := hM1.2.2.2.2.1.2.2 i hi
    exact ⟨(eG 198 i (by omega) (by omega) (by omega)).trans h1, (eG 199 i (by omega) (by omega) (by omega)).trans h2, h3, fun e => zNr_Q (fun k _ _ => eG 200 k (by omega) (by omega) (by omega)) (h5 e)⟩⟩, (eG 170 39 (by omega) (by omega) (by omega)).trans hM1.2.2.2.2.2.1, hM1.2.2.2.2.2.2⟩
  have hS2 := zSh_of b2 (zs44_Q (q := p2) (fun a k t => eG a k (by omega) (by omega) (by omega)) h4)
  have eX2 : zEQ tX p1 p2 := fun a k t => eG a k (by omega) (by omega) (by omega)
  have hf2 := zFm_Q hS2 hX.1.2.2.2 eX2 (zFm_Q hS1 hX.1.2.2.2 eX hX.1.2.2.1)
  have hB2 := zBd_Q eX2 (zBd_Q eX hX.2.2.2.1)
  have h42 := zs44_Q eX2 h4
  have h101 := (eX2 10 1 (by decide)).trans ((eX 10 1 (by decide)).trans hX.2.1)
  have h102 := (eX2 10 2 (by decide)).trans ((eX 10 2 (by decide)).trans hX.2.2.1)
  obtain ⟨h20, h9⟩ := zLm_20 g5
  rcases W1 with ⟨g7, g8, g3, h10, h21⟩ | ⟨g7, g3, h10, h21⟩
  · rcases W2 with ⟨g9, g10, g4, h8, h173⟩ | ⟨g9, g4, h8, h173⟩
    · subst g8
      have hi2 : zCi p2 k (fun i => t i - 48) := ⟨(eG 10 4 (by omega) (by omega) (by omega)).trans h10, by omega, h20, fun i hi => ⟨(eG 21 i (by omega) (by omega) (by omega)).trans (h21 i hi), h9 i hi⟩⟩
      have hr2 : zMr p2 k (fun i => t i - 48) cm cdm := ⟨h8, by omega, h20, fun i hi => ⟨h173 i hi, h9 i hi⟩, (eG 170 23 (by omega) (by omega) (by omega)).trans hMe1.2.1.2.2.2.2.1, hMe1.2.1.2.2.2.2.2.1, fun i hi => ⟨(eG 179 i (by omega) (by omega) (by omega)).trans (hMe1.2.1.2.2.2.2.2.2 i hi).1, (hMe1.2.1.2.2.2.2.2.2 i hi).2⟩⟩
      exact ⟨v1, .int r, p1, p2, ⟨xat0 hP, xat170 b1⟩, a1, a2, ⟨q1, (Option.some.inj e3).trans ((congrArg Value.int (Int32.toInt_inj.mp (g3.trans g4.symm))).trans (Option.some.inj e4).symm)⟩, b2, ((R, C, rk, k, (fun i => t i - 48)), (cn, cd, cm, cdm), (F, F2, P, G, nx, u, fl, hn, ch), (v, w, sv, svm), (kp, kc)), hLE2, zPP_le hpp, ⟨⟨K2, ⟨K2.1, hi2, hf2, hX.1.2.2.2⟩, h101, h102, hB2, h42⟩, d2⟩, hM2, hMl2, hr2, hMe1.2.2⟩
    · omega
  · rcases W2 with ⟨g9, g10, g4, h8, h173⟩ | ⟨g9, g4, h8, h173⟩
    · omega
    · have hi2 : zCi p2 sn sk := ⟨(eG 10 4 (by omega) (by omega) (by omega)).trans (h10.trans hX.1.2.1.1), hX.1.2.1.2.1, hX.1.2.1.2.2.1, fun i hi => ⟨(eG 21 i (by omega) (by omega) (by omega)).trans ((h21 i).trans (hX.1.2.1.2.2.2 i hi).1), (hX.1.2.1.2.2.2 i hi).2⟩⟩
      have hr2 : zMr p2 sn sk cm cdm := ⟨h8.trans hMe1.2.1.1, hMe1.2.1.2.1, hMe1.2.1.2.2.1, fun i hi => ⟨(h173 i).trans (hMe1.2.1.2.2.2.1 i hi).1, (hMe1.2.1.2.2.2.1 i hi).2⟩, (eG 170 23 (by omega) (by omega) (by omega)).trans hMe1.2.1.2.2.2.2.1, hMe1.2.1.2.2.2.2.2.1, fun i hi => ⟨(eG 179 i (by omega) (by omega) (by omega)).trans (hMe1.2.1.2.2.2.2.2.2 i hi).1, (hMe1.2.1.2.2.2.2.2.2 i hi).2⟩⟩
      exact ⟨v1, .int r, p1, p2, ⟨xat0 hP, xat170 b1⟩, a1, a2, ⟨q1, (Option.some.inj e3).trans ((congrArg Value.int (Int32.toInt_inj.mp (g3.trans g4.symm))).trans (Option.some.inj e4).symm)⟩, b2, ((R, C, rk, sn, sk), (cn, cd, cm, cdm), (F, F2, P, G, nx, u, fl, hn, ch), (v, w, sv, svm), (kp, kc)), hLE2, zPP_le hpp, ⟨⟨K2, ⟨K2.1, hi2, hf2, hX.1.2.2.2⟩, h101, h102, hB2, h42⟩, d2⟩, hM2, hMl2, hr2, hMe1.2.2⟩
/-- codes laid latest first, in their order -/
theorem zFc_m {q : pm_H} {F : Nat} {Cs : List Nat} (h : zFc q F Cs) : ∀ i, i < Cs.length → zc q (F + 1) i = some (.int (zcc (Cs.reverse.getD i 0))) := fun i hi => by
  have e1 : Cs[Cs.length - 1 - i]? = some (Cs.reverse.getD i 0) := by
    rw [List.getD_eq_getElem?_getD, List.getElem?_reverse hi, List.getElem?_eq_getElem (by omega)]
    rfl
  have h1 := (h.2 _ _ e1).1
  rwa [show Cs.length - 1 - (Cs.length - 1 - i) = i by omega] at h1
theorem zcg_0 : zcg ([2004, 1000, 1001] : List Nat).length (fun i => ([2004, 1000, 1001] : List Nat).reverse.getD i 0) := by
  refine ⟨fun _ => by decide, fun k hk => ?_⟩
  have hk : k < 3 := hk
  rcases (show k = 0 ∨ k = 1 ∨ k = 2 by omega) with e | e | e <;> subst e <;> decide
/-- what both read of a RULE -/
theorem zrule_cds {ln a2 : Nat} {t : Nat → Nat} {cs2 Cs : List Nat} (h : zRu ln t true a2 cs2) (hl : cs2.length ≤ 40) (hc : (ln = 0 ∧ Cs = [2004, 1000, 1001] ∧ cs2 = []) ∨ (0 < ln ∧ ln ≤ 40 ∧ Cs = cs2)) : zcg Cs.length (fun i => Cs.reverse.getD i 0) ∧ 1 ≤ Cs.length ∧ Cs.length ≤ 40 ∧ zcg cs2.length (fun i => cs2.reverse.getD i 0) ∧ zQe Cs.length (fun i => Cs.reverse.getD i 0) cs2.length (fun i => cs2.reverse.getD i 0) := by
  obtain ⟨g1, g2⟩ := zRu_cg h
  rcases hc with ⟨e1, e2, e3⟩ | ⟨h0, -, e⟩
  · subst e2 e3
    exact ⟨zcg_0, by decide, by decide, g1, Or.inr ⟨rfl, rfl, rfl, rfl, rfl⟩⟩
  · subst e
    exact ⟨g1, g2 h0, hl, g1, Or.inl ⟨rfl, rfl⟩⟩
theorem xrs_ruleE : xRs 128 217 [] (fun a b => kI a ∧ a = b) := fun n hn ph ⟨hP, z, hR⟩ => by
  obtain ⟨v1, p1, a1, q1, b1, c1, s1, hy1⟩ := xhalf (E0 := xVI n) (sA := []) (sF := []) hn hP (xVI_G38 n) rfl rfl (fun h => xn_128_0 h) (by decide) (fun _ _ h => yri h) ⟨hR.1.1.1, hR.1.2⟩
  obtain ⟨ln, t, hT, h14, h80, h176⟩ := zTX_of hP hR.1.1.2
  obtain ⟨⟨R, C, rk, sn, sk⟩, ⟨cn, cd, cm, cdm⟩, ⟨F, F2, P, G, nx, u, fl, hn, ch⟩, ⟨v, w, sv, svm⟩, kp, kc⟩ := z
  obtain ⟨hLE, hpp, ⟨⟨hK, hX⟩, hcc⟩, hM, hMe⟩ := hR
  replace hcc : zCc ph R C rk := hcc
  have hpq := hpp
  obtain ⟨zq, zF, zk, zch, ⟨zO, z40⟩, zw, zs⟩ := hpq
  have hS := zSh_of hP hX.2.2.2.2
  have hF2 : F2 = 11 ∨ F2 = 16 := by omega
  obtain ⟨hp9, cm9, hb9⟩ := zFx_of hP hS hF2
  obtain ⟨f1, -, -, z9, y9, Cs, ho, e3, W1⟩ := zc_rule hS hF2 hT hX.2.2.1 hX.2.1 hp9 hb9 600 _ a1
  have eF : ∀ a k, ¬ (F2 + 1 ≤ a ∧ a ≤ F2 + 3) → ¬ (a = F2 ∧ (k = 1 ∨ k = 3 ∨ k = 5 ∨ k = 6 ∨ k = 7)) → ¬ (a = 1 ∧ k = 1) → ¬ (a = 10 ∧ (k = 1 ∨ k = 2)) → zc p1 a k = zc ph a k := fun a k h1 h2 h3 h4 => f1.1 a k (by simp <;> omega) (by simp <;> omega)
  have eM : zEQ tM ph p1 := fun a k t => eF a k (by omega) (by omega) (by omega) (by omega)
  have eT : zEQ tT ph p1 := fun a k t => eF a k (by omega) (by omega) (by omega) (by omega)
  have h4 : zs44 p1 := fun a k b e hb => (eF a k (by omega) (by omega) (by omega) (by omega)).trans (hX.2.2.2.2 a k b e hb)
  have hS1 := zSh_of b1 h4
  have hM1 := zKM_Q eM hM
  have hMe1 := zMe_Q eM hMe
  have h14a := (eT 170 14 (by decide)).trans h14
  have h176a : ∀ i, i < ln → zc p1 176 i = some (.int (zn (t i))) ∧ t i < 256 := fun i hi => ⟨(eT 176 i (Or.inr rfl)).trans (h176 i hi).1, (h176 i hi).2⟩
  obtain ⟨v2, p2, a2, r, rfl, b2, c2, i2, y2, z2⟩ := xcr_rule n (by omega) p1 b1 c1.1 c1.2 hy1
  have t2 : xtie p2 := ⟨0, y2, z2, fun i hi => by
    have h0 : (0 : Int32).toInt = 0 := by decide
    omega⟩
  have hLE2 : xLE (n + 1) p2 := ⟨⟨c2, t2⟩, i2⟩
  obtain ⟨f2, -, -, ok, a9, cs2, z8, hru, hl40, e4, g4, W2⟩ := zm_rule hS1 h14a h80 h176a 600 _ a2
  have eG : ∀ a k, a ≠ 179 → a ≠ 180 → ¬ (a = 170 ∧ (k = 0 ∨ k = 14 ∨ k = 15 ∨ k = 16 ∨ k = 17 ∨ k = 23 ∨ k = 24)) → zc p2 a k = zc p1 a k := fun a k h1 h2 h3 => f2.1 a k (by simp <;> omega) (by simp <;> omega)
  have eA : ∀ a k, ¬ (F2 + 1 ≤ a ∧ a ≤ F2 + 3) → ¬ (a = F2 ∧ (k = 1 ∨ k = 3 ∨ k = 5 ∨ k = 6 ∨ k = 7)) → ¬ (a = 1 ∧ k = 1) → ¬ (a = 10 ∧ (k = 1 ∨ k = 2)) → a ≠ 179 → a ≠ 180 → ¬ (a = 170 ∧ (k = 0 ∨ k = 14 ∨ k = 15 ∨ k = 16 ∨ k = 17 ∨ k = 23 ∨ k = 24)) → zc p2 a k = zc ph a k := fun a k h1 h2 h3 h4 h5 h6 h7 => (eG a k h5 h6 h7).trans (eF a k h1 h2 h3 h4)
  have K2 := zKC_Q (q := p2) (fun a k t => eA a k (by omega) (by omega) (by omega) (by omega) (by omega) (by omega) (by omega)) (fun a k t => eA a k (by omega) (by omega) (by omega) (by omega) (by omega) (by omega) (by omega)) (fun a k t => eA a k (by omega) (by omega) (by omega) (by omega) (by omega) (by omega) (by omega)) hK
  have d2 := zCc_Q (q := p2) (fun a k t => eA a k (by omega) (by omega) (by omega) (by omega) (by omega) (by omega) (by omega)) hcc
  have hi2 := zCi_Q (q := p2) (fun a k t => eA a k (by omega) (by omega) (by omega) (by omega) (by omega) (by omega) (by omega)) hX.1.2.1
  have hB2 : zBd p2 := ⟨(eA 156 2 (by omega) (by omega) (by omega) (by omega) (by omega) (by omega) (by omega)).trans hX.2.2.2.1.1, (eA 156 3 (by omega) (by omega) (by omega) (by omega) (by omega) (by omega) (by omega)).trans hX.2.2.2.1.2⟩
  have h42 : zs44 p2 := fun a k b e hb => (eG a k (by omega) (by omega) (by omega)).trans (h4 a k b e hb)
  have hS2 := zSh_of b2 h42
  have hMl2 : zMl p2 R C rk := ⟨(eG 170 3 (by omega) (by omega) (by omega)).trans hM1.1.1, (eG 170 4 (by omega) (by omega) (by omega)).trans hM1.1.2.1, fun f hf => (eG 172 f (by omega) (by omega) (by omega)).trans (hM1.1.2.2.1 f hf), hM1.1.2.2.2⟩
  have hM2 : zKM p2 R C rk P G v u w ch kp kc svm hn := ⟨hMl2, ⟨(eG 170 5 (by omega) (by omega) (by omega)).trans hM1.2.1.1, hM1.2.1.2.1, (eG 170 6 (by omega) (by omega) (by omega)).trans hM1.2.1.2.2.1, hM1.2.1.2.2.2⟩, zNr_Q (fun k _ _ => eG 174 k (by omega) (by omega) (by omega)) hM1.2.2.1, ⟨(eG 170 27 (by omega) (by omega) (by omega)).trans hM1.2.2.2.1.1, hM1.2.2.2.1.2.1, fun i hi => zNr_Q (fun k _ _ => eG 183 k (by omega) (by omega) (by omega)) (hM1.2.2.2.1.2.2 i hi)⟩, ⟨(eG 170 7 (by omega) (by omega) (by omega)).trans hM1.2.2.2.2.1.1, hM1.2.2.2.2.1.2.1, fun i hi => by
    obtain ⟨h1, h2, h3, h5⟩ := hM1.2.2.2.2.1.2.2 i hi
    exact ⟨(eG 198 i (by omega) (by omega) (by omega)).trans h1, (eG 199 i (by omega) (by omega) (by omega)).trans h2, h3, fun e => zNr_Q (fun k _ _ => eG 200 k (by omega) (by omega) (by omega)) (h5 e)⟩⟩, (eG 170 39 (by omega) (by omega) (by omega)).trans hM1.2.2.2.2.2.1, hM1.2.2.2.2.2.2⟩
  have hsk : (zc p2 170 8 = some (.int (zn sn))) ∧ ∀ i, i < sn → zc p2 173 i = some (.int (zn (sk i))) ∧ sk i ≤ 9 := ⟨(eG 170 8 (by omega) (by omega) (by omega)).trans hMe1.2.1.1, fun i hi => ⟨(eG 173 i (by omega) (by omega) (by omega)).trans (hMe1.2.1.2.2.2.1 i hi).1, (hMe1.2.1.2.2.2.1 i hi).2⟩⟩
  rcases zrule_join hru ho with ⟨j1, j2, j3, j4⟩ | ⟨j1, -, j2⟩
  · subst j3
    obtain ⟨k1, k2, k3, k5, k6⟩ := zrule_cds hru hl40 j4
    rcases W1 with ⟨g1, g3, g5, g6, g7⟩ | ⟨g1, -⟩
    · rcases W2 with ⟨g8, g9, g10⟩ | ⟨g8, -⟩
      · have hf2 : zFm p2 F2 Cs.length (fun i => Cs.reverse.getD i 0) := by
          have q1 := (eG F2 1 (by omega) (by omega) (by omega)).trans g5.1
          have q2 : ∀ i, i < Cs.length → zc p2 (F2 + 1) i = some (.int (zcc (Cs.reverse.getD i 0))) := fun i hi => (eG (F2 + 1) i (by omega) (by omega) (by omega)).trans (zFc_m g5 i hi)
          rcases hF2 with e | e
          · subst e
            exact ⟨zsg hS2 zs_11_0, zsg hS2 zs_11_8, q1, k2, k3, q2, k1⟩
          · subst e
            exact ⟨zsg hS2 zs_16_0, zsg hS2 zs_16_8, q1, k2, k3, q2, k1⟩
        have hpn : zPP (n + 1) ((R, C, rk, sn, sk), (Cs.length, (fun i => Cs.reverse.getD i 0), cs2.length, (fun i => cs2.reverse.getD i 0)), (F2, F, P, G, nx, u, fl, hn, ch), (v, w, sv, svm), (kp, kc)) := by
          obtain ⟨-, -, l3, l4, l5, l6, l7⟩ := zPP_le hpp
          exact ⟨k6, by omega, l3, l4, l5, l6, l7⟩
        have hr2 : zMr p2 sn sk cs2.length (fun i => cs2.reverse.getD i 0) := ⟨hsk.1, hMe1.2.1.2.1, hMe1.2.1.2.2.1, hsk.2, g9, hl40, g10⟩
        have ev : y9.toInt = r.toInt := by
          have e5 : r = z8 := Value.int.inj (Option.some.inj e4)
          rw [e5]
          omega
        exact ⟨v1, .int r, p1, p2, ⟨xat0 hP, xat170 b1⟩, a1, a2, ⟨q1, (Option.some.inj e3).trans (congrArg Value.int (Int32.toInt_inj.mp ev))⟩, b2, ((R, C, rk, sn, sk), (Cs.length, (fun i => Cs.reverse.getD i 0), cs2.length, (fun i => cs2.reverse.getD i 0)), (F2, F, P, G, nx, u, fl, hn, ch), (v, w, sv, svm), (kp, kc)), hLE2, hpn, ⟨⟨K2, ⟨K2.1, hi2, hf2, hF2⟩, (eG 10 1 (by omega) (by omega) (by omega)).trans g6, (eG 10 2 (by omega) (by omega) (by omega)).trans g7, hB2, h42⟩, d2⟩, hM2, hMl2, hr2, k5⟩
      · omega
    · omega
  · rcases W1 with ⟨g1, -⟩ | ⟨g1, g3, g6, g7⟩
    · omega
    · rcases W2 with ⟨g8, -⟩ | ⟨g8, g9, g10⟩
      · omega
      · have hf2 : zFm p2 F cn cd := by
          have q1 := (eA F 1 (by omega) (by omega) (by omega) (by omega) (by omega) (by omega) (by omega)).trans hX.1.2.2.1.2.2.1
          have q2 : ∀ i, i < cn → zc p2 (F + 1) i = some (.int (zcc (cd i))) := fun i hi => (eA (F + 1) i (by omega) (by omega) (by omega) (by omega) (by omega) (by omega) (by omega)).trans (hX.1.2.2.1.2.2.2.2.2.1 i hi)
          rcases hX.1.2.2.2 with e | e
          · subst e
            exact ⟨zsg hS2 zs_11_0, zsg hS2 zs_11_8, q1, hX.1.2.2.1.2.2.2.1, hX.1.2.2.1.2.2.2.2.1, q2, hX.1.2.2.1.2.2.2.2.2.2⟩
          · subst e
            exact ⟨zsg hS2 zs_16_0, zsg hS2 zs_16_8, q1, hX.1.2.2.1.2.2.2.1, hX.1.2.2.1.2.2.2.2.1, q2, hX.1.2.2.1.2.2.2.2.2.2⟩
        have hr2 : zMr p2 sn sk cm cdm := ⟨hsk.1, hMe1.2.1.2.1, hMe1.2.1.2.2.1, hsk.2, g9.trans hMe1.2.1.2.2.2.2.1, hMe1.2.1.2.2.2.2.2.1, fun i hi => ⟨(g10 i).trans (hMe1.2.1.2.2.2.2.2.2 i hi).1, (hMe1.2.1.2.2.2.2.2.2 i hi).2⟩⟩
        have ev : y9.toInt = r.toInt := by
          have e5 : r = z8 := Value.int.inj (Option.some.inj e4)
          rw [e5]
          omega
        exact ⟨v1, .int r, p1, p2, ⟨xat0 hP, xat170 b1⟩, a1, a2, ⟨q1, (Option.some.inj e3).trans (congrArg Value.int (Int32.toInt_inj.mp ev))⟩, b2, ((R, C, rk, sn, sk), (cn, cd, cm, cdm), (F, F2, P, G, nx, u, fl, hn, ch), (v, w, sv, svm), (kp, kc)), hLE2, zPP_le hpp, ⟨⟨K2, ⟨K2.1, hi2, hf2, hX.1.2.2.2⟩, (eG 10 1 (by omega) (by omega) (by omega)).trans g6, (eG 10 2 (by omega) (by omega) (by omega)).trans g7, hB2, h42⟩, d2⟩, hM2, hMl2, hr2, hMe1.2.2⟩

/-! another RULE tried: class and reference, by W; printed by wip/z/z2b_law.py -/
/-- the codes that were read, in their order -/
def zCd (Cs : List Nat) (i : Nat) : Nat := Cs.reverse.getD i 0
theorem zFc_cd {q : pm_H} {F : Nat} {Cs : List Nat} (h : zFc q F Cs) : ∀ i, i < Cs.length → zc q (F + 1) i = some (.int (zcc (zCd Cs i))) := fun i hi => by
  have e1 : Cs[Cs.length - 1 - i]? = some (zCd Cs i) := by
    show _ = some (Cs.reverse.getD i 0)
    rw [List.getD_eq_getElem?_getD, List.getElem?_reverse hi, List.getElem?_eq_getElem (by omega)]
    rfl
  have h1 := (h.2 _ _ e1).1
  rwa [show Cs.length - 1 - (Cs.length - 1 - i) = i by omega] at h1
/-- what the class's law may write -/
def zLw (F2 : Nat) (p q : pm_H) : Prop := zFr [F2 + 1, F2 + 2, F2 + 3, 4, 8, 9, 15, 20, 22, 23, 24] [(F2, 1), (F2, 3), (F2, 5), (F2, 6), (F2, 7), (1, 1), (5, 4), (3, 1)] p q
theorem zLw_f {F2 : Nat} {p q : pm_H} (f : zFr [F2 + 1, F2 + 2, F2 + 3] [(F2, 1), (F2, 3), (F2, 5), (F2, 6), (F2, 7), (1, 1)] p q) : zLw F2 p q := zFr_mono f (by simp) (by simp)
theorem zLw_x {F2 : Nat} {p q : pm_H} (f : zCx p q) : zLw F2 p q := zFr_mono f (by simp) (by simp)
theorem zLw_n {F2 : Nat} {p q : pm_H} (f : zFr [4] [(3, 1)] p q) : zLw F2 p q := zFr_mono f (by simp) (by simp)
theorem zf_S {F2 : Nat} (h2 : F2 = 11 ∨ F2 = 16) {p q : pm_H} (f : zFr [F2 + 1, F2 + 2, F2 + 3] [(F2, 1), (F2, 3), (F2, 5), (F2, 6), (F2, 7), (1, 1)] p q) (h : zSh p) : zSh q := by
  rcases h2 with e | e <;> subst e <;> exact zSh_F f (by decide +kernel) h
theorem zf_e {F F2 : Nat} (h2 : (F = 11 ∧ F2 = 16) ∨ (F = 16 ∧ F2 = 11)) {p q : pm_H} {E : zEn} (f : zFr [F2 + 1, F2 + 2, F2 + 3] [(F2, 1), (F2, 3), (F2, 5), (F2, 6), (F2, 7), (1, 1)] p q) (h : zCe p E F) : zCe q E F := by
  refine ⟨zCl_F f (by simp <;> omega) (by intro i hi; simp <;> omega) (by simp <;> omega) h.1, zCi_F f (by simp <;> omega) (by simp <;> omega) h.2.1, zFm_F f (by simp <;> omega) (by simp <;> omega) h.2.2.1, h.2.2.2⟩
theorem zf_t {F2 P G : Nat} {v : Nat → Nat} (h2 : F2 = 11 ∨ F2 = 16) {p q : pm_H} (f : zFr [F2 + 1, F2 + 2, F2 + 3] [(F2, 1), (F2, 3), (F2, 5), (F2, 6), (F2, 7), (1, 1)] p q) (h : zCt p 25 P G v) : zCt q 25 P G v := ⟨⟨h.1.1, zSs_F f (by simp <;> omega) (by simp <;> omega) h.1.2⟩, zSd_F f (by intro i hi; simp <;> omega) (by intro j i hj; simp <;> omega) h.2⟩
theorem zf_c {F2 R C : Nat} {rk : Nat → Bool} (h2 : F2 = 11 ∨ F2 = 16) {p q : pm_H} (f : zFr [F2 + 1, F2 + 2, F2 + 3] [(F2, 1), (F2, 3), (F2, 5), (F2, 6), (F2, 7), (1, 1)] p q) (h : zCc p R C rk) : zCc q R C rk := zCc_F f (by simp <;> omega) (by simp <;> omega) (by simp <;> omega) h
theorem zc_law {ph : pm_H} {R C sn cn F F2 P G ln : Nat} {rk : Nat → Bool} {sk cd v t : Nat → Nat} {cm : Nat → Bool} (hS : zSh ph) (hE : zCe ph (R, C, rk, sn, sk, cn, cd) F) (ht : zCt ph 25 P G v) (hO : zOk R C P G v) (hr : zc ph 10 1 = some (.ref F)) (ho : zc ph 10 2 = some (.ref F2)) (h2 : (F = 11 ∧ F2 = 16) ∨ (F = 16 ∧ F2 = 11)) (hc : zCc ph R C rk) (hT : zTc ph ln t) (hp : zFp ph F2) (hb : zFb ph F2 cm) (hg : ∀ (Cs : List Nat), zOut ln t ([], [], zub cm 0 false, 0, 0, true) (-1) Cs → zcg Cs.length (zCd Cs) ∧ 1 ≤ Cs.length ∧ Cs.length ≤ 40) : zM 173 [.ref 0] ph (fun v0 q => zLw F2 ph q ∧ zCc q R C rk ∧ ∃ (z y : Int32) (Cs : List Nat), zOut ln t ([], [], zub cm 0 false, 0, 0, true) z.toInt Cs ∧ v0 = some (.int y) ∧ ((0 ≤ z.toInt ∧ y.toInt = -10000 - z.toInt) ∨ (z.toInt = -1 ∧ y = zpcl (zAll (R, C, rk, sn, sk, Cs.length, zCd Cs) P v) - zpcl (zAll (R, C, rk, sn, sk, cn, cd) P v)))) := by
  obtain ⟨Q, hQ⟩ : ∃ Q : Option Value → pm_H → Prop, Q = (fun v0 q => zLw F2 ph q ∧ zCc q R C rk ∧ ∃ (z y : Int32) (Cs : List Nat), zOut ln t ([], [], zub cm 0 false, 0, 0, true) z.toInt Cs ∧ v0 = some (.int y) ∧ ((0 ≤ z.toInt ∧ y.toInt = -10000 - z.toInt) ∨ (z.toInt = -1 ∧ y = zpcl (zAll (R, C, rk, sn, sk, Cs.length, zCd Cs) P v) - zpcl (zAll (R, C, rk, sn, sk, cn, cd) P v)))) := ⟨_, rfl⟩
  rw [← hQ]
  refine zM_mk fun n D => ?_
  show zW n D 173 Q 0 [some (.ref 0), none, none, none] [] ph
  have c_0 : ((Int16.ofInt (-10000)).toInt32).toInt = -10000 := by decide
  have hF2 : F2 = 11 ∨ F2 = 16 := by omega
  refine w_load (pc' := 1) (v := .ref 0) (m := 1) (ykc_173 (e := (2, .aload_n kF0, 0)) rfl) rfl rfl ?_
  refine w_gf (pc' := 4) (v := .ref 10) (ykc_173 (e := (5, .getfield 35, 0)) rfl) rfl (zsg hS zs_0_3) rfl ?_
  refine w_cv (as := [.ref 10]) (r := []) (ykc_173 (e := (6, .invokevirtual 157, 0)) rfl) rfl rfl rfl rfl (zc_other ho) (fun v827 ph828 hv => ?_)
  obtain ⟨rfl, rfl⟩ := hv
  show zW n D 173 Q 7 [some (.ref 0), none, none, none] [.ref F2] ph
  refine w_load (pc' := 8) (v := .ref 0) (m := 1) (ykc_173 (e := (2, .aload_n kF0, 0)) rfl) rfl rfl ?_
  refine w_gf (pc' := 11) (v := .ref 1) (ykc_173 (e := (5, .getfield 10, 0)) rfl) rfl (zsg hS zs_0_0) rfl ?_
  refine w_cv (as := [.ref F2, .ref 1]) (r := []) (ykc_173 (e := (6, .invokevirtual 161, 0)) rfl) rfl rfl rfl rfl (zc_fread hS hF2 hT hp hb) (fun v829 ph830 hv => ?_)
  rcases hv with ⟨f1, hcm9, z9, Cs, rfl, ho9, hc9⟩
  · have hzr : z9.toInt = -1 ∨ 0 ≤ z9.toInt := by
      rcases ho9 with ⟨-, q, -⟩ | ⟨-, -, q, -⟩ | ⟨-, p9, s9, -, -, -, q, -⟩ <;> omega
    have hz40 : z9.toInt ≤ 80 := by
      rcases ho9 with ⟨-, q, -⟩ | ⟨-, -, q, -⟩ | ⟨-, p9, s9, q2, q3, -, q, -⟩ <;> omega
    show zW n D 173 Q 14 [some (.ref 0), none, none, none] [.int z9] ph830
    refine w_store (pc' := 15) (L' := [some (.ref 0), some (.int z9), none, none]) (st' := []) (m := 1) (ykc_173 (e := (3, .istore_n kF1, 0)) rfl) rfl rfl ?_
    refine w_load (pc' := 16) (v := .ref 0) (m := 1) (ykc_173 (e := (2, .aload_n kF0, 0)) rfl) rfl rfl ?_
    refine w_gf (pc' := 19) (v := .ref 1) (ykc_173 (e := (5, .getfield 10, 0)) rfl) rfl ((f1.1 0 0 (by simp <;> omega) (by simp <;> omega)).trans (zsg hS zs_0_0)) rfl ?_
    refine w_cv (as := [.ref 1]) (r := []) (ykc_173 (e := (6, .invokevirtual 119, 0)) rfl) rfl rfl rfl rfl (zc_tclear) (fun v831 ph832 hv => ?_)
    obtain ⟨rfl, f2, h11⟩ := hv
    have f3 : zFr [F2 + 1, F2 + 2, F2 + 3] [(F2, 1), (F2, 3), (F2, 5), (F2, 6), (F2, 7), (1, 1)] ph ph832 := zFr_trans (zFr_mono f1 (by simp) (by simp)) (zFr_mono f2 (by simp) (by simp))
    show zW n D 173 Q 22 [some (.ref 0), some (.int z9), none, none] [] ph832
    refine w_load (pc' := 23) (v := .int z9) (m := 1) (ykc_173 (e := (2, .iload_n kF1, 0)) rfl) rfl rfl ?_
    refine w_zlt (ykc_173 (e := (4, .ifCond .lt 9, 32)) rfl) rfl (fun b833 => ?_) (fun b833 => ?_)
    · refine w_load (pc' := 33) (v := .ref 0) (m := 1) (ykc_173 (e := (2, .aload_n kF0, 0)) rfl) rfl rfl ?_
      refine w_gf (pc' := 36) (v := .ref 10) (ykc_173 (e := (5, .getfield 35, 0)) rfl) rfl ((f2.1 0 3 (by decide) (by decide)).trans ((f1.1 0 3 (by simp <;> omega) (by simp <;> omega)).trans (zsg hS zs_0_3))) rfl ?_
      refine w_load (pc' := 37) (v := .ref 0) (m := 1) (ykc_173 (e := (2, .aload_n kF0, 0)) rfl) rfl rfl ?_
      refine w_gf (pc' := 40) (v := .ref 10) (ykc_173 (e := (5, .getfield 35, 0)) rfl) rfl ((f2.1 0 3 (by decide) (by decide)).trans ((f1.1 0 3 (by simp <;> omega) (by simp <;> omega)).trans (zsg hS zs_0_3))) rfl ?_
      refine w_cv (as := [.ref 10]) (r := [.ref 10]) (ykc_173 (e := (6, .invokevirtual 157, 0)) rfl) rfl rfl rfl rfl (zc_other ((f3.1 10 2 (by simp <;> omega) (by simp <;> omega)).trans ho)) (fun v834 ph835 hv => ?_)
      obtain ⟨rfl, rfl⟩ := hv
      show zW n D 173 Q 43 [some (.ref 0), some (.int z9), none, none] [.ref F2, .ref 10] ph832
      refine w_load (pc' := 44) (v := .ref 0) (m := 1) (ykc_173 (e := (2, .aload_n kF0, 0)) rfl) rfl rfl ?_
      refine w_gf (pc' := 47) (v := .ref 25) (ykc_173 (e := (5, .getfield 42, 0)) rfl) rfl ((f2.1 0 4 (by decide) (by decide)).trans ((f1.1 0 4 (by simp <;> omega) (by simp <;> omega)).trans (zsg hS zs_0_4))) rfl ?_
      have hz1 : z9.toInt = -1 := by omega
      have hg9 := hg Cs (by rw [← hz1]; exact ho9)
      have hS3 := zf_S hF2 f3 hS
      have hE3 := zf_e h2 f3 hE
      have ht3 := zf_t hF2 f3 ht
      have hc3 := zf_c hF2 f3 hc
      have hfc := zFc_F f2 (by simp) (by simp <;> omega) (hc9 hz1)
      have hE4 : zCe ph832 (R, C, rk, sn, sk, Cs.length, zCd Cs) F2 := ⟨hE3.1, hE3.2.1, ⟨by rcases hF2 with e | e <;> subst e <;> first | exact zsg hS3 zs_11_0 | exact zsg hS3 zs_16_0, by rcases hF2 with e | e <;> subst e <;> first | exact zsg hS3 zs_11_8 | exact zsg hS3 zs_16_8, hfc.1, hg9.2.1, hg9.2.2, zFc_cd hfc, hg9.1⟩, hF2⟩
      refine w_cv (as := [.ref 10, .ref F2, .ref 25]) (r := []) (ykc_173 (e := (6, .invokevirtual 390, 0)) rfl) rfl rfl rfl rfl (zc_look hS3 hE4 ht3 hO hc3) (fun v836 ph837 hv => ?_)
      obtain ⟨f4, hc4, -, rfl⟩ := hv
      show zW n D 173 Q 50 [some (.ref 0), some (.int z9), none, none] [.long (zAll (R, C, rk, sn, sk, Cs.length, zCd Cs) P v)] ph837
      refine w_cs (as := [.long (zAll (R, C, rk, sn, sk, Cs.length, zCd Cs) P v)]) (r := []) (ykc_173 (e := (6, .invokestatic 305, 0)) rfl) rfl rfl rfl rfl (zj_pcl) (fun v838 ph839 hv => ?_)
      obtain ⟨rfl, rfl⟩ := hv
      show zW n D 173 Q 53 [some (.ref 0), some (.int z9), none, none] [.int (zpcl (zAll (R, C, rk, sn, sk, Cs.length, zCd Cs) P v))] ph837
      refine w_store (pc' := 54) (L' := [some (.ref 0), some (.int z9), some (.int (zpcl (zAll (R, C, rk, sn, sk, Cs.length, zCd Cs) P v))), none]) (st' := []) (m := 1) (ykc_173 (e := (3, .istore_n kF2, 0)) rfl) rfl rfl ?_
      refine w_load (pc' := 55) (v := .ref 0) (m := 1) (ykc_173 (e := (2, .aload_n kF0, 0)) rfl) rfl rfl ?_
      refine w_gf (pc' := 58) (v := .ref 10) (ykc_173 (e := (5, .getfield 35, 0)) rfl) rfl ((f4.1 0 3 (by decide) (by decide)).trans ((f2.1 0 3 (by decide) (by decide)).trans ((f1.1 0 3 (by simp <;> omega) (by simp <;> omega)).trans (zsg hS zs_0_3)))) rfl ?_
      refine w_load (pc' := 59) (v := .ref 0) (m := 1) (ykc_173 (e := (2, .aload_n kF0, 0)) rfl) rfl rfl ?_
      refine w_gf (pc' := 62) (v := .ref 25) (ykc_173 (e := (5, .getfield 42, 0)) rfl) rfl ((f4.1 0 4 (by decide) (by decide)).trans ((f2.1 0 4 (by decide) (by decide)).trans ((f1.1 0 4 (by simp <;> omega) (by simp <;> omega)).trans (zsg hS zs_0_4)))) rfl ?_
      have hS4 := zCx_S f4 hS3
      have hr4 : zc ph837 10 1 = some (.ref F) := (f4.1 10 1 (by decide) (by decide)).trans ((f3.1 10 1 (by simp <;> omega) (by simp <;> omega)).trans hr)
      refine w_cv (as := [.ref 10, .ref 25]) (r := []) (ykc_173 (e := (6, .invokevirtual 208, 0)) rfl) rfl rfl rfl rfl (zc_lookR hS4 (zCx_e f4 hE3) (zCx_t f4 ht3) hO hr4 hc4) (fun v840 ph841 hv => ?_)
      obtain ⟨f5, hc5, -, rfl⟩ := hv
      have hS5 := zCx_S f5 hS4
      show zW n D 173 Q 65 [some (.ref 0), some (.int z9), some (.int (zpcl (zAll (R, C, rk, sn, sk, Cs.length, zCd Cs) P v))), none] [.long (zAll (R, C, rk, sn, sk, cn, cd) P v)] ph841
      refine w_cs (as := [.long (zAll (R, C, rk, sn, sk, cn, cd) P v)]) (r := []) (ykc_173 (e := (6, .invokestatic 305, 0)) rfl) rfl rfl rfl rfl (zj_pcl) (fun v842 ph843 hv => ?_)
      obtain ⟨rfl, rfl⟩ := hv
      show zW n D 173 Q 68 [some (.ref 0), some (.int z9), some (.int (zpcl (zAll (R, C, rk, sn, sk, Cs.length, zCd Cs) P v))), none] [.int (zpcl (zAll (R, C, rk, sn, sk, cn, cd) P v))] ph841
      refine w_store (pc' := 69) (L' := [some (.ref 0), some (.int z9), some (.int (zpcl (zAll (R, C, rk, sn, sk, Cs.length, zCd Cs) P v))), some (.int (zpcl (zAll (R, C, rk, sn, sk, cn, cd) P v)))]) (st' := []) (m := 1) (ykc_173 (e := (3, .istore_n kF3, 0)) rfl) rfl rfl ?_
      refine w_load (pc' := 70) (v := .ref 0) (m := 1) (ykc_173 (e := (2, .aload_n kF0, 0)) rfl) rfl rfl ?_
      refine w_gf (pc' := 73) (v := .ref 3) (ykc_173 (e := (5, .getfield 19, 0)) rfl) rfl ((f5.1 0 1 (by decide) (by decide)).trans ((f4.1 0 1 (by decide) (by decide)).trans ((f2.1 0 1 (by decide) (by decide)).trans ((f1.1 0 1 (by simp <;> omega) (by simp <;> omega)).trans (zsg hS zs_0_1))))) rfl ?_
      refine w_cv (as := [.ref 3]) (r := []) (ykc_173 (e := (6, .invokevirtual 245, 0)) rfl) rfl rfl rfl rfl (zc_anew) (fun v844 ph845 hv => ?_)
      obtain ⟨rfl, f8, hn8⟩ := hv
      show zW n D 173 Q 76 [some (.ref 0), some (.int z9), some (.int (zpcl (zAll (R, C, rk, sn, sk, Cs.length, zCd Cs) P v))), some (.int (zpcl (zAll (R, C, rk, sn, sk, cn, cd) P v)))] [.ref 3] ph845
      refine w_load (pc' := 77) (v := .int (zpcl (zAll (R, C, rk, sn, sk, Cs.length, zCd Cs) P v))) (m := 1) (ykc_173 (e := (2, .iload_n kF2, 0)) rfl) rfl rfl ?_
      refine w_alu (pc' := 78) (st' := [.long ((zpcl (zAll (R, C, rk, sn, sk, Cs.length, zCd Cs) P v)).toInt64), .ref 3]) (ykc_173 (e := (0, .i2l, 0)) rfl) rfl rfl ?_
      refine w_cv (as := [.ref 3, .long ((zpcl (zAll (R, C, rk, sn, sk, Cs.length, zCd Cs) P v)).toInt64)]) (r := []) (ykc_173 (e := (6, .invokevirtual 252, 0)) rfl) rfl rfl rfl rfl (zc_add (k := 0) (x := (zpcl (zAll (R, C, rk, sn, sk, Cs.length, zCd Cs) P v)).toInt64) (zSh_F f8 (by decide +kernel) hS5) hn8 (by decide)) (fun v846 ph847 hv => ?_)
      obtain ⟨rfl, f10, hn10⟩ := hv
      show zW n D 173 Q 81 [some (.ref 0), some (.int z9), some (.int (zpcl (zAll (R, C, rk, sn, sk, Cs.length, zCd Cs) P v))), some (.int (zpcl (zAll (R, C, rk, sn, sk, cn, cd) P v)))] [.ref 3] ph847
      refine w_load (pc' := 82) (v := .int (zpcl (zAll (R, C, rk, sn, sk, cn, cd) P v))) (m := 1) (ykc_173 (e := (2, .iload_n kF3, 0)) rfl) rfl rfl ?_
      refine w_alu (pc' := 83) (st' := [.long ((zpcl (zAll (R, C, rk, sn, sk, cn, cd) P v)).toInt64), .ref 3]) (ykc_173 (e := (0, .i2l, 0)) rfl) rfl rfl ?_
      refine w_cv (as := [.ref 3, .long ((zpcl (zAll (R, C, rk, sn, sk, cn, cd) P v)).toInt64)]) (r := []) (ykc_173 (e := (6, .invokevirtual 252, 0)) rfl) rfl rfl rfl rfl (zc_add (k := 1) (x := (zpcl (zAll (R, C, rk, sn, sk, cn, cd) P v)).toInt64) (zSh_F f10 (by decide +kernel) (zSh_F f8 (by decide +kernel) hS5)) hn10 (by decide)) (fun v848 ph849 hv => ?_)
      obtain ⟨rfl, f11, hn11⟩ := hv
      show zW n D 173 Q 86 [some (.ref 0), some (.int z9), some (.int (zpcl (zAll (R, C, rk, sn, sk, Cs.length, zCd Cs) P v))), some (.int (zpcl (zAll (R, C, rk, sn, sk, cn, cd) P v)))] [.ref 3] ph849
      refine w_alu (pc' := 87) (st' := []) (ykc_173 (e := (0, .pop, 0)) rfl) rfl rfl ?_
      refine w_load (pc' := 88) (v := .int (zpcl (zAll (R, C, rk, sn, sk, Cs.length, zCd Cs) P v))) (m := 1) (ykc_173 (e := (2, .iload_n kF2, 0)) rfl) rfl rfl ?_
      refine w_load (pc' := 89) (v := .int (zpcl (zAll (R, C, rk, sn, sk, cn, cd) P v))) (m := 1) (ykc_173 (e := (2, .iload_n kF3, 0)) rfl) rfl rfl ?_
      refine w_alu (pc' := 90) (st' := [.int ((zpcl (zAll (R, C, rk, sn, sk, Cs.length, zCd Cs) P v)) - (zpcl (zAll (R, C, rk, sn, sk, cn, cd) P v)))]) (ykc_173 (e := (0, .isub, 0)) rfl) rfl rfl ?_
      refine w_ret (v := (some (.int ((zpcl (zAll (R, C, rk, sn, sk, Cs.length, zCd Cs) P v)) - (zpcl (zAll (R, C, rk, sn, sk, cn, cd) P v)))))) (ykc_173 (e := (7, .ireturn, 0)) rfl) (zr_v rfl) ?_
      rw [hQ]
      exact ⟨zFr_trans (zLw_f f3) (zFr_trans (zLw_x f4) (zFr_trans (zLw_x f5) (zFr_trans (zLw_n f8) (zFr_trans (zLw_n f10) (zLw_n f11))))), zCc_F f11 (by simp) (by simp) (by simp) (zCc_F f10 (by simp) (by simp) (by simp) (zCc_F f8 (by simp) (by simp) (by simp) hc5)), z9, _, Cs, ho9, rfl, Or.inr ⟨hz1, rfl⟩⟩
    · refine w_push (pc' := 29) (v := .int ((Int16.ofInt (-10000)).toInt32)) (m := 3) (ykc_173 (e := (1, .sipush (-10000), 0)) rfl) rfl rfl ?_
      refine w_load (pc' := 30) (v := .int z9) (m := 1) (ykc_173 (e := (2, .iload_n kF1, 0)) rfl) rfl rfl ?_
      obtain ⟨z850, e_z850, h_z850⟩ : ∃ zq : Int32, ((Int16.ofInt (-10000)).toInt32) - z9 = zq ∧ zq.toInt = (-10000 : Int) - z9.toInt := ⟨_, rfl, (by have := ti_sub (x := ((Int16.ofInt (-10000)).toInt32)) (y := z9) (by omega) (by omega); omega)⟩
      refine w_alu (pc' := 31) (st' := [.int z850]) (ykc_173 (e := (0, .isub, 0)) rfl) (by rw [← e_z850]; rfl) rfl ?_
      refine w_ret (v := (some (.int z850))) (ykc_173 (e := (7, .ireturn, 0)) rfl) (zr_v rfl) ?_
      rw [hQ]
      exact ⟨zLw_f f3, zf_c hF2 f3 hc, z9, _, Cs, ho9, rfl, Or.inl ⟨by omega, by omega⟩⟩
  
/-- what the reference's law writes: till it lays the codes; in all -/
def zFA (p q : pm_H) : Prop := zFr [180, 181, 182, 197] [(170, 0), (170, 14), (170, 15), (170, 16), (170, 17), (170, 24)] p q
def zFL (p q : pm_H) : Prop := zFr [171, 179, 180, 181, 182, 197] [(170, 0), (170, 1), (170, 14), (170, 15), (170, 16), (170, 17), (170, 23), (170, 24)] p q
theorem zFA_L {p q : pm_H} (f : zFA p q) : zFL p q := zFr_mono f (by simp) (by simp)
theorem zFL_S {p q : pm_H} (f : zFL p q) (h : zSh p) : zSh q := zSh_F f (by decide +kernel) h
theorem zFL_l {p q : pm_H} {R C : Nat} {rk : Nat → Bool} (f : zFL p q) (h : zMl p R C rk) : zMl q R C rk := zMl_F f (by simp) (by simp) (by simp) (by simp) h
theorem zFL_p {p q : pm_H} {P G : Nat} (f : zFL p q) (h : zMp p P G) : zMp q P G := zMp_F f (by simp) (by simp) (by simp) h
theorem zFL_n {p q : pm_H} {v : Nat → Nat} (f : zFL p q) (h : zNr p 174 0 v) : zNr q 174 0 v := zNr_F f (by simp) (by simp) h
theorem zFA_e {p q : pm_H} {E : zEn} (f : zFA p q) (h : zMe p E) : zMe q E := ⟨zFL_l (zFA_L f) h.1, zMr_F f (by simp) (by simp) (by simp) (by simp) h.2.1, h.2.2⟩
theorem zFL_m {p q : pm_H} {R C sn cm cn : Nat} {rk : Nat → Bool} {sk cdm cd : Nat → Nat} (f : zFL p q) (h : zMe p (R, C, rk, sn, sk, cm, cdm)) (h23 : zc q 170 23 = some (.int (zn cn))) (hl : cn ≤ 40) (h179 : ∀ i, i < cn → zc q 179 i = some (.int (zn (cd i))) ∧ cd i ≤ 3000) (hcg : zcg cn cd) : zMe q (R, C, rk, sn, sk, cn, cd) := ⟨zFL_l f h.1, ⟨(f.1 170 8 (by simp) (by simp)).trans h.2.1.1, h.2.1.2.1, h.2.1.2.2.1, fun i hi => ⟨(f.1 173 i (by simp) (by simp)).trans (h.2.1.2.2.2.1 i hi).1, (h.2.1.2.2.2.1 i hi).2⟩, h23, hl, h179⟩, hcg⟩
theorem zm_laysWas {ph : pm_H} {cn : Nat} {cd : Nat → Nat} (hS : zSh ph) (hw : ∀ i, i < cn → zc ph 197 i = some (.int (zn (cd i)))) (hl : cn ≤ 40) : zM 216 [.ref 170, .ref 197, .int (zn cn)] ph (fun v0 q => v0 = none ∧ zFr [179] [(170, 23)] ph q ∧ zc q 170 23 = some (.int (zn cn)) ∧ ∀ i, i < cn → zc q 179 i = some (.int (zn (cd i)))) := by
  obtain ⟨Q, hQ⟩ : ∃ Q : Option Value → pm_H → Prop, Q = (fun v0 q => v0 = none ∧ zFr [179] [(170, 23)] ph q ∧ zc q 170 23 = some (.int (zn cn)) ∧ ∀ i, i < cn → zc q 179 i = some (.int (zn (cd i)))) := ⟨_, rfl⟩
  rw [← hQ]
  refine zM_mk fun n D => ?_
  show zW n D 216 Q 0 [some (.ref 170), some (.ref 197), some (.int (zn cn)), none] [] ph
  have c_0 : (Int32.ofInt 0).toInt = 0 := by decide
  have c_1 : (Int32.ofInt 1).toInt = 1 := by decide
  have tl := znt (k := cn) (by omega)
  refine w_load (pc' := 1) (v := .ref 170) (m := 1) (ykc_216 (e := (2, .aload_n kF0, 0)) rfl) rfl rfl ?_
  refine w_load (pc' := 2) (v := .int (zn cn)) (m := 1) (ykc_216 (e := (2, .iload_n kF2, 0)) rfl) rfl rfl ?_
  refine w_pf (pc' := 5) (ykc_216 (e := (5, .putfield 248, 0)) rfl) rfl rfl (fun ph852 u851 => ?_)
  refine w_alu (pc' := 6) (st' := [.int (Int32.ofInt 0)]) (ykc_216 (e := (0, .iconst 0, 0)) rfl) rfl rfl ?_
  refine w_store (pc' := 7) (L' := [some (.ref 170), some (.ref 197), some (.int (zn cn)), some (.int (Int32.ofInt 0))]) (st' := []) (m := 1) (ykc_216 (e := (3, .istore_n kF3, 0)) rfl) rfl rfl ?_
  have hl9 : ∀ (n : Nat), ∀ (k : Nat) (p : pm_H), (k ≤ cn) → (zFr [179] [] ph852 p) → (∀ i, i < k → zc p 179 i = some (.int (zn (cd i)))) → zW n D 216 Q 7 [some (.ref 170), some (.ref 197), some (.int (zn cn)), some (.int (zn k))] [] p := by
    intro n
    induction n using Nat.strongRecOn with
    | ind n ih =>
      intro k p hk hf hg
      have tk := znt (k := k) (by omega)
      have fz : zFr [179] [(170, 23)] ph p := zFr_trans (zFr_st u851 (Or.inr (by simp))) (zFr_mono hf (by simp) (by simp))
      have hx9 : k < cn → zc p 197 k = some (.int (zn (cd k))) := fun h => (fz.1 197 k (by simp) (by simp)).trans (hw k h)
      refine w_load (pc' := 8) (v := .int (zn k)) (m := 1) (ykc_216 (e := (2, .iload_n kF3, 0)) rfl) rfl rfl ?_
      refine w_load (pc' := 9) (v := .int (zn cn)) (m := 1) (ykc_216 (e := (2, .iload_n kF2, 0)) rfl) rfl rfl ?_
      refine w_ige (ykc_216 (e := (4, .if_icmp .ge 18, 27)) rfl) rfl (fun b853 => ?_) (fun b853 => ?_)
      · refine w_ret (v := none) (ykc_216 (e := (7, .return_, 0)) rfl) (zr_v rfl) ?_
        have ek : k = cn := by omega
        subst ek
        rw [hQ]
        exact ⟨rfl, fz, (hf.1 170 23 (by decide) (by decide)).trans u851.1, hg⟩
      · refine w_load (pc' := 13) (v := .ref 170) (m := 1) (ykc_216 (e := (2, .aload_n kF0, 0)) rfl) rfl rfl ?_
        refine w_gf (pc' := 16) (v := .ref 179) (ykc_216 (e := (5, .getfield 56, 0)) rfl) rfl (zsg (zSh_F fz (by decide +kernel) hS) zs_170_21) rfl ?_
        refine w_load (pc' := 17) (v := .int (zn k)) (m := 1) (ykc_216 (e := (2, .iload_n kF3, 0)) rfl) rfl rfl ?_
        refine w_load (pc' := 18) (v := .ref 197) (m := 1) (ykc_216 (e := (2, .aload_n kF1, 0)) rfl) rfl rfl ?_
        refine w_load (pc' := 19) (v := .int (zn k)) (m := 1) (ykc_216 (e := (2, .iload_n kF3, 0)) rfl) rfl rfl ?_
        refine w_ialk (pc' := 20) (k := k) (ykc_216 (e := (5, .iaload, 0)) rfl) (hx9 (by omega)) (by omega) rfl ?_
        refine w_ias (pc' := 21) (k := k) (ykc_216 (e := (5, .iastore, 0)) rfl) (by omega) rfl (fun ph855 u854 => ?_)
        have e856 : (zn k) + Int32.ofInt 1 = zn (k + 1) := (zaddN (a := k) (b := 1) (znt (by omega)) c_1 (by omega))
        have te856 := znt (k := k + 1) (by omega)
        refine w_store (pc' := 24) (L' := [some (.ref 170), some (.ref 197), some (.int (zn cn)), some (.int (zn (k + 1)))]) (st' := []) (m := 3) (ykc_216 (e := (3, .iinc 3 1, 0)) rfl) (by rw [← e856]; rfl) rfl ?_
        refine w_gb (ykc_216 (e := (4, .goto (-17), 7)) rfl) (fun k857 hk857 => ?_)
        exact ih k857 hk857 (k + 1) _ (by omega) (zFr_add hf u854 (Or.inl (by simp))) (fun i hi => by
          by_cases e : i = k
          · subst e; exact u854.1
          · exact (u854.2.1 179 i (fun q => e q.2)).trans (hg i (by omega)))
  exact hl9 n 0 _ (Nat.zero_le _) zFr_refl (fun i hi => absurd hi (Nat.not_lt_zero i))
theorem zm_law {ph : pm_H} {R C sn cm P G ln : Nat} {rk : Nat → Bool} {sk cdm v t : Nat → Nat} (hS : zSh ph) (hE : zMe ph (R, C, rk, sn, sk, cm, cdm)) (hN : zMp ph P G) (hrow : zNr ph 174 0 v) (hO : zOk R C P G v) (hn : zc ph 170 14 = some (.int (zn ln))) (hn80 : ln ≤ 80) (gt : ∀ i, i < ln → zc ph 176 i = some (.int (zn (t i))) ∧ t i < 256) : zM 290 [.ref 170] ph (fun v0 q => zFL ph q ∧ zc q 170 23 = some (.int (zn cm)) ∧ (∀ i, i < cm → zc q 179 i = some (.int (zn (cdm i)))) ∧ ∃ (ok : Bool) (a2 : Nat) (cs2 : List Nat) (y : Int32), zRu ln t ok a2 cs2 ∧ cs2.length ≤ 40 ∧ v0 = some (.int y) ∧ ((zFo ln 40 a2 (min ln 40) ok < 0 ∧ y.toInt = zFo ln 40 a2 (min ln 40) ok + 1 - 10000) ∨ (zFo ln 40 a2 (min ln 40) ok = 0 ∧ y = zpcl (zAll (R, C, rk, sn, sk, cs2.length, zCd cs2) P v) - zpcl (zAll (R, C, rk, sn, sk, cm, cdm) P v)))) := by
  obtain ⟨Q, hQ⟩ : ∃ Q : Option Value → pm_H → Prop, Q = (fun v0 q => zFL ph q ∧ zc q 170 23 = some (.int (zn cm)) ∧ (∀ i, i < cm → zc q 179 i = some (.int (zn (cdm i)))) ∧ ∃ (ok : Bool) (a2 : Nat) (cs2 : List Nat) (y : Int32), zRu ln t ok a2 cs2 ∧ cs2.length ≤ 40 ∧ v0 = some (.int y) ∧ ((zFo ln 40 a2 (min ln 40) ok < 0 ∧ y.toInt = zFo ln 40 a2 (min ln 40) ok + 1 - 10000) ∨ (zFo ln 40 a2 (min ln 40) ok = 0 ∧ y = zpcl (zAll (R, C, rk, sn, sk, cs2.length, zCd cs2) P v) - zpcl (zAll (R, C, rk, sn, sk, cm, cdm) P v)))) := ⟨_, rfl⟩
  rw [← hQ]
  refine zM_mk fun n D => ?_
  show zW n D 290 Q 0 [some (.ref 170), none, none, none, none] [] ph
  have c_0 : ((Int16.ofInt 10000).toInt32).toInt = 10000 := by decide
  have c_1 : (Int32.ofInt 0).toInt = 0 := by decide
  have c_2 : (Int32.ofInt 1).toInt = 1 := by decide
  have hcm40 : cm ≤ 40 := hE.2.1.2.2.2.2.2.1
  have tcm := znt (k := cm) (by omega)
  refine w_load (pc' := 1) (v := .ref 170) (m := 1) (ykc_290 (e := (2, .aload_n kF0, 0)) rfl) rfl rfl ?_
  refine w_alu (pc' := 2) (st' := [.int (Int32.ofInt 0), .ref 170]) (ykc_290 (e := (0, .iconst 0, 0)) rfl) rfl rfl ?_
  refine w_pf (pc' := 5) (ykc_290 (e := (5, .putfield 3, 0)) rfl) rfl rfl (fun ph859 u858 => ?_)
  refine w_load (pc' := 6) (v := .ref 170) (m := 1) (ykc_290 (e := (2, .aload_n kF0, 0)) rfl) rfl rfl ?_
  have fu : zFr [] [(170, 0)] _ ph859 := zFr_st u858 (Or.inr (by simp))
  refine w_cv (as := [.ref 170]) (r := []) (ykc_290 (e := (6, .invokevirtual 251, 0)) rfl) rfl rfl rfl rfl (zm_rulesRead (zSh_F fu (by decide +kernel) hS) ((fu.1 170 14 (by decide) (by decide)).trans hn) hn80 (fun i hi => ⟨(fu.1 176 i (by simp) (by simp)).trans (gt i hi).1, (gt i hi).2⟩)) (fun v860 ph861 hv => ?_)
  rcases hv with ⟨f2, h14, ok, a2, cs2, z9, hru, hR2, hl2, rfl, hz9⟩
  · have tl9 := znt (k := cs2.length) (by omega)
    have g1 : zFA ph ph861 := zFr_trans (zFr_mono fu (by simp) (by simp)) (zFr_mono f2 (by simp) (by simp))
    have hF0 : zFo ln 40 a2 (min ln 40) ok ≤ 0 ∧ -100 ≤ zFo ln 40 a2 (min ln 40) ok ∧ (zFo ln 40 a2 (min ln 40) ok = 0 → ok = true) := by
      have ha9 : a2 ≤ 40 := by
        rcases hru with ⟨-, -, q, -⟩ | ⟨-, q, -⟩ <;> omega
      unfold zFo
      split
      · exact ⟨by omega, by omega, fun q => by omega⟩
      · split
        · next q => exact ⟨by omega, by omega, fun _ => q.1⟩
        · exact ⟨by omega, by omega, fun q => by omega⟩
    show zW n D 290 Q 9 [some (.ref 170), none, none, none, none] [.int z9] ph861
    refine w_store (pc' := 10) (L' := [some (.ref 170), some (.int z9), none, none, none]) (st' := []) (m := 1) (ykc_290 (e := (3, .istore_n kF1, 0)) rfl) rfl rfl ?_
    refine w_load (pc' := 11) (v := .int z9) (m := 1) (ykc_290 (e := (2, .iload_n kF1, 0)) rfl) rfl rfl ?_
    refine w_zge (ykc_290 (e := (4, .ifCond .ge 11, 22)) rfl) rfl (fun b862 => ?_) (fun b862 => ?_)
    · refine w_load (pc' := 23) (v := .ref 170) (m := 1) (ykc_290 (e := (2, .aload_n kF0, 0)) rfl) rfl rfl ?_
      refine w_load (pc' := 24) (v := .ref 170) (m := 1) (ykc_290 (e := (2, .aload_n kF0, 0)) rfl) rfl rfl ?_
      refine w_gf (pc' := 27) (v := .ref 174) (ykc_290 (e := (5, .getfield 41, 0)) rfl) rfl ((f2.1 170 11 (by decide) (by decide)).trans ((u858.2.1 170 11 (fun q => absurd q.2 (by decide))).trans (zsg hS zs_170_11))) rfl ?_
      refine w_cv (as := [.ref 170, .ref 174]) (r := []) (ykc_290 (e := (6, .invokevirtual 417, 0)) rfl) rfl rfl rfl rfl (zm_all (zFL_S (zFA_L g1) hS) (zFA_e g1 hE) (zFL_p (zFA_L g1) hN) (Or.inl rfl) (zFL_n (zFA_L g1) hrow) hO) (fun v863 ph864 hv => ?_)
      obtain ⟨f3, rfl⟩ := hv
      have g2 : zFA ph ph864 := zFr_trans g1 (zFr_mono f3 (by simp) (by simp))
      have hok : ok = true := hF0.2.2 (by omega)
      subst hok
      have hcg9 := (zRu_cg hru).1
      show zW n D 290 Q 30 [some (.ref 170), some (.int z9), none, none, none] [.long (zAll (R, C, rk, sn, sk, cm, cdm) P v)] ph864
      refine w_cs (as := [.long (zAll (R, C, rk, sn, sk, cm, cdm) P v)]) (r := []) (ykc_290 (e := (6, .invokestatic 405, 0)) rfl) rfl rfl rfl rfl (zj_pcl) (fun v865 ph866 hv => ?_)
      obtain ⟨rfl, rfl⟩ := hv
      show zW n D 290 Q 33 [some (.ref 170), some (.int z9), none, none, none] [.int (zpcl (zAll (R, C, rk, sn, sk, cm, cdm) P v))] ph864
      refine w_store (pc' := 34) (L' := [some (.ref 170), some (.int z9), some (.int (zpcl (zAll (R, C, rk, sn, sk, cm, cdm) P v))), none, none]) (st' := []) (m := 1) (ykc_290 (e := (3, .istore_n kF2, 0)) rfl) rfl rfl ?_
      refine w_load (pc' := 35) (v := .ref 170) (m := 1) (ykc_290 (e := (2, .aload_n kF0, 0)) rfl) rfl rfl ?_
      refine w_gf (pc' := 38) (v := .int (zn cm)) (ykc_290 (e := (5, .getfield 248, 0)) rfl) rfl ((f3.1 170 23 (by decide) (by decide)).trans ((g1.1 170 23 (by decide) (by decide)).trans hE.2.1.2.2.2.2.1)) rfl ?_
      refine w_store (pc' := 39) (L' := [some (.ref 170), some (.int z9), some (.int (zpcl (zAll (R, C, rk, sn, sk, cm, cdm) P v))), some (.int (zn cm)), none]) (st' := []) (m := 1) (ykc_290 (e := (3, .istore_n kF3, 0)) rfl) rfl rfl ?_
      refine w_alu (pc' := 40) (st' := [.int (Int32.ofInt 0)]) (ykc_290 (e := (0, .iconst 0, 0)) rfl) rfl rfl ?_
      refine w_store (pc' := 42) (L' := [some (.ref 170), some (.int z9), some (.int (zpcl (zAll (R, C, rk, sn, sk, cm, cdm) P v))), some (.int (zn cm)), some (.int (Int32.ofInt 0))]) (st' := []) (m := 2) (ykc_290 (e := (3, .istore 4, 0)) rfl) rfl rfl ?_
      have hl9 : ∀ (n : Nat), ∀ (k : Nat) (p : pm_H), (k ≤ cm) → (zFr [197] [] ph864 p) → (∀ i, i < k → zc p 197 i = some (.int (zn (cdm i)))) → zW n D 290 Q 42 [some (.ref 170), some (.int z9), some (.int (zpcl (zAll (R, C, rk, sn, sk, cm, cdm) P v))), some (.int (zn cm)), some (.int (zn k))] [] p := by
        intro n
        induction n using Nat.strongRecOn with
        | ind n ih =>
          intro k p hk hf hg
          have tk := znt (k := k) (by omega)
          have gp : zFA ph p := zFr_trans g2 (zFr_mono hf (by simp) (by simp))
          have hEp := zFA_e gp hE
          have hRp : zRc p cs2 := zRc_F hf (by simp) (by simp) (zRc_F f3 (by simp) (by simp) hR2)
          have gp0 := gp
          refine w_load (pc' := 44) (v := .int (zn k)) (m := 2) (ykc_290 (e := (2, .iload 4, 0)) rfl) rfl rfl ?_
          refine w_load (pc' := 45) (v := .ref 170) (m := 1) (ykc_290 (e := (2, .aload_n kF0, 0)) rfl) rfl rfl ?_
          refine w_gf (pc' := 48) (v := .int (zn cm)) (ykc_290 (e := (5, .getfield 248, 0)) rfl) rfl hEp.2.1.2.2.2.2.1 rfl ?_
          refine w_ige (ykc_290 (e := (4, .if_icmp .ge 23, 71)) rfl) rfl (fun b867 => ?_) (fun b867 => ?_)
          · refine w_load (pc' := 72) (v := .ref 170) (m := 1) (ykc_290 (e := (2, .aload_n kF0, 0)) rfl) rfl rfl ?_
            refine w_load (pc' := 73) (v := .ref 170) (m := 1) (ykc_290 (e := (2, .aload_n kF0, 0)) rfl) rfl rfl ?_
            refine w_gf (pc' := 76) (v := .ref 180) (ykc_290 (e := (5, .getfield 59, 0)) rfl) rfl ((gp.1 170 22 (by decide) (by decide)).trans (zsg hS zs_170_22)) rfl ?_
            refine w_load (pc' := 77) (v := .ref 170) (m := 1) (ykc_290 (e := (2, .aload_n kF0, 0)) rfl) rfl rfl ?_
            refine w_gf (pc' := 80) (v := .int (zn cs2.length)) (ykc_290 (e := (5, .getfield 227, 0)) rfl) rfl hRp.1 rfl ?_
            refine w_cv (as := [.ref 170, .ref 180, .int (zn cs2.length)]) (r := []) (ykc_290 (e := (6, .invokevirtual 254, 0)) rfl) rfl rfl rfl rfl (zm_laysCode (zFL_S (zFA_L gp) hS) hRp rfl hl2) (fun v868 ph869 hv => ?_)
            obtain ⟨rfl, f5, h23, h179⟩ := hv
            have g5 : zFL ph ph869 := zFr_trans (zFA_L gp) (zFr_mono f5 (by simp) (by simp))
            show zW n D 290 Q 83 [some (.ref 170), some (.int z9), some (.int (zpcl (zAll (R, C, rk, sn, sk, cm, cdm) P v))), some (.int (zn cm)), some (.int (zn k))] [] ph869
            refine w_load (pc' := 84) (v := .ref 170) (m := 1) (ykc_290 (e := (2, .aload_n kF0, 0)) rfl) rfl rfl ?_
            refine w_load (pc' := 85) (v := .ref 170) (m := 1) (ykc_290 (e := (2, .aload_n kF0, 0)) rfl) rfl rfl ?_
            refine w_gf (pc' := 88) (v := .ref 174) (ykc_290 (e := (5, .getfield 41, 0)) rfl) rfl ((f5.1 170 11 (by decide) (by decide)).trans ((gp.1 170 11 (by decide) (by decide)).trans (zsg hS zs_170_11))) rfl ?_
            refine w_cv (as := [.ref 170, .ref 174]) (r := []) (ykc_290 (e := (6, .invokevirtual 417, 0)) rfl) rfl rfl rfl rfl (zm_all (zFL_S g5 hS) (zFL_m g5 hE h23 hl2 h179 hcg9) (zFL_p g5 hN) (Or.inl rfl) (zFL_n g5 hrow) hO) (fun v870 ph871 hv => ?_)
            obtain ⟨f6, rfl⟩ := hv
            have g6 : zFL ph ph871 := zFr_trans g5 (zFr_mono f6 (by simp) (by simp))
            show zW n D 290 Q 91 [some (.ref 170), some (.int z9), some (.int (zpcl (zAll (R, C, rk, sn, sk, cm, cdm) P v))), some (.int (zn cm)), some (.int (zn k))] [.long (zAll (R, C, rk, sn, sk, cs2.length, zCd cs2) P v)] ph871
            refine w_cs (as := [.long (zAll (R, C, rk, sn, sk, cs2.length, zCd cs2) P v)]) (r := []) (ykc_290 (e := (6, .invokestatic 405, 0)) rfl) rfl rfl rfl rfl (zj_pcl) (fun v872 ph873 hv => ?_)
            obtain ⟨rfl, rfl⟩ := hv
            show zW n D 290 Q 94 [some (.ref 170), some (.int z9), some (.int (zpcl (zAll (R, C, rk, sn, sk, cm, cdm) P v))), some (.int (zn cm)), some (.int (zn k))] [.int (zpcl (zAll (R, C, rk, sn, sk, cs2.length, zCd cs2) P v))] ph871
            refine w_store (pc' := 96) (L' := [some (.ref 170), some (.int z9), some (.int (zpcl (zAll (R, C, rk, sn, sk, cm, cdm) P v))), some (.int (zn cm)), some (.int (zpcl (zAll (R, C, rk, sn, sk, cs2.length, zCd cs2) P v)))]) (st' := []) (m := 2) (ykc_290 (e := (3, .istore 4, 0)) rfl) rfl rfl ?_
            refine w_load (pc' := 97) (v := .ref 170) (m := 1) (ykc_290 (e := (2, .aload_n kF0, 0)) rfl) rfl rfl ?_
            refine w_load (pc' := 98) (v := .ref 170) (m := 1) (ykc_290 (e := (2, .aload_n kF0, 0)) rfl) rfl rfl ?_
            refine w_gf (pc' := 101) (v := .ref 197) (ykc_290 (e := (5, .getfield 110, 0)) rfl) rfl ((f6.1 170 44 (by decide) (by decide)).trans ((f5.1 170 44 (by decide) (by decide)).trans ((gp.1 170 44 (by decide) (by decide)).trans (zsg hS zs_170_44)))) rfl ?_
            refine w_load (pc' := 102) (v := .int (zn cm)) (m := 1) (ykc_290 (e := (2, .iload_n kF3, 0)) rfl) rfl rfl ?_
            refine w_cv (as := [.ref 170, .ref 197, .int (zn cm)]) (r := []) (ykc_290 (e := (6, .invokevirtual 254, 0)) rfl) rfl rfl rfl rfl (zm_laysWas (cn := cm) (cd := cdm) (zFL_S g6 hS) (fun i hi => (f6.1 197 i (by simp) (by simp)).trans ((f5.1 197 i (by simp) (by simp)).trans (hg i (by omega)))) hcm40) (fun v874 ph875 hv => ?_)
            obtain ⟨rfl, f7, h23b, h179b⟩ := hv
            have g7 : zFL ph ph875 := zFr_trans g6 (zFr_mono f7 (by simp) (by simp))
            show zW n D 290 Q 105 [some (.ref 170), some (.int z9), some (.int (zpcl (zAll (R, C, rk, sn, sk, cm, cdm) P v))), some (.int (zn cm)), some (.int (zpcl (zAll (R, C, rk, sn, sk, cs2.length, zCd cs2) P v)))] [] ph875
            refine w_load (pc' := 106) (v := .ref 170) (m := 1) (ykc_290 (e := (2, .aload_n kF0, 0)) rfl) rfl rfl ?_
            refine w_alu (pc' := 107) (st' := [.int (Int32.ofInt 0), .ref 170]) (ykc_290 (e := (0, .iconst 0, 0)) rfl) rfl rfl ?_
            refine w_pf (pc' := 110) (ykc_290 (e := (5, .putfield 15, 0)) rfl) rfl rfl (fun ph877 u876 => ?_)
            refine w_load (pc' := 111) (v := .ref 170) (m := 1) (ykc_290 (e := (2, .aload_n kF0, 0)) rfl) rfl rfl ?_
            refine w_load (pc' := 113) (v := .int (zpcl (zAll (R, C, rk, sn, sk, cs2.length, zCd cs2) P v))) (m := 2) (ykc_290 (e := (2, .iload 4, 0)) rfl) rfl rfl ?_
            refine w_alu (pc' := 114) (st' := [.long ((zpcl (zAll (R, C, rk, sn, sk, cs2.length, zCd cs2) P v)).toInt64), .ref 170]) (ykc_290 (e := (0, .i2l, 0)) rfl) rfl rfl ?_
            have g8 : zFL ph ph877 := zFr_trans g7 (zFr_st u876 (Or.inr (by simp)))
            refine w_cv (as := [.ref 170, .long ((zpcl (zAll (R, C, rk, sn, sk, cs2.length, zCd cs2) P v)).toInt64)]) (r := []) (ykc_290 (e := (6, .invokevirtual 373, 0)) rfl) rfl rfl rfl rfl (zm_enter (k := 0) (x := (zpcl (zAll (R, C, rk, sn, sk, cs2.length, zCd cs2) P v)).toInt64) (zFL_S g8 hS) u876.1 (by decide)) (fun v878 ph879 hv => ?_)
            obtain ⟨rfl, f9, h9t⟩ := hv
            have g9 : zFL ph ph879 := zFr_trans g8 (zFr_mono f9 (by simp) (by simp))
            show zW n D 290 Q 117 [some (.ref 170), some (.int z9), some (.int (zpcl (zAll (R, C, rk, sn, sk, cm, cdm) P v))), some (.int (zn cm)), some (.int (zpcl (zAll (R, C, rk, sn, sk, cs2.length, zCd cs2) P v)))] [] ph879
            refine w_load (pc' := 118) (v := .ref 170) (m := 1) (ykc_290 (e := (2, .aload_n kF0, 0)) rfl) rfl rfl ?_
            refine w_load (pc' := 119) (v := .int (zpcl (zAll (R, C, rk, sn, sk, cm, cdm) P v))) (m := 1) (ykc_290 (e := (2, .iload_n kF2, 0)) rfl) rfl rfl ?_
            refine w_alu (pc' := 120) (st' := [.long ((zpcl (zAll (R, C, rk, sn, sk, cm, cdm) P v)).toInt64), .ref 170]) (ykc_290 (e := (0, .i2l, 0)) rfl) rfl rfl ?_
            refine w_cv (as := [.ref 170, .long ((zpcl (zAll (R, C, rk, sn, sk, cm, cdm) P v)).toInt64)]) (r := []) (ykc_290 (e := (6, .invokevirtual 373, 0)) rfl) rfl rfl rfl rfl (zm_enter (k := 1) (x := (zpcl (zAll (R, C, rk, sn, sk, cm, cdm) P v)).toInt64) (zFL_S g9 hS) h9t (by decide)) (fun v880 ph881 hv => ?_)
            obtain ⟨rfl, f10, h10t⟩ := hv
            have g10 : zFL ph ph881 := zFr_trans g9 (zFr_mono f10 (by simp) (by simp))
            show zW n D 290 Q 123 [some (.ref 170), some (.int z9), some (.int (zpcl (zAll (R, C, rk, sn, sk, cm, cdm) P v))), some (.int (zn cm)), some (.int (zpcl (zAll (R, C, rk, sn, sk, cs2.length, zCd cs2) P v)))] [] ph881
            refine w_load (pc' := 125) (v := .int (zpcl (zAll (R, C, rk, sn, sk, cs2.length, zCd cs2) P v))) (m := 2) (ykc_290 (e := (2, .iload 4, 0)) rfl) rfl rfl ?_
            refine w_load (pc' := 126) (v := .int (zpcl (zAll (R, C, rk, sn, sk, cm, cdm) P v))) (m := 1) (ykc_290 (e := (2, .iload_n kF2, 0)) rfl) rfl rfl ?_
            refine w_alu (pc' := 127) (st' := [.int ((zpcl (zAll (R, C, rk, sn, sk, cs2.length, zCd cs2) P v)) - (zpcl (zAll (R, C, rk, sn, sk, cm, cdm) P v)))]) (ykc_290 (e := (0, .isub, 0)) rfl) rfl rfl ?_
            refine w_ret (v := (some (.int ((zpcl (zAll (R, C, rk, sn, sk, cs2.length, zCd cs2) P v)) - (zpcl (zAll (R, C, rk, sn, sk, cm, cdm) P v)))))) (ykc_290 (e := (7, .ireturn, 0)) rfl) (zr_v rfl) ?_
            rw [hQ]
            exact ⟨g10, (f10.1 170 23 (by simp) (by simp)).trans ((f9.1 170 23 (by simp) (by simp)).trans ((u876.2.1 170 23 (fun q => absurd q.2 (by decide))).trans h23b)), fun i hi => (f10.1 179 i (by simp) (by simp)).trans ((f9.1 179 i (by simp) (by simp)).trans ((u876.2.1 179 i (fun q => absurd q.1 (by decide))).trans (h179b i hi))), true, a2, cs2, _, hru, hl2, rfl, Or.inr ⟨by omega, rfl⟩⟩
          · refine w_load (pc' := 52) (v := .ref 170) (m := 1) (ykc_290 (e := (2, .aload_n kF0, 0)) rfl) rfl rfl ?_
            refine w_gf (pc' := 55) (v := .ref 197) (ykc_290 (e := (5, .getfield 110, 0)) rfl) rfl ((gp.1 170 44 (by decide) (by decide)).trans (zsg hS zs_170_44)) rfl ?_
            refine w_load (pc' := 57) (v := .int (zn k)) (m := 2) (ykc_290 (e := (2, .iload 4, 0)) rfl) rfl rfl ?_
            refine w_load (pc' := 58) (v := .ref 170) (m := 1) (ykc_290 (e := (2, .aload_n kF0, 0)) rfl) rfl rfl ?_
            refine w_gf (pc' := 61) (v := .ref 179) (ykc_290 (e := (5, .getfield 56, 0)) rfl) rfl ((gp.1 170 21 (by decide) (by decide)).trans (zsg hS zs_170_21)) rfl ?_
            refine w_load (pc' := 63) (v := .int (zn k)) (m := 2) (ykc_290 (e := (2, .iload 4, 0)) rfl) rfl rfl ?_
            refine w_ialk (pc' := 64) (k := k) (ykc_290 (e := (5, .iaload, 0)) rfl) (hEp.2.1.2.2.2.2.2.2 k (show k < cm by omega)).1 (by omega) rfl ?_
            refine w_ias (pc' := 65) (k := k) (ykc_290 (e := (5, .iastore, 0)) rfl) (by omega) rfl (fun ph883 u882 => ?_)
            have e884 : (zn k) + Int32.ofInt 1 = zn (k + 1) := (zaddN (a := k) (b := 1) (znt (by omega)) c_2 (by omega))
            have te884 := znt (k := k + 1) (by omega)
            refine w_store (pc' := 68) (L' := [some (.ref 170), some (.int z9), some (.int (zpcl (zAll (R, C, rk, sn, sk, cm, cdm) P v))), some (.int (zn cm)), some (.int (zn (k + 1)))]) (st' := []) (m := 3) (ykc_290 (e := (3, .iinc 4 1, 0)) rfl) (by rw [← e884]; rfl) rfl ?_
            refine w_gb (ykc_290 (e := (4, .goto (-26), 42)) rfl) (fun k885 hk885 => ?_)
            exact ih k885 hk885 (k + 1) _ (by omega) (zFr_add hf u882 (Or.inl (by simp))) (fun i hi => by
              by_cases e : i = k
              · subst e; exact u882.1
              · exact (u882.2.1 197 i (fun q => e q.2)).trans (hg i (by omega)))
      exact hl9 n 0 _ (Nat.zero_le _) zFr_refl (fun i hi => absurd hi (Nat.not_lt_zero i))
    · refine w_load (pc' := 15) (v := .int z9) (m := 1) (ykc_290 (e := (2, .iload_n kF1, 0)) rfl) rfl rfl ?_
      refine w_alu (pc' := 16) (st' := [.int (Int32.ofInt 1), .int z9]) (ykc_290 (e := (0, .iconst 1, 0)) rfl) rfl rfl ?_
      obtain ⟨z886, e_z886, h_z886⟩ : ∃ zq : Int32, z9 + (Int32.ofInt 1) = zq ∧ zq.toInt = z9.toInt + (1 : Int) := ⟨_, rfl, (by have := ti_add (x := z9) (y := (Int32.ofInt 1)) (by omega) (by omega); omega)⟩
      refine w_alu (pc' := 17) (st' := [.int z886]) (ykc_290 (e := (0, .iadd, 0)) rfl) (by rw [← e_z886]; rfl) rfl ?_
      refine w_push (pc' := 20) (v := .int ((Int16.ofInt 10000).toInt32)) (m := 3) (ykc_290 (e := (1, .sipush 10000, 0)) rfl) rfl rfl ?_
      obtain ⟨z887, e_z887, h_z887⟩ : ∃ zq : Int32, z886 - ((Int16.ofInt 10000).toInt32) = zq ∧ zq.toInt = z9.toInt + (1 : Int) - (10000 : Int) := ⟨_, rfl, (by have := ti_sub (x := z886) (y := ((Int16.ofInt 10000).toInt32)) (by omega) (by omega); omega)⟩
      refine w_alu (pc' := 21) (st' := [.int z887]) (ykc_290 (e := (0, .isub, 0)) rfl) (by rw [← e_z887]; rfl) rfl ?_
      refine w_ret (v := (some (.int z887))) (ykc_290 (e := (7, .ireturn, 0)) rfl) (zr_v rfl) ?_
      rw [hQ]
      exact ⟨zFA_L g1, (g1.1 170 23 (by decide) (by decide)).trans hE.2.1.2.2.2.2.1, fun i hi => (g1.1 179 i (by decide) (by simp)).trans (hE.2.1.2.2.2.2.2.2 i hi).1, ok, a2, cs2, _, hru, hl2, rfl, Or.inl ⟨by omega, by omega⟩⟩
  

/-! another RULE tried; the start; printed by wip/rel/r5.py -/
theorem xVI_G55 (n : Nat) : xHE xX xgA_G55 xgF_G55 (xVI n) := xVI_G (by decide +kernel) (by decide +kernel) n
theorem xVY_s1 : zAY.all (fun i => xmemN xgA_G55 i) = true := by decide +kernel
theorem xVY_s2 : zFY.all (fun p => xmemP xgF_G55 p.1 p.2) = true := by decide +kernel
theorem xVY_v1 : zAY.all (fun i => xmemN xgA_G19 i) = true := by decide +kernel
theorem xVY_v2 : zFY.all (fun p => xmemP xgF_G19 p.1 p.2) = true := by decide +kernel
theorem xrs_lawE : xRs 173 290 [] (fun a b => kI a ∧ a = b) := fun n hn ph ⟨hP, z, hR⟩ => by
  have h8 : xHE xX xgA_G55 xgF_G55 (fun p => xVI n p ∧ xSame xX zAY zFY ph p) := xHE_and (xVI_G55 n) (xHE_sub xVY_s1 xVY_s2 xHE_slf)
  have h9 : xPC (fun p => xVI n p ∧ xSame xX zAY zFY ph p) := xPC_of (xHE_and (xVI_G19 n) (xHE_sub xVY_v1 xVY_v2 xHE_slf))
  obtain ⟨v0, p1, a1, b1, ⟨c1, s1⟩, q0, f0⟩ := xn_173_0 h8 h9 600 (by decide) (xLm n) (xLm_le (by omega)) xLm_0 [.ref 0] ph ⟨xaRi rfl (by decide), trivial⟩ (fun _ _ h => absurd h List.not_mem_nil) hP ⟨⟨hR.1.1.1, hR.1.2⟩, xSame_rf⟩
  obtain ⟨v1, rfl, q1⟩ := yri q0
  have hy1 := yz1_F _ _ f0
  have e1 := zEQ_Y hP b1 s1
  obtain ⟨ln, t, hT, h14, h80, h176⟩ := zTX_of hP hR.1.1.2
  obtain ⟨⟨R, C, rk, sn, sk⟩, ⟨cn, cd, cm, cdm⟩, ⟨F, F2, P, G, nx, u, fl, hn, ch⟩, ⟨v, w, sv, svm⟩, kp, kc⟩ := z
  obtain ⟨hLE, hpp, ⟨⟨hK, hX⟩, hcc⟩, hM, hMe⟩ := hR
  replace hcc : zCc ph R C rk := hcc
  have hpq := hpp
  obtain ⟨zq, zF, zk, zch, ⟨zO, z40⟩, zw, zs⟩ := hpq
  have hS := zSh_of hP hX.2.2.2.2
  have eM : zEQ tM ph p1 := zEQ_m (fun _ _ t => Or.inl t) e1
  have eT : zEQ tT ph p1 := zEQ_m (fun _ _ t => Or.inr (Or.inl t)) e1
  have h4 := zs44_Qq (zEQ_m (fun _ _ t => Or.inr (Or.inr t)) e1) hX.2.2.2.2
  have hS1 := zSh_of b1 h4
  have hM1 := zKM_Q eM hM
  have hMe1 := zMe_Q eM hMe
  have h14a := (eT 170 14 (by decide)).trans h14
  have h176a : ∀ i, i < ln → zc p1 176 i = some (.int (zn (t i))) ∧ t i < 256 := fun i hi => ⟨(eT 176 i (Or.inr rfl)).trans (h176 i hi).1, (h176 i hi).2⟩
  obtain ⟨v2, p2, a2, r, rfl, b2, c2, i2, y2, z2⟩ := xcr_law n (by omega) p1 b1 c1.1 c1.2 hy1
  have t2 : xtie p2 := ⟨0, y2, z2, fun i hi => by
    have h0 : (0 : Int32).toInt = 0 := by decide
    omega⟩
  have hLE2 : xLE (n + 1) p2 := ⟨⟨c2, t2⟩, i2⟩
  obtain ⟨f2, h23, h179, ok, a9, cs2, y8, hru, hl40, e4, W2⟩ := zm_law hS1 hMe1 hM1.2.1 hM1.2.2.1 zO h14a h80 h176a 600 _ a2
  have hF2 : F2 = 11 ∨ F2 = 16 := by omega
  obtain ⟨hp9, cm9, hb9⟩ := zFx_of hP hS hF2
  obtain ⟨f1, d1, z9, y9, Cs, ho, e3, W1⟩ := zc_law hS hX.1 ⟨⟨by decide, zSs_of hS (by decide)⟩, hK.2.1⟩ zO hX.2.1 hX.2.2.1 zF hcc hT hp9 hb9 (fun Cs hout => by
    rcases zrule_join hru hout with ⟨-, -, j3, j4⟩ | ⟨j1, -⟩
    · subst j3
      obtain ⟨k1, k2, k3, -⟩ := zrule_cds hru hl40 j4
      exact ⟨k1, k2, k3⟩
    · omega) 600 _ a1
  have eA : ∀ a k, ¬ (F2 + 1 ≤ a ∧ a ≤ F2 + 3) → ¬ (a = F2 ∧ (k = 1 ∨ k = 3 ∨ k = 5 ∨ k = 6 ∨ k = 7)) → ¬ (a = 1 ∧ k = 1) → ¬ (a = 5 ∧ k = 4) → ¬ (a = 3 ∧ k = 1) → ¬ (a = 4 ∨ a = 8 ∨ a = 9 ∨ a = 15 ∨ a = 20 ∨ a = 22 ∨ a = 23 ∨ a = 24) → a < 157 → zc p2 a k = zc ph a k := fun a k h1 h2 h3 h4 h5 h6 h7 => (f2.1 a k (by simp <;> omega) (by simp <;> omega)).trans (f1.1 a k (by simp <;> omega) (by simp <;> omega))
  have eG : ∀ a k, ¬ (a = 171 ∨ a = 179 ∨ a = 180 ∨ a = 181 ∨ a = 182 ∨ a = 197) → ¬ (a = 170 ∧ (k = 0 ∨ k = 1 ∨ k = 14 ∨ k = 15 ∨ k = 16 ∨ k = 17 ∨ k = 23 ∨ k = 24)) → zc p2 a k = zc p1 a k := fun a k h1 h2 => f2.1 a k (by simp <;> omega) (by simp <;> omega)
  have K2 := zKC_Q (q := p2) (fun a k t => eA a k (by omega) (by omega) (by omega) (by omega) (by omega) (by omega) (by omega)) (fun a k t => eA a k (by omega) (by omega) (by omega) (by omega) (by omega) (by omega) (by omega)) (fun a k t => eA a k (by omega) (by omega) (by omega) (by omega) (by omega) (by omega) (by omega)) hK
  have d2 := zCc_Q (q := p2) (fun a k t => eG a k (by omega) (by omega)) d1
  have hi2 := zCi_Q (q := p2) (fun a k t => eA a k (by omega) (by omega) (by omega) (by omega) (by omega) (by omega) (by omega)) hX.1.2.1
  have hB2 : zBd p2 := ⟨(eA 156 2 (by omega) (by omega) (by omega) (by omega) (by omega) (by omega) (by omega)).trans hX.2.2.2.1.1, (eA 156 3 (by omega) (by omega) (by omega) (by omega) (by omega) (by omega) (by omega)).trans hX.2.2.2.1.2⟩
  have h42 : zs44 p2 := fun a k b e hb => (eG a k (by omega) (by omega)).trans (h4 a k b e hb)
  have hS2 := zSh_of b2 h42
  have hMl2 : zMl p2 R C rk := ⟨(eG 170 3 (by omega) (by omega)).trans hM1.1.1, (eG 170 4 (by omega) (by omega)).trans hM1.1.2.1, fun f hf => (eG 172 f (by omega) (by omega)).trans (hM1.1.2.2.1 f hf), hM1.1.2.2.2⟩
  have hM2 : zKM p2 R C rk P G v u w ch kp kc svm hn := ⟨hMl2, ⟨(eG 170 5 (by omega) (by omega)).trans hM1.2.1.1, hM1.2.1.2.1, (eG 170 6 (by omega) (by omega)).trans hM1.2.1.2.2.1, hM1.2.1.2.2.2⟩, zNr_Q (fun k _ _ => eG 174 k (by omega) (by omega)) hM1.2.2.1, ⟨(eG 170 27 (by omega) (by omega)).trans hM1.2.2.2.1.1, hM1.2.2.2.1.2.1, fun i hi => zNr_Q (fun k _ _ => eG 183 k (by omega) (by omega)) (hM1.2.2.2.1.2.2 i hi)⟩, ⟨(eG 170 7 (by omega) (by omega)).trans hM1.2.2.2.2.1.1, hM1.2.2.2.2.1.2.1, fun i hi => by
    obtain ⟨h1, h2, h3, h5⟩ := hM1.2.2.2.2.1.2.2 i hi
    exact ⟨(eG 198 i (by omega) (by omega)).trans h1, (eG 199 i (by omega) (by omega)).trans h2, h3, fun e => zNr_Q (fun k _ _ => eG 200 k (by omega) (by omega)) (h5 e)⟩⟩, (eG 170 39 (by omega) (by omega)).trans hM1.2.2.2.2.2.1, hM1.2.2.2.2.2.2⟩
  have hf2 : zFm p2 F cn cd := by
    have q1 := (eA F 1 (by omega) (by omega) (by omega) (by omega) (by omega) (by omega) (by omega)).trans hX.1.2.2.1.2.2.1
    have q2 : ∀ i, i < cn → zc p2 (F + 1) i = some (.int (zcc (cd i))) := fun i hi => (eA (F + 1) i (by omega) (by omega) (by omega) (by omega) (by omega) (by omega) (by omega)).trans (hX.1.2.2.1.2.2.2.2.2.1 i hi)
    rcases hX.1.2.2.2 with e | e
    · subst e
      exact ⟨zsg hS2 zs_11_0, zsg hS2 zs_11_8, q1, hX.1.2.2.1.2.2.2.1, hX.1.2.2.1.2.2.2.2.1, q2, hX.1.2.2.1.2.2.2.2.2.2⟩
    · subst e
      exact ⟨zsg hS2 zs_16_0, zsg hS2 zs_16_8, q1, hX.1.2.2.1.2.2.2.1, hX.1.2.2.1.2.2.2.2.1, q2, hX.1.2.2.1.2.2.2.2.2.2⟩
  have hr2 : zMr p2 sn sk cm cdm := ⟨(eG 170 8 (by omega) (by omega)).trans hMe1.2.1.1, hMe1.2.1.2.1, hMe1.2.1.2.2.1, fun i hi => ⟨(eG 173 i (by omega) (by omega)).trans (hMe1.2.1.2.2.2.1 i hi).1, (hMe1.2.1.2.2.2.1 i hi).2⟩, h23, hMe1.2.1.2.2.2.2.2.1, fun i hi => ⟨h179 i hi, (hMe1.2.1.2.2.2.2.2.2 i hi).2⟩⟩
  have ev : y9 = r := by
    have e5 : r = y8 := Value.int.inj (Option.some.inj e4)
    rw [e5]
    rcases zrule_join hru ho with ⟨j1, j2, j3, j4⟩ | ⟨j1, -, j2⟩
    · subst j3
      obtain ⟨-, -, -, -, k6⟩ := zrule_cds hru hl40 j4
      rcases W1 with ⟨g1, -⟩ | ⟨-, g1⟩
      · omega
      · rcases W2 with ⟨g2, -⟩ | ⟨-, g2⟩
        · omega
        · have e6 : zAll (R, C, rk, sn, sk, Cs.length, zCd Cs) = zAll (R, C, rk, sn, sk, cs2.length, zCd cs2) := zQ_All k6
          rw [g1, g2, e6, zQ_All zq]
    · rcases W1 with ⟨-, g1⟩ | ⟨g1, -⟩
      · rcases W2 with ⟨-, g2⟩ | ⟨g2, -⟩
        · exact Int32.toInt_inj.mp (by omega)
        · omega
      · omega
  exact ⟨v1, .int r, p1, p2, ⟨xat0 hP, xat170 b1⟩, a1, a2, ⟨q1, (Option.some.inj e3).trans (congrArg Value.int ev)⟩, b2, ((R, C, rk, sn, sk), (cn, cd, cm, cdm), (F, F2, P, G, nx, u, fl, hn, ch), (v, w, sv, svm), (kp, kc)), hLE2, zPP_le hpp, ⟨⟨K2, ⟨K2.1, hi2, hf2, hX.1.2.2.2⟩, (eA 10 1 (by omega) (by omega) (by omega) (by omega) (by omega) (by omega) (by omega)).trans hX.2.1, (eA 10 2 (by omega) (by omega) (by omega) (by omega) (by omega) (by omega) (by omega)).trans hX.2.2.1, hB2, h42⟩, d2⟩, hM2, hMl2, hr2, hMe1.2.2⟩
theorem xrs_sheet {x y z w : Int32} : xRs 131 237 [.int x, .int y, .int z, .int w] (fun a b => kI a ∧ kI b) := fun n hn ph hI => by
  obtain ⟨v1, v2, p1, p2, a, b, c, ⟨⟨r, rfl⟩, rfl⟩, e⟩ := xrs_sheetE (x := x) (y := y) (z := z) (w := w) n hn ph hI
  exact ⟨_, _, p1, p2, a, b, c, ⟨⟨r, rfl⟩, r, rfl⟩, e⟩
theorem xrs_hours {x : Int32} : xRs 133 248 [.int x] (fun a b => kI a ∧ kI b) := fun n hn ph hI => by
  obtain ⟨v1, v2, p1, p2, a, b, c, ⟨⟨r, rfl⟩, rfl⟩, e⟩ := xrs_hoursE (x := x) n hn ph hI
  exact ⟨_, _, p1, p2, a, b, c, ⟨⟨r, rfl⟩, r, rfl⟩, e⟩
theorem xrs_faces {x y : Int32} : xRs 134 249 [.int x, .int y] (fun a b => kI a ∧ kI b) := fun n hn ph hI => by
  obtain ⟨v1, v2, p1, p2, a, b, c, ⟨⟨r, rfl⟩, rfl⟩, e⟩ := xrs_facesE (x := x) (y := y) n hn ph hI
  exact ⟨_, _, p1, p2, a, b, c, ⟨⟨r, rfl⟩, r, rfl⟩, e⟩
theorem xrs_steps {x y : Int32} : xRs 135 250 [.int x, .int y] (fun a b => kI a ∧ kI b) := fun n hn ph hI => by
  obtain ⟨v1, v2, p1, p2, a, b, c, ⟨⟨r, rfl⟩, rfl⟩, e⟩ := xrs_stepsE (x := x) (y := y) n hn ph hI
  exact ⟨_, _, p1, p2, a, b, c, ⟨⟨r, rfl⟩, r, rfl⟩, e⟩
theorem xrs_trims {x y : Int32} : xRs 136 251 [.int x, .int y] (fun a b => kI a ∧ kI b) := fun n hn ph hI => by
  obtain ⟨v1, v2, p1, p2, a, b, c, ⟨⟨r, rfl⟩, rfl⟩, e⟩ := xrs_trimsE (x := x) (y := y) n hn ph hI
  exact ⟨_, _, p1, p2, a, b, c, ⟨⟨r, rfl⟩, r, rfl⟩, e⟩
theorem xrs_puts {x y : Int32} : xRs 137 252 [.int x, .int y] (fun a b => kI a ∧ kI b) := fun n hn ph hI => by
  obtain ⟨v1, v2, p1, p2, a, b, c, ⟨⟨r, rfl⟩, rfl⟩, e⟩ := xrs_putsE (x := x) (y := y) n hn ph hI
  exact ⟨_, _, p1, p2, a, b, c, ⟨⟨r, rfl⟩, r, rfl⟩, e⟩
theorem xrs_undo : xRs 139 241 [] (fun a b => kI a ∧ kI b) := fun n hn ph hI => by
  obtain ⟨v1, v2, p1, p2, a, b, c, ⟨⟨r, rfl⟩, rfl⟩, e⟩ := xrs_undoE n hn ph hI
  exact ⟨_, _, p1, p2, a, b, c, ⟨⟨r, rfl⟩, r, rfl⟩, e⟩
theorem xrs_heard {x y : Int32} : xRs 166 283 [.int x, .int y] (fun a b => kI a ∧ kI b) := fun n hn ph hI => by
  obtain ⟨v1, v2, p1, p2, a, b, c, ⟨⟨r, rfl⟩, rfl⟩, e⟩ := xrs_heardE (x := x) (y := y) n hn ph hI
  exact ⟨_, _, p1, p2, a, b, c, ⟨⟨r, rfl⟩, r, rfl⟩, e⟩
theorem xrs_forget : xRs 167 284 [] (fun a b => kI a ∧ kI b) := fun n hn ph hI => by
  obtain ⟨v1, v2, p1, p2, a, b, c, ⟨⟨r, rfl⟩, rfl⟩, e⟩ := xrs_forgetE n hn ph hI
  exact ⟨_, _, p1, p2, a, b, c, ⟨⟨r, rfl⟩, r, rfl⟩, e⟩
theorem xrs_again {x : Int32} : xRs 178 297 [.int x] (fun a b => kI a ∧ kI b) := fun n hn ph hI => by
  obtain ⟨v1, v2, p1, p2, a, b, c, ⟨⟨r, rfl⟩, rfl⟩, e⟩ := xrs_againE (x := x) n hn ph hI
  exact ⟨_, _, p1, p2, a, b, c, ⟨⟨r, rfl⟩, r, rfl⟩, e⟩
theorem xrs_keep {x : Int32} : xRs 177 296 [.int x] (fun a b => kI a ∧ kI b) := fun n hn ph hI => by
  obtain ⟨v1, v2, p1, p2, a, b, c, ⟨⟨r, rfl⟩, rfl⟩, e⟩ := xrs_keepE (x := x) n hn ph hI
  exact ⟨_, _, p1, p2, a, b, c, ⟨⟨r, rfl⟩, r, rfl⟩, e⟩
theorem xrs_people : xRs 125 208 [] (fun a b => kI a ∧ kI b) := fun n hn ph hI => by
  obtain ⟨v1, v2, p1, p2, a, b, c, ⟨⟨r, rfl⟩, rfl⟩, e⟩ := xrs_peopleE n hn ph hI
  exact ⟨_, _, p1, p2, a, b, c, ⟨⟨r, rfl⟩, r, rfl⟩, e⟩
theorem xrs_things : xRs 126 209 [] (fun a b => kI a ∧ kI b) := fun n hn ph hI => by
  obtain ⟨v1, v2, p1, p2, a, b, c, ⟨⟨r, rfl⟩, rfl⟩, e⟩ := xrs_thingsE n hn ph hI
  exact ⟨_, _, p1, p2, a, b, c, ⟨⟨r, rfl⟩, r, rfl⟩, e⟩
theorem xrs_day : xRs 138 255 [] (fun a b => kI a ∧ kI b) := fun n hn ph hI => by
  obtain ⟨v1, v2, p1, p2, a, b, c, ⟨⟨r, rfl⟩, rfl⟩, e⟩ := xrs_dayE n hn ph hI
  exact ⟨_, _, p1, p2, a, b, c, ⟨⟨r, rfl⟩, r, rfl⟩, e⟩
theorem xrs_valley : xRs 124 202 [] (fun a b => kI a ∧ kI b) := fun n hn ph hI => by
  obtain ⟨v1, v2, p1, p2, a, b, c, ⟨⟨r, rfl⟩, rfl⟩, e⟩ := xrs_valleyE n hn ph hI
  exact ⟨_, _, p1, p2, a, b, c, ⟨⟨r, rfl⟩, r, rfl⟩, e⟩
theorem xrs_light : xRs 127 210 [] (fun a b => kI a ∧ kI b) := fun n hn ph hI => by
  obtain ⟨v1, v2, p1, p2, a, b, c, ⟨⟨r, rfl⟩, rfl⟩, e⟩ := xrs_lightE n hn ph hI
  exact ⟨_, _, p1, p2, a, b, c, ⟨⟨r, rfl⟩, r, rfl⟩, e⟩
theorem xrs_rule : xRs 128 217 [] (fun a b => kI a ∧ kI b) := fun n hn ph hI => by
  obtain ⟨v1, v2, p1, p2, a, b, c, ⟨⟨r, rfl⟩, rfl⟩, e⟩ := xrs_ruleE n hn ph hI
  exact ⟨_, _, p1, p2, a, b, c, ⟨⟨r, rfl⟩, r, rfl⟩, e⟩
theorem xrs_law : xRs 173 290 [] (fun a b => kI a ∧ kI b) := fun n hn ph hI => by
  obtain ⟨v1, v2, p1, p2, a, b, c, ⟨⟨r, rfl⟩, rfl⟩, e⟩ := xrs_lawE n hn ph hI
  exact ⟨_, _, p1, p2, a, b, c, ⟨⟨r, rfl⟩, r, rfl⟩, e⟩
theorem xrs_sign {x : Int32} : xRs 122 193 [.int x] (fun a b => kI a ∧ kI b) := fun n hn ph hI => by
  obtain ⟨v1, v2, p1, p2, a, b, c, ⟨⟨r, rfl⟩, rfl⟩, e⟩ := xrs_signE (x := x) n hn ph hI
  exact ⟨_, _, p1, p2, a, b, c, ⟨⟨r, rfl⟩, r, rfl⟩, e⟩
theorem xrs_end {x : Int32} : xRs 123 194 [.int x] (fun a b => kI a ∧ kI b) := fun n hn ph hI => by
  obtain ⟨v1, v2, p1, p2, a, b, c, ⟨⟨r, rfl⟩, rfl⟩, e⟩ := xrs_endE (x := x) n hn ph hI
  exact ⟨_, _, p1, p2, a, b, c, ⟨⟨r, rfl⟩, r, rfl⟩, e⟩
/-! the start -/
def zz0 : zPar := ((3, 3, fun _ => false, 1, fun _ => 9), (3, zCd [2004, 1000, 1001], 0, fun _ => 0), (11, 16, 0, 0, 0, 0, 0, 0, 0), (fun _ => 0, fun _ _ => 0, fun _ _ => 0, fun _ _ => 0), (fun _ => false, fun _ => 0))
def zvI (o : Option Value) (x : Int32) : Bool := match o with
  | some (.int y) => decide (y = x)
  | _ => false
theorem zvI_e {o : Option Value} {x : Int32} (h : zvI o x = true) : o = some (.int x) := by
  unfold zvI at h
  split at h
  · rw [of_decide_eq_true h]
  · cases h
def zvR (o : Option Value) (x : Nat) : Bool := match o with
  | some (.ref y) => Nat.beq y x
  | _ => false
theorem zvR_e {o : Option Value} {x : Nat} (h : zvR o x = true) : o = some (.ref x) := by
  unfold zvR at h
  split at h
  · rw [Nat.eq_of_beq_eq_true h]
  · cases h
theorem zvA {n : Nat} {A : Nat} {f : Nat → Int32} (h : (List.range n).all (fun i => zvI (zc kH0 A i) (f i)) = true) : ∀ i, i < n → zc kH0 A i = some (.int (f i)) := fun i hi => zvI_e (List.all_eq_true.mp h i (List.mem_range.mpr hi))
theorem zst44 : zs44 kH0 := fun a k b _ hb => zvR_e (List.all_eq_true.mp (by decide +kernel : zstatL.all (fun e => zvR (zc kH0 e.1 e.2.1) e.2.2) = true) _ (zlk_mem hb))
theorem zst_CR : zCR kH0 zz0 := by
  have hS : zSh kH0 := zSh_of (m := 0) (w := 0) (xst0 (by decide)) zst44
  have hL : zCl kH0 3 3 (fun _ => false) := ⟨zvI_e (by decide +kernel), zvI_e (by decide +kernel), zvI_e (by decide +kernel), rfl, fun f hf => ⟨zvA (n := 9) (A := 6) (f := fun f => zn (f / 3)) (by decide +kernel) f hf, zvA (n := 9) (A := 7) (f := fun f => zn (f % 3)) (by decide +kernel) f hf⟩, by decide, by decide, by decide, by decide⟩
  refine ⟨⟨hL, ⟨zvI_e (by decide +kernel), by decide, zvI_e (by decide +kernel), by decide, zvI_e (by decide +kernel), fun i hi => absurd hi (Nat.not_lt_zero i), fun i hi => absurd hi (Nat.not_lt_zero i)⟩, ⟨zvI_e (by decide +kernel), by decide, zvI_e (by decide +kernel), by decide, fun i hi => absurd hi (Nat.not_lt_zero i)⟩, ⟨zvI_e (by decide +kernel), by decide, fun i hi e => by rw [Nat.zero_testBit] at e; cases e⟩, zvI_e (by decide +kernel), by decide⟩, ⟨hL, ⟨zvI_e (by decide +kernel), by decide, by decide, fun i hi => ⟨zvA (n := 1) (f := fun _ => zn 9) (by decide +kernel) i hi, Nat.le_refl 9⟩⟩, ⟨zsg hS zs_11_0, zsg hS zs_11_8, zvI_e (by decide +kernel), by decide, by decide, zvA (n := 3) (A := 12) (f := fun i => zcc (zCd [2004, 1000, 1001] i)) (by decide +kernel), zcg_0⟩, Or.inl rfl⟩, zvR_e (by decide +kernel), zvR_e (by decide +kernel), ⟨zvI_e (by decide +kernel), zvI_e (by decide +kernel)⟩, zst44⟩
theorem zst_MR : zMR kH0 zz0 := by
  have hL : zMl kH0 3 3 (fun _ => false) := ⟨zvI_e (by decide +kernel), zvI_e (by decide +kernel), fun f hf => zvA (n := 9) (f := fun _ => zI false) (by decide +kernel) f hf, by decide, by decide, by decide, by decide⟩
  refine ⟨⟨hL, ⟨zvI_e (by decide +kernel), by decide, zvI_e (by decide +kernel), by decide⟩, fun i hi => ?_, ⟨zvI_e (by decide +kernel), by decide, fun i hi => absurd hi (Nat.not_lt_zero i)⟩, ⟨zvI_e (by decide +kernel), by decide, fun i hi => ⟨zvA (n := 3) (f := fun _ => zI false) (by decide +kernel) i hi, zvA (n := 3) (f := fun _ => zn 0) (by decide +kernel) i hi, Nat.le_refl 0, fun e => by cases e⟩⟩, zvI_e (by decide +kernel), by decide⟩, hL, ⟨zvI_e (by decide +kernel), by decide, by decide, fun i hi => ⟨zvA (n := 1) (f := fun _ => zn 9) (by decide +kernel) i hi, Nat.le_refl 9⟩, zvI_e (by decide +kernel), by decide, fun i hi => absurd hi (Nat.not_lt_zero i)⟩, fun h => absurd h (by decide), fun k hk => absurd hk (Nat.not_lt_zero k)⟩
  rw [Nat.zero_add]
  exact zvA (n := 41) (f := fun _ => zn 0) (by decide +kernel) i hi
theorem xRI_0 (h : xLI 0 kH0) : xRI 0 kH0 := by
  refine ⟨h.1, zz0, h.2, ?_, ⟨zst_CR, zCc_0 rfl⟩, zst_MR⟩
  refine ⟨Or.inr ⟨rfl, rfl, rfl, rfl, rfl⟩, Or.inl ⟨rfl, rfl⟩, fun i hi => ⟨Nat.zero_testBit i, fun _ => rfl⟩, Nat.le_refl 0, ⟨⟨fun p hp => absurd hp (Nat.not_lt_zero p), fun t ht => absurd ht (Nat.not_lt_zero t), by decide⟩, Nat.le_refl 0⟩, fun i hi => absurd hi (Nat.not_lt_zero i), fun i hi e => by rw [Nat.zero_testBit] at e; cases e⟩
theorem xRI_le {n : Nat} {ph : pm_H} (h : xRI n ph) : xRI (n + 1) ph := by
  obtain ⟨h1, z, h2, h3, h4⟩ := h
  exact ⟨xshift h1 (by decide), z, xLE_le h2, zPP_le h3, h4⟩
theorem zP_201 {a k : Nat} (t : tPP a k) : a ≠ 201 := by
  have := (zbP a k t).1
  omega
theorem xRE_q {n : Nat} {z : zPar} {p q : pm_H} {m : Int} {w0 : Nat} (hq : xH xX kK m w0 q) (hE : xLE n q) (h : zEQ tPP p q) (g : xRE n z p) : xRE n z q := by
  have hR : zEQ tRR p q := zEQ_m (fun a k t => by
    rcases t with t | t | t | t | t | t
    · exact Or.inl t
    · exact Or.inr (Or.inl t)
    · exact Or.inr (Or.inr (Or.inl t))
    · exact Or.inr (Or.inr (Or.inr (Or.inl t)))
    · exact Or.inr (Or.inr (Or.inr (Or.inr (Or.inl t))))
    · exact Or.inr (Or.inr (Or.inr (Or.inr (Or.inr (Or.inl t)))))) h
  exact ⟨hE, g.2.1, ⟨zCR_Q hq hR g.2.2.1.1, zCc_Q (zEQ_m (fun a k t => Or.inr (Or.inr (Or.inr (Or.inr (Or.inr (Or.inr t)))))) h) g.2.2.1.2⟩, zMR_Q (zEQ_m (fun _ _ t => zRM t) hR) g.2.2.2⟩
/-- the frame of person, thing, row -/
def xEq (n : Nat) (z : zPar) (ph p : pm_H) : Prop := (xLE n p ∧ xSame xX zAR zFR ph p) ∧ zqC p z.1.1 z.1.2.1 z.1.2.2.1
theorem xEq_G {n : Nat} {z : zPar} {ph : pm_H} : xHE xX xgA_G8 xgF_G8 (xEq n z ph) := xHE_and (xHE_and (xLE_G8 n) (xHE_sub (by decide +kernel) (by decide +kernel) xHE_slf)) (zqC_G (by decide +kernel) (by decide +kernel) (by decide +kernel))
theorem xEq_C {n : Nat} {z : zPar} {ph : pm_H} {m : Int} {w0 : Nat} (hP : xH xX kK m w0 ph) (hR : xRE n z ph) : xPC (xEq n z ph) := xPC_F (xLE_G19 n) hP zvR1 zvR2 zbR zckR (fun _ _ t => Or.inl t) (fun _ _ t => Or.inr (Or.inr (Or.inr (Or.inr (Or.inl t))))) (zCR_4 hR.2.2.1.1) (zCR_l hR.2.2.1.1)
theorem xEq_0 {n : Nat} {z : zPar} {ph : pm_H} {m : Int} {w0 : Nat} (hP : xH xX kK m w0 ph) (hR : xRE n z ph) : xEq n z ph ph := ⟨⟨hR.1, xSame_rf⟩, zqC_x hP hR.2.2.1.2⟩
theorem xEq_R {n : Nat} {z : zPar} {ph p : pm_H} {m m' : Int} {w0 w1 : Nat} (hP : xH xX kK m w0 ph) (hp : xH xX kK m' w1 p) (hR : xRE n z ph) (h : xEq n z ph p) : xRE n z p := by
  have hq := zEQ_R hP hp h.1.2
  exact ⟨h.1.1, hR.2.1, ⟨zCR_Q hp hq hR.2.2.1.1, zqC_c h.2⟩, zMR_Q (zEQ_m (fun _ _ t => zRM t) hq) hR.2.2.2⟩

/-! tails: from a place on, nothing writes a variable, and what is answered is that variable -/
def zTr (t : List (List (Nat × Nat × Instr × Nat))) (pc : Nat) : Bool := match pm_tl t pc with
  | some (7, _, _) => true
  | _ => false
/-- how long an instruction of a group is -/
def zml (g : Nat) (ins : Instr) : Nat := match g with
  | 0 => 1
  | 1 => (match ins with
    | .bipush _ => 2
    | .ldc _ => 2
    | _ => 3)
  | 2 => (match ins with
    | .iload _ => 2
    | .lload _ => 2
    | .aload _ => 2
    | _ => 1)
  | 3 => (match ins with
    | .istore _ => 2
    | .lstore _ => 2
    | .astore _ => 2
    | .iinc _ _ => 3
    | _ => 1)
  | 5 => (match ins with
    | .getfield _ => 3
    | .putfield _ => 3
    | .new _ => 3
    | .newarray _ => 2
    | .anewarray _ => 3
    | .invokespecial _ => 3
    | .invokestatic _ => 3
    | _ => 1)
  | _ => 3
def zTn (t : List (List (Nat × Nat × Instr × Nat))) (pc1 pc : Nat) : Bool := Nat.ble pc pc1 && !zTr t pc
/-- a store into k leaves i as it is (lg: i may hold a long) -/
def zTf (lg : Bool) (k i : Nat) : Bool := (!Nat.beq k i) && ((!Nat.beq (k + 1) i) && (!(lg && Nat.beq k (i + 1))))
def zTl (i : Nat) (ins : Instr) : Bool := match ins with
  | .iload_n k => Nat.beq (k : Nat) i
  | .lload_n k => Nat.beq (k : Nat) i
  | .iload k => Nat.beq k i
  | .lload k => Nat.beq k i
  | _ => false
def zTsw (lg : Bool) (i : Nat) (ins : Instr) : Bool := match ins with
  | .istore_n k => zTf lg (k : Nat) i
  | .istore k => zTf lg k i
  | .lstore_n k => zTf lg (k : Nat) i
  | .lstore k => zTf lg k i
  | .astore_n k => zTf lg (k : Nat) i
  | .astore k => zTf lg k i
  | .iinc k _ => zTf lg k i
  | _ => false
def zTg (ins : Instr) : Bool := match ins with
  | .goto _ => true
  | _ => false
def zTcb (ins : Instr) : Bool := match ins with
  | .ifCond _ _ => true
  | .if_icmp _ _ => true
  | _ => false
def zTok (t : List (List (Nat × Nat × Instr × Nat))) (lg : Bool) (i pc0 pc1 : Nat) (q : Nat × Nat × Instr × Nat) : Bool := bif Nat.blt q.1 pc0 then true else bif Nat.blt pc1 q.1 then true else match q.2 with
  | (0, _, _) => zTn t pc1 (q.1 + 1)
  | (1, ins, _) => zTn t pc1 (q.1 + zml 1 ins)
  | (2, ins, _) => (zTl i ins && Nat.ble (q.1 + zml 2 ins) pc1) || zTn t pc1 (q.1 + zml 2 ins)
  | (3, ins, _) => zTsw lg i ins && zTn t pc1 (q.1 + zml 3 ins)
  | (4, ins, aux) => (zTg ins || (zTcb ins && zTn t pc1 (q.1 + 3))) && (Nat.ble pc0 aux && zTn t pc1 aux)
  | (5, ins, _) => zTn t pc1 (q.1 + zml 5 ins)
  | (6, _, _) => zTn t pc1 (q.1 + 3)
  | (7, _, _) => true
  | _ => false
theorem zTn_m {t : List (List (Nat × Nat × Instr × Nat))} {pc1 pc : Nat} (h : zTn t pc1 pc = true) : pc ≤ pc1 ∧ ∀ {P : Prop}, zTr t pc = true → P := by
  unfold zTn at h
  obtain ⟨h1, h2⟩ := Bool.and_eq_true_iff.mp h
  refine ⟨Nat.le_of_ble_eq_true h1, fun {P} g => ?_⟩
  rw [g] at h2
  cases h2
theorem zTf_ok {lg : Bool} {k i : Nat} (h : zTf lg k i = true) : k ≠ i ∧ k + 1 ≠ i ∧ (lg = true → k ≠ i + 1) := by
  unfold zTf at h
  obtain ⟨h1, h2⟩ := Bool.and_eq_true_iff.mp h
  obtain ⟨h2, h3⟩ := Bool.and_eq_true_iff.mp h2
  refine ⟨fun e => ?_, fun e => ?_, fun e1 e => ?_⟩
  · subst e; rw [Nat.beq_refl] at h1; cases h1
  · rw [e, Nat.beq_refl] at h2; cases h2
  · rw [e1, e, Nat.beq_refl] at h3; cases h3
theorem zTset {L : List (Option Value)} {i k : Nat} {v w : Value} {lg : Bool} (hw : (∃ x, w = .int x) ∨ (lg = true ∧ ∃ x, w = .long x)) (hk : k ≠ i) (hl : lg = true → k ≠ i + 1) (h : L[i]? = some (some w)) : (pm_set L k v)[i]? = some (some w) := by
  unfold pm_set
  cases k with
  | zero => rw [List.getElem?_set_ne hk]; exact h
  | succ j =>
    have far : ∀ u, L[j]? = some (some u) → (pm_isL u = true ∨ ∃ x, u = .double x) → j ≠ i := fun u hu hd e => by
      subst e
      rw [h] at hu
      have e2 : w = u := Option.some.inj (Option.some.inj hu)
      subst e2
      rcases hw with ⟨x, rfl⟩ | ⟨e3, x, rfl⟩
      · rcases hd with hd | ⟨y, hd⟩
        · cases hd
        · cases hd
      · exact hl e3 rfl
    simp only
    split
    · next x hx =>
      rw [List.getElem?_set_ne (far _ hx (Or.inl rfl)), List.getElem?_set_ne hk]
      exact h
    · next x hx =>
      rw [List.getElem?_set_ne (far _ hx (Or.inr ⟨_, rfl⟩)), List.getElem?_set_ne hk]
      exact h
    · rw [List.getElem?_set_ne hk]
      exact h
theorem zTpush {K : pm_K} {ow m : Nat} {ins : Instr} {v : Value} (h : pm_push K ow ins = some (v, m)) : m = zml 1 ins := by
  unfold pm_push at h
  split at h
  · cases h; rfl
  · cases h; rfl
  · split at h
    · cases h; rfl
    · cases h; rfl
    · cases h
  · split at h
    · cases h; rfl
    · cases h; rfl
    · cases h
  · split at h
    · cases h; rfl
    · cases h
  · split at h
    · cases h; rfl
    · cases h
  · cases h
theorem zTload {i m : Nat} {ins : Instr} {L : List (Option Value)} {v w : Value} (hL : L[i]? = some (some w)) (h : pm_load ins L = some (v, m)) : m = zml 2 ins ∧ (zTl i ins = true → v = w) := by
  have key : ∀ {k : Nat} {u : Value}, L[k]? = some (some u) → Nat.beq k i = true → u = w := fun {k u} hu e => by
    have e2 := Nat.eq_of_beq_eq_true e
    subst e2
    rw [hL] at hu
    exact (Option.some.inj (Option.some.inj hu)).symm
  unfold pm_load at h
  split at h
  · split at h
    · next x hx => cases h; exact ⟨rfl, key hx⟩
    · cases h
  · split at h
    · next x hx => cases h; exact ⟨rfl, key hx⟩
    · cases h
  · split at h
    · next x hx => cases h; exact ⟨rfl, key hx⟩
    · cases h
  · split at h
    · next x hx => cases h; exact ⟨rfl, key hx⟩
    · cases h
  · split at h
    · cases h; exact ⟨rfl, fun q => absurd q (by simp [zTl])⟩
    · cases h; exact ⟨rfl, fun q => absurd q (by simp [zTl])⟩
    · cases h
  · split at h
    · cases h; exact ⟨rfl, fun q => absurd q (by simp [zTl])⟩
    · cases h; exact ⟨rfl, fun q => absurd q (by simp [zTl])⟩
    · cases h
  · cases h
theorem zTstore {lg : Bool} {i m : Nat} {ins : Instr} {L L' : List (Option Value)} {w : Value} {st st' : List Value} (hw : (∃ x, w = .int x) ∨ (lg = true ∧ ∃ x, w = .long x)) (hL : L[i]? = some (some w)) (ck : zTsw lg i ins = true) (h : pm_store ins L st = some (L', st', m)) : L'[i]? = some (some w) ∧ m = zml 3 ins := by
  have key : ∀ {k : Nat} {u : Value}, zTf lg k i = true → (pm_set L k u)[i]? = some (some w) := fun {k u} ck => by
    obtain ⟨d1, d2, d3⟩ := zTf_ok ck
    exact zTset hw d1 d3 hL
  have key2 : ∀ {k : Nat} {u : Value}, zTf lg k i = true → ((pm_set L k u).set (k + 1) none)[i]? = some (some w) := fun {k u} ck => by
    obtain ⟨d1, d2, d3⟩ := zTf_ok ck
    rw [List.getElem?_set_ne d2]
    exact zTset hw d1 d3 hL
  unfold pm_store at h
  split at h
  · have h2 := zbif h; cases h2; exact ⟨key ck, rfl⟩
  · have h2 := zbif h; cases h2; exact ⟨key ck, rfl⟩
  · have h2 := zbif h; cases h2; exact ⟨key2 ck, rfl⟩
  · have h2 := zbif h; cases h2; exact ⟨key2 ck, rfl⟩
  · have h2 := zbif h; cases h2; exact ⟨key ck, rfl⟩
  · have h2 := zbif h; cases h2; exact ⟨key ck, rfl⟩
  · split at h
    · have h2 := zbif h; cases h2; exact ⟨key ck, rfl⟩
    · cases h
  · cases h
theorem zTbn {α : Type} {b : Bool} {X : Option α} {y : α} (h : (bif b then none else X) = some y) : X = some y := by
  cases b with
  | true => cases h
  | false => exact h
theorem zTmem {K : pm_K} {ow m c1 s1 : Nat} {ins : Instr} {st st' : List Value} {ph ph' : pm_H} (h : pm_mem K false ow ins st ph = some (m, st', ph', c1, s1)) : m = zml 5 ins := by
  unfold pm_mem at h
  repeat' split at h
  all_goals first
    | (cases h; done)
    | (cases h; rfl)
    | (have h2 := zbif h; cases h2; rfl)
    | (have h2 := zTbn h; cases h2; done)
    | (have h2 := zTbn h; cases h2; rfl)
    | (have h2 := zbif (zTbn h); cases h2; rfl)
theorem zTbif4 {α : Type} {a b c d : Bool} {x y : α} (h : (bif a then some x else bif b then some x else bif c then some x else bif d then some x else none) = some y) : x = y := by
  cases a with
  | true => exact Option.some.inj h
  | false =>
    cases b with
    | true => exact Option.some.inj h
    | false =>
      cases c with
      | true => exact Option.some.inj h
      | false => exact zbif h
theorem zTret {kd : Nat} {ins : Instr} {st : List Value} {u : Option Value} {w : Value} (hw : (∃ x, w = .int x) ∨ (∃ x, w = .long x)) (hs : st.head? = some w) (h : pm_ret kd ins st = some u) : u = some w := by
  unfold pm_ret at h
  split at h
  · cases hs
  · have e := Option.some.inj hs
    rw [← e]
    exact (zTbif4 h).symm
  · have e := Option.some.inj hs
    rw [← e]
    exact (zbif h).symm
  · have e := Option.some.inj hs
    subst e
    rcases hw with ⟨x, hx⟩ | ⟨x, hx⟩ <;> cases hx
  · have e := Option.some.inj hs
    subst e
    rcases hw with ⟨x, hx⟩ | ⟨x, hx⟩ <;> cases hx
  · cases h
theorem zTbr {ins : Instr} {aux pc pc' : Nat} {st st' : List Value} (hi : (zTg ins || zTcb ins) = true) (h : pm_br ins aux pc st = some (pc', st')) : pc' = aux ∨ (zTcb ins = true ∧ pc' = pc + 3) := by
  have cb : ∀ {b : Bool} {r : List Value}, zTcb ins = true → some ((bif b then aux else pc + 3), r) = some (pc', st') → pc' = aux ∨ (zTcb ins = true ∧ pc' = pc + 3) := fun {b r} hc q => by
    cases b with
    | true => cases q; exact Or.inl rfl
    | false => cases q; exact Or.inr ⟨hc, rfl⟩
  have cb2 : ∀ {b : Bool} {r : List Value}, zTcb ins = true → some ((bif b then pc + 3 else aux), r) = some (pc', st') → pc' = aux ∨ (zTcb ins = true ∧ pc' = pc + 3) := fun {b r} hc q => by
    cases b with
    | true => cases q; exact Or.inr ⟨hc, rfl⟩
    | false => cases q; exact Or.inl rfl
  unfold pm_br at h
  split at h
  all_goals first
    | exact cb rfl h
    | exact cb2 rfl h
    | (cases hi; done)
    | (cases h; exact Or.inl rfl)
    | cases h
theorem zTail_k {j i pc0 pc1 D : Nat} {t : List (List (Nat × Nat × Instr × Nat))} {w : Value} {lg : Bool} (hk : ∀ pc, pm_code kK j pc = pm_tl t pc) (hw : (∃ x, w = .int x) ∨ (lg = true ∧ ∃ x, w = .long x)) (chk : t.all (fun c => c.all (zTok t lg i pc0 pc1)) = true) : ∀ (k : Nat) (pc : Nat) (L : List (Option Value)) (st : List Value) (ph : pm_H) (cs ss : Nat) (r : pm_R), pc0 ≤ pc → pc ≤ pc1 → L[i]? = some (some w) → (zTr t pc = true → st.head? = some w) → pm_Tn kK false (pm_Rd kK false D) j k (pc, L, st, ph, cs, ss) r → r.1 = some w := by
  intro k
  induction k with
  | zero => intro pc L st ph cs ss r hp hp1 hL hs hr; exact hr.elim
  | succ k ih =>
    intro pc L st ph cs ss r hp hp1 hL hs hr
    rw [pm_Tn] at hr
    unfold pm_step at hr
    cases he : pm_tl t pc with
    | none => simp only [hk, he] at hr
    | some e =>
      obtain ⟨g, ins, aux⟩ := e
      obtain ⟨c, hc, hq⟩ := pm_tl_mem he
      have ck := List.all_eq_true.mp (List.all_eq_true.mp chk c hc) _ hq
      have hb : Nat.blt pc pc0 = false := by
        cases h : Nat.blt pc pc0 with
        | false => rfl
        | true => exact absurd (Nat.le_of_ble_eq_true h) (by omega)
      have hb1 : Nat.blt pc1 pc = false := by
        cases h : Nat.blt pc1 pc with
        | false => rfl
        | true => exact absurd (Nat.le_of_ble_eq_true h) (by omega)
      unfold zTok at ck
      simp only [hb, hb1, cond_false] at ck
      simp only [hk, he] at hr
      clear hq
      revert ck hr he
      match g with
      | 0 =>
        intro he ck hr
        simp only at ck hr
        cases hm : pm_alu ins st with
        | none => simp only [hm] at hr
        | some st' =>
          simp only [hm] at hr
          exact ih _ _ _ _ _ _ _ (by omega) (zTn_m ck).1 hL (zTn_m ck).2 hr
      | 1 =>
        intro he ck hr
        simp only at ck hr
        cases hm : pm_push kK (pm_own kK j) ins with
        | none => simp only [hm] at hr
        | some q =>
          obtain ⟨v, m⟩ := q
          simp only [hm] at hr
          have e := zTpush hm
          subst e
          exact ih _ _ _ _ _ _ _ (by omega) (zTn_m ck).1 hL (zTn_m ck).2 hr
      | 2 =>
        intro he ck hr
        simp only at ck hr
        cases hm : pm_load ins L with
        | none => simp only [hm] at hr
        | some q =>
          obtain ⟨v, m⟩ := q
          simp only [hm] at hr
          obtain ⟨e, h2⟩ := zTload hL hm
          subst e
          rcases Bool.or_eq_true_iff.mp ck with ck | ck
          · obtain ⟨k1, k2⟩ := Bool.and_eq_true_iff.mp ck
            exact ih _ _ _ _ _ _ _ (by omega) (Nat.le_of_ble_eq_true k2) hL (fun _ => (show (v :: st).head? = some w from congrArg some (h2 k1))) hr
          · exact ih _ _ _ _ _ _ _ (by omega) (zTn_m ck).1 hL (zTn_m ck).2 hr
      | 3 =>
        intro he ck hr
        simp only at ck hr
        obtain ⟨k1, k2⟩ := Bool.and_eq_true_iff.mp ck
        cases hm : pm_store ins L st with
        | none => simp only [hm] at hr
        | some q =>
          obtain ⟨L', st', m⟩ := q
          simp only [hm] at hr
          obtain ⟨h2, e⟩ := zTstore hw hL k1 hm
          subst e
          exact ih _ _ _ _ _ _ _ (by omega) (zTn_m k2).1 h2 (zTn_m k2).2 hr
      | 4 =>
        intro he ck hr
        simp only at ck hr
        obtain ⟨k1, k2⟩ := Bool.and_eq_true_iff.mp ck
        obtain ⟨k2, k3⟩ := Bool.and_eq_true_iff.mp k2
        have k4 : (zTg ins || zTcb ins) = true ∧ (zTcb ins = true → zTg ins = false → zTn t pc1 (pc + 3) = true) := by
          cases h1 : zTg ins with
          | true => exact ⟨rfl, fun _ q => by cases q⟩
          | false =>
            rw [h1, Bool.false_or] at k1
            obtain ⟨k5, k6⟩ := Bool.and_eq_true_iff.mp k1
            exact ⟨by rw [k5]; rfl, fun _ _ => k6⟩
        cases hm : pm_br ins aux pc st with
        | none => simp only [hm] at hr
        | some q =>
          obtain ⟨pc', st'⟩ := q
          simp only [hm] at hr
          rcases zTbr k4.1 hm with rfl | ⟨hc2, rfl⟩
          · exact ih _ _ _ _ _ _ _ (Nat.le_of_ble_eq_true k2) (zTn_m k3).1 hL (zTn_m k3).2 hr
          · have hg : zTg ins = false := by
              cases ins <;> first | rfl | cases hc2
            have k5 := k4.2 hc2 hg
            exact ih _ _ _ _ _ _ _ (by omega) (zTn_m k5).1 hL (zTn_m k5).2 hr
      | 5 =>
        intro he ck hr
        simp only at ck hr
        cases hm : pm_mem kK false (pm_own kK j) ins st ph with
        | none => simp only [hm] at hr
        | some q =>
          obtain ⟨m, st', ph', c1, s1⟩ := q
          simp only [hm] at hr
          have e := zTmem hm
          subst e
          exact ih _ _ _ _ _ _ _ (by omega) (zTn_m ck).1 hL (zTn_m ck).2 hr
      | 6 =>
        intro he ck hr
        simp only at ck hr
        cases hm : pm_inv kK (pm_own kK j) ins st ph with
        | none => simp only [hm] at hr
        | some q =>
          obtain ⟨j', as, r2⟩ := q
          simp only [hm] at hr
          obtain ⟨v, ph', c1, s1, h1, h2⟩ := hr
          exact ih _ _ _ _ _ _ _ (by omega) (zTn_m ck).1 hL (zTn_m ck).2 h2
      | 7 =>
        intro he ck hr
        simp only at hr
        cases hm : pm_ret (pm_sig kK j).2.2 ins st with
        | none => simp only [hm] at hr
        | some u =>
          simp only [hm] at hr
          subst hr
          exact zTret (hw.imp id (fun q => q.2)) (hs (by unfold zTr; rw [he]; rfl)) hm
      | n + 8 => intro he ck hr; cases ck
theorem zTail {j n D pc : Nat} (t : List (List (Nat × Nat × Instr × Nat))) {w : Value} (lg : Bool) (i pc0 pc1 : Nat) {L : List (Option Value)} {st : List Value} {ph : pm_H} {Q : Option Value → pm_H → Prop} (hk : ∀ pc, pm_code kK j pc = pm_tl t pc) (hw : (∃ x, w = .int x) ∨ (lg = true ∧ ∃ x, w = .long x)) (chk : t.all (fun c => c.all (zTok t lg i pc0 pc1)) = true) (hp : pc0 ≤ pc) (hp1 : pc ≤ pc1) (hL : L[i]? = some (some w)) (hr : zTr t pc = false) (hQ : ∀ q, Q (some w) q) : zW n D j Q pc L st ph := fun k _ cs ss r h => by
  have h2 := zTail_k hk hw chk k pc L st ph cs ss r hp hp1 hL (fun q => by rw [hr] at q; cases q) h
  rw [h2]
  exact hQ _

/-! tails whose answer is 0 -/
def zTi0 (ins : Instr) : Bool := match ins with
  | .iconst n => decide (n = 0)
  | _ => false
theorem zTi0_ok {ins : Instr} {st st' : List Value} (h : zTi0 ins = true) (hm : pm_alu ins st = some st') : st'.head? = some (.int (Int32.ofInt 0)) := by
  have e : ins = .iconst 0 := by
    cases ins <;> first | cases h | exact congrArg Instr.iconst (of_decide_eq_true h)
  subst e
  unfold pm_alu at hm
  simp only at hm
  cases hm
  rfl
theorem zTldm {m : Nat} {ins : Instr} {L : List (Option Value)} {v : Value} (h : pm_load ins L = some (v, m)) : m = zml 2 ins := by
  unfold pm_load at h
  repeat' split at h
  all_goals first
    | (cases h; done)
    | (cases h; rfl)
theorem zTstm {m : Nat} {ins : Instr} {L L' : List (Option Value)} {st st' : List Value} (h : pm_store ins L st = some (L', st', m)) : m = zml 3 ins := by
  unfold pm_store at h
  repeat' split at h
  all_goals first
    | (cases h; done)
    | (have h2 := zbif h; cases h2; rfl)
def zTok0 (t : List (List (Nat × Nat × Instr × Nat))) (pc0 pc1 : Nat) (q : Nat × Nat × Instr × Nat) : Bool := bif Nat.blt q.1 pc0 then true else bif Nat.blt pc1 q.1 then true else match q.2 with
  | (0, ins, _) => (zTi0 ins && Nat.ble (q.1 + 1) pc1) || zTn t pc1 (q.1 + 1)
  | (1, ins, _) => zTn t pc1 (q.1 + zml 1 ins)
  | (2, ins, _) => zTn t pc1 (q.1 + zml 2 ins)
  | (3, ins, _) => zTn t pc1 (q.1 + zml 3 ins)
  | (4, ins, aux) => (zTg ins || (zTcb ins && zTn t pc1 (q.1 + 3))) && (Nat.ble pc0 aux && zTn t pc1 aux)
  | (5, ins, _) => zTn t pc1 (q.1 + zml 5 ins)
  | (6, _, _) => zTn t pc1 (q.1 + 3)
  | (7, _, _) => true
  | _ => false
theorem zTail0_k {j pc0 pc1 D : Nat} {t : List (List (Nat × Nat × Instr × Nat))} (hk : ∀ pc, pm_code kK j pc = pm_tl t pc) (chk : t.all (fun c => c.all (zTok0 t pc0 pc1)) = true) : ∀ (k : Nat) (pc : Nat) (L : List (Option Value)) (st : List Value) (ph : pm_H) (cs ss : Nat) (r : pm_R), pc0 ≤ pc → pc ≤ pc1 → (zTr t pc = true → st.head? = some (.int (Int32.ofInt 0))) → pm_Tn kK false (pm_Rd kK false D) j k (pc, L, st, ph, cs, ss) r → r.1 = some (.int (Int32.ofInt 0)) := by
  intro k
  induction k with
  | zero => intro pc L st ph cs ss r hp hp1 hs hr; exact hr.elim
  | succ k ih =>
    intro pc L st ph cs ss r hp hp1 hs hr
    rw [pm_Tn] at hr
    unfold pm_step at hr
    cases he : pm_tl t pc with
    | none => simp only [hk, he] at hr
    | some e =>
      obtain ⟨g, ins, aux⟩ := e
      obtain ⟨c, hc, hq⟩ := pm_tl_mem he
      have ck := List.all_eq_true.mp (List.all_eq_true.mp chk c hc) _ hq
      have hb : Nat.blt pc pc0 = false := by
        cases h : Nat.blt pc pc0 with
        | false => rfl
        | true => exact absurd (Nat.le_of_ble_eq_true h) (by omega)
      have hb1 : Nat.blt pc1 pc = false := by
        cases h : Nat.blt pc1 pc with
        | false => rfl
        | true => exact absurd (Nat.le_of_ble_eq_true h) (by omega)
      unfold zTok0 at ck
      simp only [hb, hb1, cond_false] at ck
      simp only [hk, he] at hr
      clear hq
      revert ck hr he
      match g with
      | 0 =>
        intro he ck hr
        simp only at ck hr
        cases hm : pm_alu ins st with
        | none => simp only [hm] at hr
        | some st' =>
          simp only [hm] at hr
          rcases Bool.or_eq_true_iff.mp ck with ck | ck
          · obtain ⟨k1, k2⟩ := Bool.and_eq_true_iff.mp ck
            exact ih _ _ _ _ _ _ _ (by omega) (Nat.le_of_ble_eq_true k2) (fun _ => zTi0_ok k1 hm) hr
          · exact ih _ _ _ _ _ _ _ (by omega) (zTn_m ck).1 (zTn_m ck).2 hr
      | 1 =>
        intro he ck hr
        simp only at ck hr
        cases hm : pm_push kK (pm_own kK j) ins with
        | none => simp only [hm] at hr
        | some q =>
          obtain ⟨v, m⟩ := q
          simp only [hm] at hr
          have e := zTpush hm
          subst e
          exact ih _ _ _ _ _ _ _ (by omega) (zTn_m ck).1 (zTn_m ck).2 hr
      | 2 =>
        intro he ck hr
        simp only at ck hr
        cases hm : pm_load ins L with
        | none => simp only [hm] at hr
        | some q =>
          obtain ⟨v, m⟩ := q
          simp only [hm] at hr
          have e := zTldm hm
          subst e
          exact ih _ _ _ _ _ _ _ (by omega) (zTn_m ck).1 (zTn_m ck).2 hr
      | 3 =>
        intro he ck hr
        simp only at ck hr
        cases hm : pm_store ins L st with
        | none => simp only [hm] at hr
        | some q =>
          obtain ⟨L', st', m⟩ := q
          simp only [hm] at hr
          have e := zTstm hm
          subst e
          exact ih _ _ _ _ _ _ _ (by omega) (zTn_m ck).1 (zTn_m ck).2 hr
      | 4 =>
        intro he ck hr
        simp only at ck hr
        obtain ⟨k1, k2⟩ := Bool.and_eq_true_iff.mp ck
        obtain ⟨k2, k3⟩ := Bool.and_eq_true_iff.mp k2
        have k4 : (zTg ins || zTcb ins) = true ∧ (zTcb ins = true → zTg ins = false → zTn t pc1 (pc + 3) = true) := by
          cases h1 : zTg ins with
          | true => exact ⟨rfl, fun _ q => by cases q⟩
          | false =>
            rw [h1, Bool.false_or] at k1
            obtain ⟨k5, k6⟩ := Bool.and_eq_true_iff.mp k1
            exact ⟨by rw [k5]; rfl, fun _ _ => k6⟩
        cases hm : pm_br ins aux pc st with
        | none => simp only [hm] at hr
        | some q =>
          obtain ⟨pc', st'⟩ := q
          simp only [hm] at hr
          rcases zTbr k4.1 hm with rfl | ⟨hc2, rfl⟩
          · exact ih _ _ _ _ _ _ _ (Nat.le_of_ble_eq_true k2) (zTn_m k3).1 (zTn_m k3).2 hr
          · have hg : zTg ins = false := by
              cases ins <;> first | rfl | cases hc2
            have k5 := k4.2 hc2 hg
            exact ih _ _ _ _ _ _ _ (by omega) (zTn_m k5).1 (zTn_m k5).2 hr
      | 5 =>
        intro he ck hr
        simp only at ck hr
        cases hm : pm_mem kK false (pm_own kK j) ins st ph with
        | none => simp only [hm] at hr
        | some q =>
          obtain ⟨m, st', ph', c1, s1⟩ := q
          simp only [hm] at hr
          have e := zTmem hm
          subst e
          exact ih _ _ _ _ _ _ _ (by omega) (zTn_m ck).1 (zTn_m ck).2 hr
      | 6 =>
        intro he ck hr
        simp only at ck hr
        cases hm : pm_inv kK (pm_own kK j) ins st ph with
        | none => simp only [hm] at hr
        | some q =>
          obtain ⟨j', as, r2⟩ := q
          simp only [hm] at hr
          obtain ⟨v, ph', c1, s1, h1, h2⟩ := hr
          exact ih _ _ _ _ _ _ _ (by omega) (zTn_m ck).1 (zTn_m ck).2 h2
      | 7 =>
        intro he ck hr
        simp only at hr
        cases hm : pm_ret (pm_sig kK j).2.2 ins st with
        | none => simp only [hm] at hr
        | some u =>
          simp only [hm] at hr
          subst hr
          exact zTret (Or.inl ⟨_, rfl⟩) (hs (by unfold zTr; rw [he]; rfl)) hm
      | n + 8 => intro he ck hr; cases ck
theorem zTail0 {j n D pc : Nat} (t : List (List (Nat × Nat × Instr × Nat))) (pc0 pc1 : Nat) {L : List (Option Value)} {st : List Value} {ph : pm_H} {Q : Option Value → pm_H → Prop} (hk : ∀ pc, pm_code kK j pc = pm_tl t pc) (chk : t.all (fun c => c.all (zTok0 t pc0 pc1)) = true) (hp : pc0 ≤ pc) (hp1 : pc ≤ pc1) (hr : zTr t pc = false) (hQ : ∀ q, Q (some (.int (Int32.ofInt 0))) q) : zW n D j Q pc L st ph := fun k _ cs ss r h => by
  have h2 := zTail0_k hk chk k pc L st ph cs ss r hp hp1 (fun q => by rw [hr] at q; cases q) h
  rw [h2]
  exact hQ _

/-! what looks answer, class and reference, by W; printed by wip/z/z3a_looks.py -/
def zXsees (E : zEn) (P : Nat) (v : Nat → Nat) (x : Int32) : Int64 := if 0 ≤ x.toInt ∧ x.toInt < (P : Int) then zVw E P v x.toInt.toNat else -1
theorem zXsees_n {E : zEn} {P : Nat} {v : Nat → Nat} {x : Int32} (h : ¬ (0 ≤ x.toInt ∧ x.toInt < (P : Int))) : (some (.long (-1)) : Option Value) = some (.long (zXsees E P v x)) := by
  unfold zXsees
  rw [if_neg h]
theorem zXsees_p {E : zEn} {P p : Nat} {v : Nat → Nat} (hp : p < P) (hP : P ≤ 8) : (some (.long (zVw E P v p)) : Option Value) = some (.long (zXsees E P v (zn p))) := by
  have t := znt (k := p) (by omega)
  unfold zXsees
  rw [if_pos (by omega), show (zn p).toInt.toNat = p by omega]
theorem zc_seesX {ph : pm_H} {E : zEn} {F P G : Nat} {v : Nat → Nat} (hS : zSh ph) (hE : zCe ph E F) (ht : zCt ph 25 P G v) (hO : zOk E.1 E.2.1 P G v) (hr : zc ph 10 1 = some (.ref F)) (hc : zCc ph E.1 E.2.1 E.2.2.1) {x : Int32} : zM 147 [.ref 0, .int x] ph (fun v0 _ => v0 = some (.long (zXsees E P v x))) := by
  obtain ⟨Q, hQ⟩ : ∃ Q : Option Value → pm_H → Prop, Q = (fun v0 _ => v0 = some (.long (zXsees E P v x))) := ⟨_, rfl⟩
  rw [← hQ]
  refine zM_mk fun n D => ?_
  show zW n D 147 Q 0 [some (.ref 0), some (.int x), none, none] [] ph
  have c_0 : (Int32.ofInt (-1)).toInt = -1 := by decide
  have c_1 : (Int32.ofInt 1).toInt = 1 := by decide
  obtain ⟨R, C, rk, sn, sk, cn, cd⟩ := E
  have hL0 : zCl ph R C rk := hE.1
  have hi0 : zCi ph sn sk := hE.2.1
  have hF : F = 11 ∨ F = 16 := hE.2.2.2
  have hE0 : zCe ph (R, C, rk, sn, sk, cn, cd) F := hE
  have hO0 : zOk R C P G v := hO
  have hL := hL0
  have hs := ht.1.2
  have hd := ht.2
  have h25 := ht.1.1
  obtain ⟨gR, gC, gN, gK, gA, hR3, hR7, hC3, hC7⟩ := hL
  have hRC := zRC49 hR7 hC7
  have tR := znt (k := R) (by omega)
  have tC := znt (k := C) (by omega)
  have tRC := znt (k := R * C) (by omega)
  have hd0 := hd
  have hs0 := hs
  obtain ⟨r3, r4, r5, r6, r7, l1, l2, l3, l4, l5⟩ := hs
  obtain ⟨gP, hP8, gG, hG8, gH, gv, gw⟩ := hd
  have tP := znt (k := P) (by omega)
  have tG := znt (k := G) (by omega)
  have h40 := hO0.2.2
  have t40 := znt (k := v 40) (by omega)
  have hc0 := hc
  refine w_load (pc' := 1) (v := .ref 0) (m := 1) (ykc_147 (e := (2, .aload_n kF0, 0)) rfl) rfl rfl ?_
  refine w_gf (pc' := 4) (v := .ref 25) (ykc_147 (e := (5, .getfield 42, 0)) rfl) rfl (zsg hS zs_0_4) rfl ?_
  refine w_load (pc' := 5) (v := .int x) (m := 1) (ykc_147 (e := (2, .iload_n kF1, 0)) rfl) rfl rfl ?_
  refine w_cv (as := [.ref 25, .int x]) (r := []) (ykc_147 (e := (6, .invokevirtual 167, 0)) rfl) rfl rfl rfl rfl (zc_hasP ht.1.2 ht.2 (i := x)) (fun v827 ph828 hv => ?_)
  obtain ⟨rfl, rfl⟩ := hv
  show zW n D 147 Q 8 [some (.ref 0), some (.int x), none, none] [.int (zI (decide (0 ≤ x.toInt ∧ x.toInt < ((P : Nat) : Int))))] ph
  refine w_bne (ykc_147 (e := (4, .ifCond .ne 7, 15)) rfl) rfl (fun b829 => ?_) (fun b829 => ?_)
  · have b_p := of_decide_eq_true b829
    obtain ⟨p, h_p, rfl⟩ : ∃ p : Nat, p < P ∧ x = zn p := ⟨x.toInt.toNat, by omega, zn_of (by omega)⟩
    have t_p := znt (k := p) (by omega)
    show zW n D 147 Q 15 [some (.ref 0), some (.int (zn p)), none, none] [] ph
    refine w_load (pc' := 16) (v := .ref 0) (m := 1) (ykc_147 (e := (2, .aload_n kF0, 0)) rfl) rfl rfl ?_
    refine w_gf (pc' := 19) (v := .ref 10) (ykc_147 (e := (5, .getfield 35, 0)) rfl) rfl (zsg hS zs_0_3) rfl ?_
    refine w_load (pc' := 20) (v := .ref 0) (m := 1) (ykc_147 (e := (2, .aload_n kF0, 0)) rfl) rfl rfl ?_
    refine w_gf (pc' := 23) (v := .ref 25) (ykc_147 (e := (5, .getfield 42, 0)) rfl) rfl (zsg hS zs_0_4) rfl ?_
    refine w_load (pc' := 24) (v := .int (zn p)) (m := 1) (ykc_147 (e := (2, .iload_n kF1, 0)) rfl) rfl rfl ?_
    refine w_cv (as := [.ref 10, .ref 25, .int (zn p)]) (r := []) (ykc_147 (e := (6, .invokevirtual 190, 0)) rfl) rfl rfl rfl rfl (zc_viewOf hS hE0 ht hO0 hr hc0 (p := p) (by omega)) (fun v832 ph833 hv => ?_)
    obtain ⟨f830, hc831, rfl⟩ := hv
    show zW n D 147 Q 27 [some (.ref 0), some (.int (zn p)), none, none] [.long (zVw (R, C, rk, sn, sk, cn, cd) P v p)] ph833
    refine w_store (pc' := 28) (L' := [some (.ref 0), some (.int (zn p)), some (.long (zVw (R, C, rk, sn, sk, cn, cd) P v p)), none]) (st' := []) (m := 1) (ykc_147 (e := (3, .lstore_n kF2, 0)) rfl) rfl rfl ?_
    rw [hQ]
    exact zTail kc_147 true 2 28 9999 (fun _ => rfl) (Or.inr ⟨rfl, _, rfl⟩) (by decide +kernel) (by decide) (by decide) rfl (by decide +kernel) (fun _ => zXsees_p h_p (by omega))
  · refine w_push (pc' := 14) (v := .long (-1 : Int64)) (m := 3) (ykc_147 (e := (1, .ldc2_w 94, 0)) rfl) rfl rfl ?_
    refine w_ret (v := (some (.long (-1 : Int64)))) (ykc_147 (e := (7, .lreturn, 0)) rfl) (zr_v rfl) ?_
    have b_n := of_decide_eq_false b829
    rw [hQ]
    exact zXsees_n b_n
theorem zm_seesX {ph : pm_H} {E : zEn} {P G : Nat} {v : Nat → Nat} (hS : zSh ph) (hE : zMe ph E) (hN : zMp ph P G) (hv : zNr ph 174 0 v) (hO : zOk E.1 E.2.1 P G v) {x : Int32} : zM 257 [.ref 170, .int x] ph (fun v0 _ => v0 = some (.long (zXsees E P v x))) := by
  obtain ⟨Q, hQ⟩ : ∃ Q : Option Value → pm_H → Prop, Q = (fun v0 _ => v0 = some (.long (zXsees E P v x))) := ⟨_, rfl⟩
  rw [← hQ]
  refine zM_mk fun n D => ?_
  show zW n D 257 Q 0 [some (.ref 170), some (.int x), none, none] [] ph
  have c_0 : (Int32.ofInt (-1)).toInt = -1 := by decide
  have c_1 : (Int32.ofInt 0).toInt = 0 := by decide
  have c_2 : (Int32.ofInt 1).toInt = 1 := by decide
  have hA : (174 : Nat) = 174 ∨ (174 : Nat) = 175 := Or.inl rfl
  obtain ⟨R, C, rk, sn, sk, cn, cd⟩ := E
  have hL0 : zMl ph R C rk := hE.1
  have hR0 : zMr ph sn sk cn cd := hE.2.1
  have hcg : zcg cn cd := hE.2.2
  have hE0 : zMe ph (R, C, rk, sn, sk, cn, cd) := hE
  have hO0 : zOk R C P G v := hO
  have hN0 := hN
  have hL := hL0
  have hR := hR0
  obtain ⟨gR, gC, gK, hR3, hR7, hC3, hC7⟩ := hL
  have hRC := zRC49 hR7 hC7
  have tR := znt (k := R) (by omega)
  have tC := znt (k := C) (by omega)
  obtain ⟨gP, hP8, gG, hG8⟩ := hN
  have tP := znt (k := P) (by omega)
  have tG := znt (k := G) (by omega)
  obtain ⟨gsn, hs1, hs20, gsk, gcn, hc40, gcd⟩ := hR
  have tsn := znt (k := sn) (by omega)
  have tcn := znt (k := cn) (by omega)
  refine w_load (pc' := 1) (v := .ref 170) (m := 1) (ykc_257 (e := (2, .aload_n kF0, 0)) rfl) rfl rfl ?_
  refine w_alu (pc' := 2) (st' := [.int (Int32.ofInt 0), .ref 170]) (ykc_257 (e := (0, .iconst 0, 0)) rfl) rfl rfl ?_
  refine w_pf (pc' := 5) (ykc_257 (e := (5, .putfield 3, 0)) rfl) rfl rfl (fun ph835 u834 => ?_)
  have f0 : zFr [] [(170, 0)] ph ph835 := zFr_st u834 (Or.inr (by simp))
  have hS1 := zSh_st u834 (by decide +kernel) hS
  have hE1 : zMe ph835 (R, C, rk, sn, sk, cn, cd) := ⟨zMl_F f0 (by simp) (by simp) (by simp) (by simp) hE0.1, zMr_F f0 (by simp) (by simp) (by simp) (by simp) hE0.2.1, hE0.2.2⟩
  have hN1 := zMp_F f0 (by simp) (by simp) (by simp) hN0
  have hv1 := zNr_F f0 (by simp) (by simp) hv
  have hL1 : zMl ph835 R C rk := hE1.1
  have hR1 : zMr ph835 sn sk cn cd := hE1.2.1
  refine w_load (pc' := 6) (v := .ref 170) (m := 1) (ykc_257 (e := (2, .aload_n kF0, 0)) rfl) rfl rfl ?_
  refine w_load (pc' := 7) (v := .int x) (m := 1) (ykc_257 (e := (2, .iload_n kF1, 0)) rfl) rfl rfl ?_
  refine w_cv (as := [.ref 170, .int x]) (r := []) (ykc_257 (e := (6, .invokevirtual 315, 0)) rfl) rfl rfl rfl rfl (zm_isPerson hN1 (p := x)) (fun v836 ph837 hv => ?_)
  obtain ⟨rfl, rfl⟩ := hv
  show zW n D 257 Q 10 [some (.ref 170), some (.int x), none, none] [.int (zI (decide (0 ≤ x.toInt ∧ x.toInt < ((P : Nat) : Int))))] ph835
  refine w_bne (ykc_257 (e := (4, .ifCond .ne 7, 17)) rfl) rfl (fun b838 => ?_) (fun b838 => ?_)
  · have b_p := of_decide_eq_true b838
    obtain ⟨p, h_p, rfl⟩ : ∃ p : Nat, p < P ∧ x = zn p := ⟨x.toInt.toNat, by omega, zn_of (by omega)⟩
    have t_p := znt (k := p) (by omega)
    show zW n D 257 Q 17 [some (.ref 170), some (.int (zn p)), none, none] [] ph835
    refine w_load (pc' := 18) (v := .ref 170) (m := 1) (ykc_257 (e := (2, .aload_n kF0, 0)) rfl) rfl rfl ?_
    refine w_load (pc' := 19) (v := .ref 170) (m := 1) (ykc_257 (e := (2, .aload_n kF0, 0)) rfl) rfl rfl ?_
    refine w_gf (pc' := 22) (v := .ref 174) (ykc_257 (e := (5, .getfield 41, 0)) rfl) rfl ((u834.2.1 170 11 (fun q => absurd q.2 (by decide))).trans (zsg hS zs_170_11)) rfl ?_
    refine w_load (pc' := 23) (v := .int (zn p)) (m := 1) (ykc_257 (e := (2, .iload_n kF1, 0)) rfl) rfl rfl ?_
    refine w_cv (as := [.ref 170, .ref 174, .int (zn p)]) (r := []) (ykc_257 (e := (6, .invokevirtual 300, 0)) rfl) rfl rfl rfl rfl (zm_seen hS1 hE1 hN1 (⟨hA, hv1⟩ : ((174 : Nat) = 174 ∨ (174 : Nat) = 175) ∧ zNr ph835 174 0 v).1 (⟨hA, hv1⟩ : ((174 : Nat) = 174 ∨ (174 : Nat) = 175) ∧ zNr ph835 174 0 v).2 hO0 (p := p) (by omega)) (fun v840 ph841 hv => ?_)
    obtain ⟨f839, rfl⟩ := hv
    show zW n D 257 Q 26 [some (.ref 170), some (.int (zn p)), none, none] [.long (zVw (R, C, rk, sn, sk, cn, cd) P v p)] ph841
    refine w_store (pc' := 27) (L' := [some (.ref 170), some (.int (zn p)), some (.long (zVw (R, C, rk, sn, sk, cn, cd) P v p)), none]) (st' := []) (m := 1) (ykc_257 (e := (3, .lstore_n kF2, 0)) rfl) rfl rfl ?_
    rw [hQ]
    exact zTail kc_257 true 2 27 9999 (fun _ => rfl) (Or.inr ⟨rfl, _, rfl⟩) (by decide +kernel) (by decide) (by decide) rfl (by decide +kernel) (fun _ => zXsees_p h_p (by omega))
  · refine w_push (pc' := 16) (v := .long (-1 : Int64)) (m := 3) (ykc_257 (e := (1, .ldc2_w 403, 0)) rfl) rfl rfl ?_
    refine w_ret (v := (some (.long (-1 : Int64)))) (ykc_257 (e := (7, .lreturn, 0)) rfl) (zr_v rfl) ?_
    have b_n := of_decide_eq_false b838
    rw [hQ]
    exact zXsees_n b_n
def zXseers (E : zEn) (P : Nat) (v : Nat → Nat) (x : Int32) : Int32 := if 0 ≤ x.toInt ∧ x.toInt < ((E.1 * E.2.1 : Nat) : Int) then zWho E P v x.toInt.toNat else Int32.ofInt (-1)
theorem zXseers_n {E : zEn} {P : Nat} {v : Nat → Nat} {x : Int32} (h : ¬ (0 ≤ x.toInt ∧ x.toInt < ((E.1 * E.2.1 : Nat) : Int))) : (some (.int (Int32.ofInt (-1))) : Option Value) = some (.int (zXseers E P v x)) := by
  unfold zXseers
  rw [if_neg h]
theorem zXseers_p {E : zEn} {P p : Nat} {v : Nat → Nat} (hp : p < E.1 * E.2.1) (hP : E.1 * E.2.1 ≤ 64) : (some (.int (zWho E P v p)) : Option Value) = some (.int (zXseers E P v (zn p))) := by
  have t := znt (k := p) (by omega)
  unfold zXseers
  rw [if_pos (by omega), show (zn p).toInt.toNat = p by omega]
theorem zc_seersX {ph : pm_H} {E : zEn} {F P G : Nat} {v : Nat → Nat} (hS : zSh ph) (hE : zCe ph E F) (ht : zCt ph 25 P G v) (hO : zOk E.1 E.2.1 P G v) (hr : zc ph 10 1 = some (.ref F)) (hc : zCc ph E.1 E.2.1 E.2.2.1) {x : Int32} : zM 148 [.ref 0, .int x] ph (fun v0 _ => v0 = some (.int (zXseers E P v x))) := by
  obtain ⟨Q, hQ⟩ : ∃ Q : Option Value → pm_H → Prop, Q = (fun v0 _ => v0 = some (.int (zXseers E P v x))) := ⟨_, rfl⟩
  rw [← hQ]
  refine zM_mk fun n D => ?_
  show zW n D 148 Q 0 [some (.ref 0), some (.int x), none] [] ph
  have c_0 : (Int32.ofInt (-1)).toInt = -1 := by decide
  obtain ⟨R, C, rk, sn, sk, cn, cd⟩ := E
  have hL0 : zCl ph R C rk := hE.1
  have hi0 : zCi ph sn sk := hE.2.1
  have hF : F = 11 ∨ F = 16 := hE.2.2.2
  have hE0 : zCe ph (R, C, rk, sn, sk, cn, cd) F := hE
  have hO0 : zOk R C P G v := hO
  have hL := hL0
  have hs := ht.1.2
  have hd := ht.2
  have h25 := ht.1.1
  obtain ⟨gR, gC, gN, gK, gA, hR3, hR7, hC3, hC7⟩ := hL
  have hRC := zRC49 hR7 hC7
  have tR := znt (k := R) (by omega)
  have tC := znt (k := C) (by omega)
  have tRC := znt (k := R * C) (by omega)
  have hd0 := hd
  have hs0 := hs
  obtain ⟨r3, r4, r5, r6, r7, l1, l2, l3, l4, l5⟩ := hs
  obtain ⟨gP, hP8, gG, hG8, gH, gv, gw⟩ := hd
  have tP := znt (k := P) (by omega)
  have tG := znt (k := G) (by omega)
  have h40 := hO0.2.2
  have t40 := znt (k := v 40) (by omega)
  have hc0 := hc
  refine w_load (pc' := 1) (v := .ref 0) (m := 1) (ykc_148 (e := (2, .aload_n kF0, 0)) rfl) rfl rfl ?_
  refine w_gf (pc' := 4) (v := .ref 5) (ykc_148 (e := (5, .getfield 26, 0)) rfl) rfl (zsg hS zs_0_2) rfl ?_
  refine w_load (pc' := 5) (v := .int x) (m := 1) (ykc_148 (e := (2, .iload_n kF1, 0)) rfl) rfl rfl ?_
  refine w_cv (as := [.ref 5, .int x]) (r := []) (ykc_148 (e := (6, .invokevirtual 302, 0)) rfl) rfl rfl rfl rfl (zc_holds hS hL0 (f := x)) (fun v842 ph843 hv => ?_)
  obtain ⟨rfl, rfl⟩ := hv
  show zW n D 148 Q 8 [some (.ref 0), some (.int x), none] [.int (zI (decide (0 ≤ x.toInt ∧ x.toInt < ((R * C : Nat) : Int))))] ph
  refine w_bne (ykc_148 (e := (4, .ifCond .ne 5, 13)) rfl) rfl (fun b844 => ?_) (fun b844 => ?_)
  · have b_g := of_decide_eq_true b844
    obtain ⟨g, h_g, rfl⟩ : ∃ g : Nat, g < R * C ∧ x = zn g := ⟨x.toInt.toNat, by omega, zn_of (by omega)⟩
    have t_g := znt (k := g) (by omega)
    show zW n D 148 Q 13 [some (.ref 0), some (.int (zn g)), none] [] ph
    refine w_load (pc' := 14) (v := .ref 0) (m := 1) (ykc_148 (e := (2, .aload_n kF0, 0)) rfl) rfl rfl ?_
    refine w_gf (pc' := 17) (v := .ref 10) (ykc_148 (e := (5, .getfield 35, 0)) rfl) rfl (zsg hS zs_0_3) rfl ?_
    refine w_load (pc' := 18) (v := .ref 0) (m := 1) (ykc_148 (e := (2, .aload_n kF0, 0)) rfl) rfl rfl ?_
    refine w_gf (pc' := 21) (v := .ref 25) (ykc_148 (e := (5, .getfield 42, 0)) rfl) rfl (zsg hS zs_0_4) rfl ?_
    refine w_cv (as := [.ref 10, .ref 25]) (r := []) (ykc_148 (e := (6, .invokevirtual 208, 0)) rfl) rfl rfl rfl rfl (zc_lookR hS hE0 ht hO0 hr hc0) (fun v847 ph848 hv => ?_)
    obtain ⟨f845, hc846, hvw, rfl⟩ := hv
    show zW n D 148 Q 24 [some (.ref 0), some (.int (zn g)), none] [.long (zAll (R, C, rk, sn, sk, cn, cd) P v)] ph848
    refine w_alu (pc' := 25) (st' := []) (ykc_148 (e := (0, .pop2, 0)) rfl) rfl rfl ?_
    refine w_load (pc' := 26) (v := .ref 0) (m := 1) (ykc_148 (e := (2, .aload_n kF0, 0)) rfl) rfl rfl ?_
    refine w_gf (pc' := 29) (v := .ref 10) (ykc_148 (e := (5, .getfield 35, 0)) rfl) rfl ((f845.1 0 3 (by decide) (by decide)).trans (zsg hS zs_0_3)) rfl ?_
    refine w_load (pc' := 30) (v := .ref 0) (m := 1) (ykc_148 (e := (2, .aload_n kF0, 0)) rfl) rfl rfl ?_
    refine w_gf (pc' := 33) (v := .ref 25) (ykc_148 (e := (5, .getfield 42, 0)) rfl) rfl ((f845.1 0 4 (by decide) (by decide)).trans (zsg hS zs_0_4)) rfl ?_
    refine w_load (pc' := 34) (v := .int (zn g)) (m := 1) (ykc_148 (e := (2, .iload_n kF1, 0)) rfl) rfl rfl ?_
    refine w_cv (as := [.ref 10, .ref 25, .int (zn g)]) (r := []) (ykc_148 (e := (6, .invokevirtual 212, 0)) rfl) rfl rfl rfl rfl (zc_seers (zCx_S f845 hS) (zCx_e f845 hE0) (zCx_t f845 ht) hO0 hvw (g := g) (show g < R * C by omega)) (fun v849 ph850 hv => ?_)
    obtain ⟨rfl, rfl⟩ := hv
    show zW n D 148 Q 37 [some (.ref 0), some (.int (zn g)), none] [.int (zWho (R, C, rk, sn, sk, cn, cd) P v g)] ph848
    refine w_store (pc' := 38) (L' := [some (.ref 0), some (.int (zn g)), some (.int (zWho (R, C, rk, sn, sk, cn, cd) P v g))]) (st' := []) (m := 1) (ykc_148 (e := (3, .istore_n kF2, 0)) rfl) rfl rfl ?_
    rw [hQ]
    exact zTail kc_148 false 2 38 9999 (fun _ => rfl) (Or.inl ⟨_, rfl⟩) (by decide +kernel) (by decide) (by decide) rfl (by decide +kernel) (fun _ => zXseers_p (E := (R, C, rk, sn, sk, cn, cd)) h_g (show R * C ≤ 64 by omega))
  · refine w_alu (pc' := 12) (st' := [.int (Int32.ofInt (-1))]) (ykc_148 (e := (0, .iconst (-1), 0)) rfl) rfl rfl ?_
    refine w_ret (v := (some (.int (Int32.ofInt (-1))))) (ykc_148 (e := (7, .ireturn, 0)) rfl) (zr_v rfl) ?_
    have b_n := of_decide_eq_false b844
    rw [hQ]
    exact zXseers_n b_n
theorem zm_seersX {ph : pm_H} {E : zEn} {P G : Nat} {v : Nat → Nat} (hS : zSh ph) (hE : zMe ph E) (hN : zMp ph P G) (hv : zNr ph 174 0 v) (hO : zOk E.1 E.2.1 P G v) {x : Int32} : zM 258 [.ref 170, .int x] ph (fun v0 _ => v0 = some (.int (zXseers E P v x))) := by
  obtain ⟨Q, hQ⟩ : ∃ Q : Option Value → pm_H → Prop, Q = (fun v0 _ => v0 = some (.int (zXseers E P v x))) := ⟨_, rfl⟩
  rw [← hQ]
  refine zM_mk fun n D => ?_
  show zW n D 258 Q 0 [some (.ref 170), some (.int x), none] [] ph
  have c_0 : (Int32.ofInt (-1)).toInt = -1 := by decide
  have c_1 : (Int32.ofInt 0).toInt = 0 := by decide
  have hA : (174 : Nat) = 174 ∨ (174 : Nat) = 175 := Or.inl rfl
  obtain ⟨R, C, rk, sn, sk, cn, cd⟩ := E
  have hL0 : zMl ph R C rk := hE.1
  have hR0 : zMr ph sn sk cn cd := hE.2.1
  have hcg : zcg cn cd := hE.2.2
  have hE0 : zMe ph (R, C, rk, sn, sk, cn, cd) := hE
  have hO0 : zOk R C P G v := hO
  have hN0 := hN
  have hL := hL0
  have hR := hR0
  obtain ⟨gR, gC, gK, hR3, hR7, hC3, hC7⟩ := hL
  have hRC := zRC49 hR7 hC7
  have tR := znt (k := R) (by omega)
  have tC := znt (k := C) (by omega)
  obtain ⟨gP, hP8, gG, hG8⟩ := hN
  have tP := znt (k := P) (by omega)
  have tG := znt (k := G) (by omega)
  obtain ⟨gsn, hs1, hs20, gsk, gcn, hc40, gcd⟩ := hR
  have tsn := znt (k := sn) (by omega)
  have tcn := znt (k := cn) (by omega)
  refine w_load (pc' := 1) (v := .ref 170) (m := 1) (ykc_258 (e := (2, .aload_n kF0, 0)) rfl) rfl rfl ?_
  refine w_alu (pc' := 2) (st' := [.int (Int32.ofInt 0), .ref 170]) (ykc_258 (e := (0, .iconst 0, 0)) rfl) rfl rfl ?_
  refine w_pf (pc' := 5) (ykc_258 (e := (5, .putfield 3, 0)) rfl) rfl rfl (fun ph852 u851 => ?_)
  have f0 : zFr [] [(170, 0)] ph ph852 := zFr_st u851 (Or.inr (by simp))
  have hS1 := zSh_st u851 (by decide +kernel) hS
  have hE1 : zMe ph852 (R, C, rk, sn, sk, cn, cd) := ⟨zMl_F f0 (by simp) (by simp) (by simp) (by simp) hE0.1, zMr_F f0 (by simp) (by simp) (by simp) (by simp) hE0.2.1, hE0.2.2⟩
  have hN1 := zMp_F f0 (by simp) (by simp) (by simp) hN0
  have hv1 := zNr_F f0 (by simp) (by simp) hv
  have hL1 : zMl ph852 R C rk := hE1.1
  have hR1 : zMr ph852 sn sk cn cd := hE1.2.1
  refine w_load (pc' := 6) (v := .ref 170) (m := 1) (ykc_258 (e := (2, .aload_n kF0, 0)) rfl) rfl rfl ?_
  refine w_load (pc' := 7) (v := .int x) (m := 1) (ykc_258 (e := (2, .iload_n kF1, 0)) rfl) rfl rfl ?_
  refine w_cv (as := [.ref 170, .int x]) (r := []) (ykc_258 (e := (6, .invokevirtual 358, 0)) rfl) rfl rfl rfl rfl (zm_isField hS1 hL1 (f := x)) (fun v853 ph854 hv => ?_)
  obtain ⟨rfl, rfl⟩ := hv
  show zW n D 258 Q 10 [some (.ref 170), some (.int x), none] [.int (zI (decide (0 ≤ x.toInt ∧ x.toInt < ((R * C : Nat) : Int))))] ph852
  refine w_bne (ykc_258 (e := (4, .ifCond .ne 5, 15)) rfl) rfl (fun b855 => ?_) (fun b855 => ?_)
  · have b_g := of_decide_eq_true b855
    obtain ⟨g, h_g, rfl⟩ : ∃ g : Nat, g < R * C ∧ x = zn g := ⟨x.toInt.toNat, by omega, zn_of (by omega)⟩
    have t_g := znt (k := g) (by omega)
    show zW n D 258 Q 15 [some (.ref 170), some (.int (zn g)), none] [] ph852
    refine w_load (pc' := 16) (v := .ref 170) (m := 1) (ykc_258 (e := (2, .aload_n kF0, 0)) rfl) rfl rfl ?_
    refine w_load (pc' := 17) (v := .ref 170) (m := 1) (ykc_258 (e := (2, .aload_n kF0, 0)) rfl) rfl rfl ?_
    refine w_gf (pc' := 20) (v := .ref 174) (ykc_258 (e := (5, .getfield 41, 0)) rfl) rfl ((u851.2.1 170 11 (fun q => absurd q.2 (by decide))).trans (zsg hS zs_170_11)) rfl ?_
    refine w_load (pc' := 21) (v := .int (zn g)) (m := 1) (ykc_258 (e := (2, .iload_n kF1, 0)) rfl) rfl rfl ?_
    refine w_cv (as := [.ref 170, .ref 174, .int (zn g)]) (r := []) (ykc_258 (e := (6, .invokevirtual 336, 0)) rfl) rfl rfl rfl rfl (zm_who hS1 hE1 hN1 (⟨hA, hv1⟩ : ((174 : Nat) = 174 ∨ (174 : Nat) = 175) ∧ zNr ph852 174 0 v).1 (⟨hA, hv1⟩ : ((174 : Nat) = 174 ∨ (174 : Nat) = 175) ∧ zNr ph852 174 0 v).2 hO0 (g := g) (show g < R * C by omega)) (fun v857 ph858 hv => ?_)
    obtain ⟨f856, rfl⟩ := hv
    show zW n D 258 Q 24 [some (.ref 170), some (.int (zn g)), none] [.int (zWho (R, C, rk, sn, sk, cn, cd) P v g)] ph858
    refine w_store (pc' := 25) (L' := [some (.ref 170), some (.int (zn g)), some (.int (zWho (R, C, rk, sn, sk, cn, cd) P v g))]) (st' := []) (m := 1) (ykc_258 (e := (3, .istore_n kF2, 0)) rfl) rfl rfl ?_
    rw [hQ]
    exact zTail kc_258 false 2 25 9999 (fun _ => rfl) (Or.inl ⟨_, rfl⟩) (by decide +kernel) (by decide) (by decide) rfl (by decide +kernel) (fun _ => zXseers_p (E := (R, C, rk, sn, sk, cn, cd)) h_g (show R * C ≤ 64 by omega))
  · refine w_alu (pc' := 14) (st' := [.int (Int32.ofInt (-1))]) (ykc_258 (e := (0, .iconst (-1), 0)) rfl) rfl rfl ?_
    refine w_ret (v := (some (.int (Int32.ofInt (-1))))) (ykc_258 (e := (7, .ireturn, 0)) rfl) (zr_v rfl) ?_
    have b_n := of_decide_eq_false b855
    rw [hQ]
    exact zXseers_n b_n
def zXbeh (E : zEn) (P : Nat) (v : Nat → Nat) (x : Int32) : Int32 := if 0 ≤ x.toInt ∧ x.toInt < (P : Int) then zWho E P v (v x.toInt.toNat) &&& (zPon P v (zVw E P v x.toInt.toNat) ^^^ Int32.ofInt (-1)) else Int32.ofInt (-1)
theorem zXbeh_n {E : zEn} {P : Nat} {v : Nat → Nat} {x : Int32} (h : ¬ (0 ≤ x.toInt ∧ x.toInt < (P : Int))) : (some (.int (Int32.ofInt (-1))) : Option Value) = some (.int (zXbeh E P v x)) := by
  unfold zXbeh
  rw [if_neg h]
theorem zXbeh_p {E : zEn} {P p : Nat} {v : Nat → Nat} (hp : p < P) (hP : P ≤ 8) : (some (.int (zWho E P v (v p) &&& (zPon P v (zVw E P v p) ^^^ Int32.ofInt (-1)))) : Option Value) = some (.int (zXbeh E P v (zn p))) := by
  have t := znt (k := p) (by omega)
  unfold zXbeh
  rw [if_pos (by omega), show (zn p).toInt.toNat = p by omega]
theorem zc_behX {ph : pm_H} {E : zEn} {F P G : Nat} {v : Nat → Nat} (hS : zSh ph) (hE : zCe ph E F) (ht : zCt ph 25 P G v) (hO : zOk E.1 E.2.1 P G v) (hr : zc ph 10 1 = some (.ref F)) (hc : zCc ph E.1 E.2.1 E.2.2.1) {x : Int32} : zM 151 [.ref 0, .int x] ph (fun v0 _ => v0 = some (.int (zXbeh E P v x))) := by
  obtain ⟨Q, hQ⟩ : ∃ Q : Option Value → pm_H → Prop, Q = (fun v0 _ => v0 = some (.int (zXbeh E P v x))) := ⟨_, rfl⟩
  rw [← hQ]
  refine zM_mk fun n D => ?_
  show zW n D 151 Q 0 [some (.ref 0), some (.int x), none, none] [] ph
  have c_0 : (Int32.ofInt (-1)).toInt = -1 := by decide
  obtain ⟨R, C, rk, sn, sk, cn, cd⟩ := E
  have hL0 : zCl ph R C rk := hE.1
  have hi0 : zCi ph sn sk := hE.2.1
  have hF : F = 11 ∨ F = 16 := hE.2.2.2
  have hE0 : zCe ph (R, C, rk, sn, sk, cn, cd) F := hE
  have hO0 : zOk R C P G v := hO
  have hL := hL0
  have hs := ht.1.2
  have hd := ht.2
  have h25 := ht.1.1
  obtain ⟨gR, gC, gN, gK, gA, hR3, hR7, hC3, hC7⟩ := hL
  have hRC := zRC49 hR7 hC7
  have tR := znt (k := R) (by omega)
  have tC := znt (k := C) (by omega)
  have tRC := znt (k := R * C) (by omega)
  have hd0 := hd
  have hs0 := hs
  obtain ⟨r3, r4, r5, r6, r7, l1, l2, l3, l4, l5⟩ := hs
  obtain ⟨gP, hP8, gG, hG8, gH, gv, gw⟩ := hd
  have tP := znt (k := P) (by omega)
  have tG := znt (k := G) (by omega)
  have h40 := hO0.2.2
  have t40 := znt (k := v 40) (by omega)
  have hc0 := hc
  refine w_load (pc' := 1) (v := .ref 0) (m := 1) (ykc_151 (e := (2, .aload_n kF0, 0)) rfl) rfl rfl ?_
  refine w_gf (pc' := 4) (v := .ref 25) (ykc_151 (e := (5, .getfield 42, 0)) rfl) rfl (zsg hS zs_0_4) rfl ?_
  refine w_load (pc' := 5) (v := .int x) (m := 1) (ykc_151 (e := (2, .iload_n kF1, 0)) rfl) rfl rfl ?_
  refine w_cv (as := [.ref 25, .int x]) (r := []) (ykc_151 (e := (6, .invokevirtual 167, 0)) rfl) rfl rfl rfl rfl (zc_hasP ht.1.2 ht.2 (i := x)) (fun v859 ph860 hv => ?_)
  obtain ⟨rfl, rfl⟩ := hv
  show zW n D 151 Q 8 [some (.ref 0), some (.int x), none, none] [.int (zI (decide (0 ≤ x.toInt ∧ x.toInt < ((P : Nat) : Int))))] ph
  refine w_bne (ykc_151 (e := (4, .ifCond .ne 5, 13)) rfl) rfl (fun b861 => ?_) (fun b861 => ?_)
  · have b_p := of_decide_eq_true b861
    obtain ⟨p, h_p, rfl⟩ : ∃ p : Nat, p < P ∧ x = zn p := ⟨x.toInt.toNat, by omega, zn_of (by omega)⟩
    have t_p := znt (k := p) (by omega)
    have op := hO0.1 p h_p
    show zW n D 151 Q 13 [some (.ref 0), some (.int (zn p)), none, none] [] ph
    refine w_load (pc' := 14) (v := .ref 0) (m := 1) (ykc_151 (e := (2, .aload_n kF0, 0)) rfl) rfl rfl ?_
    refine w_gf (pc' := 17) (v := .ref 10) (ykc_151 (e := (5, .getfield 35, 0)) rfl) rfl (zsg hS zs_0_3) rfl ?_
    refine w_load (pc' := 18) (v := .ref 0) (m := 1) (ykc_151 (e := (2, .aload_n kF0, 0)) rfl) rfl rfl ?_
    refine w_gf (pc' := 21) (v := .ref 25) (ykc_151 (e := (5, .getfield 42, 0)) rfl) rfl (zsg hS zs_0_4) rfl ?_
    refine w_cv (as := [.ref 10, .ref 25]) (r := []) (ykc_151 (e := (6, .invokevirtual 208, 0)) rfl) rfl rfl rfl rfl (zc_lookR hS hE0 ht hO0 hr hc0) (fun v864 ph865 hv => ?_)
    obtain ⟨f862, hc863, hvw, rfl⟩ := hv
    show zW n D 151 Q 24 [some (.ref 0), some (.int (zn p)), none, none] [.long (zAll (R, C, rk, sn, sk, cn, cd) P v)] ph865
    refine w_alu (pc' := 25) (st' := []) (ykc_151 (e := (0, .pop2, 0)) rfl) rfl rfl ?_
    refine w_load (pc' := 26) (v := .ref 0) (m := 1) (ykc_151 (e := (2, .aload_n kF0, 0)) rfl) rfl rfl ?_
    refine w_gf (pc' := 29) (v := .ref 10) (ykc_151 (e := (5, .getfield 35, 0)) rfl) rfl ((f862.1 0 3 (by decide) (by decide)).trans (zsg hS zs_0_3)) rfl ?_
    refine w_load (pc' := 30) (v := .ref 0) (m := 1) (ykc_151 (e := (2, .aload_n kF0, 0)) rfl) rfl rfl ?_
    refine w_gf (pc' := 33) (v := .ref 25) (ykc_151 (e := (5, .getfield 42, 0)) rfl) rfl ((f862.1 0 4 (by decide) (by decide)).trans (zsg hS zs_0_4)) rfl ?_
    refine w_load (pc' := 34) (v := .ref 0) (m := 1) (ykc_151 (e := (2, .aload_n kF0, 0)) rfl) rfl rfl ?_
    refine w_gf (pc' := 37) (v := .ref 25) (ykc_151 (e := (5, .getfield 42, 0)) rfl) rfl ((f862.1 0 4 (by decide) (by decide)).trans (zsg hS zs_0_4)) rfl ?_
    refine w_gf (pc' := 40) (v := .ref (25 + 1)) (ykc_151 (e := (5, .getfield 173, 0)) rfl) rfl ((f862.1 25 3 (by decide) (by decide)).trans r3) rfl ?_
    refine w_load (pc' := 41) (v := .int (zn p)) (m := 1) (ykc_151 (e := (2, .iload_n kF1, 0)) rfl) rfl rfl ?_
    have q866 := hO0.1 p (by omega)
    have tq866 := znt (k := v p) (by omega)
    refine w_ialk (pc' := 42) (k := p) (ykc_151 (e := (5, .iaload, 0)) rfl) ((f862.1 (25 + 1) p (by simp <;> omega) (by simp <;> omega)).trans (gv p (by omega)).1) (by omega) rfl ?_
    refine w_cv (as := [.ref 10, .ref 25, .int (zn (v p))]) (r := []) (ykc_151 (e := (6, .invokevirtual 212, 0)) rfl) rfl rfl rfl rfl (zc_seers (zCx_S f862 hS) (zCx_e f862 hE0) (zCx_t f862 ht) hO0 hvw (g := v p) (show v p < R * C by omega)) (fun v867 ph868 hv => ?_)
    obtain ⟨rfl, rfl⟩ := hv
    show zW n D 151 Q 45 [some (.ref 0), some (.int (zn p)), none, none] [.int (zWho (R, C, rk, sn, sk, cn, cd) P v (v p))] ph865
    refine w_store (pc' := 46) (L' := [some (.ref 0), some (.int (zn p)), some (.int (zWho (R, C, rk, sn, sk, cn, cd) P v (v p))), none]) (st' := []) (m := 1) (ykc_151 (e := (3, .istore_n kF2, 0)) rfl) rfl rfl ?_
    refine w_load (pc' := 47) (v := .int (zWho (R, C, rk, sn, sk, cn, cd) P v (v p))) (m := 1) (ykc_151 (e := (2, .iload_n kF2, 0)) rfl) rfl rfl ?_
    refine w_load (pc' := 48) (v := .ref 0) (m := 1) (ykc_151 (e := (2, .aload_n kF0, 0)) rfl) rfl rfl ?_
    refine w_gf (pc' := 51) (v := .ref 25) (ykc_151 (e := (5, .getfield 42, 0)) rfl) rfl ((f862.1 0 4 (by decide) (by decide)).trans (zsg hS zs_0_4)) rfl ?_
    refine w_load (pc' := 52) (v := .ref 0) (m := 1) (ykc_151 (e := (2, .aload_n kF0, 0)) rfl) rfl rfl ?_
    refine w_gf (pc' := 55) (v := .ref 10) (ykc_151 (e := (5, .getfield 35, 0)) rfl) rfl ((f862.1 0 3 (by decide) (by decide)).trans (zsg hS zs_0_3)) rfl ?_
    refine w_load (pc' := 56) (v := .int (zn p)) (m := 1) (ykc_151 (e := (2, .iload_n kF1, 0)) rfl) rfl rfl ?_
    refine w_cv (as := [.ref 10, .int (zn p)]) (r := [.ref 25, .int (zWho (R, C, rk, sn, sk, cn, cd) P v (v p))]) (ykc_151 (e := (6, .invokevirtual 328, 0)) rfl) rfl rfl rfl rfl (zc_viewAt (zCx_S f862 hS) (zCx_e f862 hE0) (zCx_t f862 ht) hO0 hvw (p := p) (by omega)) (fun v869 ph870 hv => ?_)
    obtain ⟨rfl, rfl⟩ := hv
    show zW n D 151 Q 59 [some (.ref 0), some (.int (zn p)), some (.int (zWho (R, C, rk, sn, sk, cn, cd) P v (v p))), none] [.long (zVw (R, C, rk, sn, sk, cn, cd) P v p), .ref 25, .int (zWho (R, C, rk, sn, sk, cn, cd) P v (v p))] ph865
    refine w_cv (as := [.ref 25, .long (zVw (R, C, rk, sn, sk, cn, cd) P v p)]) (r := [.int (zWho (R, C, rk, sn, sk, cn, cd) P v (v p))]) (ykc_151 (e := (6, .invokevirtual 310, 0)) rfl) rfl rfl rfl rfl (zc_pon (zCx_t f862 ht).1.2 (zCx_t f862 ht).2 (x := zVw (R, C, rk, sn, sk, cn, cd) P v p) (fun i hi => by have := (hO0.1 i hi).1; omega)) (fun v871 ph872 hv => ?_)
    obtain ⟨rfl, rfl⟩ := hv
    show zW n D 151 Q 62 [some (.ref 0), some (.int (zn p)), some (.int (zWho (R, C, rk, sn, sk, cn, cd) P v (v p))), none] [.int (zPon P v (zVw (R, C, rk, sn, sk, cn, cd) P v p)), .int (zWho (R, C, rk, sn, sk, cn, cd) P v (v p))] ph865
    refine w_alu (pc' := 63) (st' := [.int (Int32.ofInt (-1)), .int (zPon P v (zVw (R, C, rk, sn, sk, cn, cd) P v p)), .int (zWho (R, C, rk, sn, sk, cn, cd) P v (v p))]) (ykc_151 (e := (0, .iconst (-1), 0)) rfl) rfl rfl ?_
    refine w_alu (pc' := 64) (st' := [.int ((zPon P v (zVw (R, C, rk, sn, sk, cn, cd) P v p)) ^^^ (Int32.ofInt (-1))), .int (zWho (R, C, rk, sn, sk, cn, cd) P v (v p))]) (ykc_151 (e := (0, .ixor, 0)) rfl) rfl rfl ?_
    refine w_alu (pc' := 65) (st' := [.int ((zWho (R, C, rk, sn, sk, cn, cd) P v (v p)) &&& ((zPon P v (zVw (R, C, rk, sn, sk, cn, cd) P v p)) ^^^ (Int32.ofInt (-1))))]) (ykc_151 (e := (0, .iand, 0)) rfl) rfl rfl ?_
    refine w_store (pc' := 66) (L' := [some (.ref 0), some (.int (zn p)), some (.int (zWho (R, C, rk, sn, sk, cn, cd) P v (v p))), some (.int ((zWho (R, C, rk, sn, sk, cn, cd) P v (v p)) &&& ((zPon P v (zVw (R, C, rk, sn, sk, cn, cd) P v p)) ^^^ (Int32.ofInt (-1)))))]) (st' := []) (m := 1) (ykc_151 (e := (3, .istore_n kF3, 0)) rfl) rfl rfl ?_
    rw [hQ]
    exact zTail kc_151 false 3 66 9999 (fun _ => rfl) (Or.inl ⟨_, rfl⟩) (by decide +kernel) (by decide) (by decide) rfl (by decide +kernel) (fun _ => zXbeh_p h_p (by omega))
  · refine w_alu (pc' := 12) (st' := [.int (Int32.ofInt (-1))]) (ykc_151 (e := (0, .iconst (-1), 0)) rfl) rfl rfl ?_
    refine w_ret (v := (some (.int (Int32.ofInt (-1))))) (ykc_151 (e := (7, .ireturn, 0)) rfl) (zr_v rfl) ?_
    have b_n := of_decide_eq_false b861
    rw [hQ]
    exact zXbeh_n b_n
theorem zm_behX {ph : pm_H} {E : zEn} {P G : Nat} {v : Nat → Nat} (hS : zSh ph) (hE : zMe ph E) (hN : zMp ph P G) (hv : zNr ph 174 0 v) (hO : zOk E.1 E.2.1 P G v) {x : Int32} : zM 262 [.ref 170, .int x] ph (fun v0 _ => v0 = some (.int (zXbeh E P v x))) := by
  obtain ⟨Q, hQ⟩ : ∃ Q : Option Value → pm_H → Prop, Q = (fun v0 _ => v0 = some (.int (zXbeh E P v x))) := ⟨_, rfl⟩
  rw [← hQ]
  refine zM_mk fun n D => ?_
  show zW n D 262 Q 0 [some (.ref 170), some (.int x), none] [] ph
  have c_0 : (Int32.ofInt (-1)).toInt = -1 := by decide
  have c_1 : (Int32.ofInt 0).toInt = 0 := by decide
  have hA : (174 : Nat) = 174 ∨ (174 : Nat) = 175 := Or.inl rfl
  obtain ⟨R, C, rk, sn, sk, cn, cd⟩ := E
  have hL0 : zMl ph R C rk := hE.1
  have hR0 : zMr ph sn sk cn cd := hE.2.1
  have hcg : zcg cn cd := hE.2.2
  have hE0 : zMe ph (R, C, rk, sn, sk, cn, cd) := hE
  have hO0 : zOk R C P G v := hO
  have hN0 := hN
  have hL := hL0
  have hR := hR0
  obtain ⟨gR, gC, gK, hR3, hR7, hC3, hC7⟩ := hL
  have hRC := zRC49 hR7 hC7
  have tR := znt (k := R) (by omega)
  have tC := znt (k := C) (by omega)
  obtain ⟨gP, hP8, gG, hG8⟩ := hN
  have tP := znt (k := P) (by omega)
  have tG := znt (k := G) (by omega)
  obtain ⟨gsn, hs1, hs20, gsk, gcn, hc40, gcd⟩ := hR
  have tsn := znt (k := sn) (by omega)
  have tcn := znt (k := cn) (by omega)
  refine w_load (pc' := 1) (v := .ref 170) (m := 1) (ykc_262 (e := (2, .aload_n kF0, 0)) rfl) rfl rfl ?_
  refine w_alu (pc' := 2) (st' := [.int (Int32.ofInt 0), .ref 170]) (ykc_262 (e := (0, .iconst 0, 0)) rfl) rfl rfl ?_
  refine w_pf (pc' := 5) (ykc_262 (e := (5, .putfield 3, 0)) rfl) rfl rfl (fun ph874 u873 => ?_)
  have f0 : zFr [] [(170, 0)] ph ph874 := zFr_st u873 (Or.inr (by simp))
  have hS1 := zSh_st u873 (by decide +kernel) hS
  have hE1 : zMe ph874 (R, C, rk, sn, sk, cn, cd) := ⟨zMl_F f0 (by simp) (by simp) (by simp) (by simp) hE0.1, zMr_F f0 (by simp) (by simp) (by simp) (by simp) hE0.2.1, hE0.2.2⟩
  have hN1 := zMp_F f0 (by simp) (by simp) (by simp) hN0
  have hv1 := zNr_F f0 (by simp) (by simp) hv
  have hL1 : zMl ph874 R C rk := hE1.1
  have hR1 : zMr ph874 sn sk cn cd := hE1.2.1
  refine w_load (pc' := 6) (v := .ref 170) (m := 1) (ykc_262 (e := (2, .aload_n kF0, 0)) rfl) rfl rfl ?_
  refine w_load (pc' := 7) (v := .int x) (m := 1) (ykc_262 (e := (2, .iload_n kF1, 0)) rfl) rfl rfl ?_
  refine w_cv (as := [.ref 170, .int x]) (r := []) (ykc_262 (e := (6, .invokevirtual 315, 0)) rfl) rfl rfl rfl rfl (zm_isPerson hN1 (p := x)) (fun v875 ph876 hv => ?_)
  obtain ⟨rfl, rfl⟩ := hv
  show zW n D 262 Q 10 [some (.ref 170), some (.int x), none] [.int (zI (decide (0 ≤ x.toInt ∧ x.toInt < ((P : Nat) : Int))))] ph874
  refine w_bne (ykc_262 (e := (4, .ifCond .ne 5, 15)) rfl) rfl (fun b877 => ?_) (fun b877 => ?_)
  · have b_p := of_decide_eq_true b877
    obtain ⟨p, h_p, rfl⟩ : ∃ p : Nat, p < P ∧ x = zn p := ⟨x.toInt.toNat, by omega, zn_of (by omega)⟩
    have t_p := znt (k := p) (by omega)
    have op := hO0.1 p h_p
    show zW n D 262 Q 15 [some (.ref 170), some (.int (zn p)), none] [] ph874
    refine w_load (pc' := 16) (v := .ref 170) (m := 1) (ykc_262 (e := (2, .aload_n kF0, 0)) rfl) rfl rfl ?_
    refine w_load (pc' := 17) (v := .ref 170) (m := 1) (ykc_262 (e := (2, .aload_n kF0, 0)) rfl) rfl rfl ?_
    refine w_gf (pc' := 20) (v := .ref 174) (ykc_262 (e := (5, .getfield 41, 0)) rfl) rfl ((u873.2.1 170 11 (fun q => absurd q.2 (by decide))).trans (zsg hS zs_170_11)) rfl ?_
    refine w_load (pc' := 21) (v := .ref 170) (m := 1) (ykc_262 (e := (2, .aload_n kF0, 0)) rfl) rfl rfl ?_
    refine w_gf (pc' := 24) (v := .ref 174) (ykc_262 (e := (5, .getfield 41, 0)) rfl) rfl ((u873.2.1 170 11 (fun q => absurd q.2 (by decide))).trans (zsg hS zs_170_11)) rfl ?_
    refine w_load (pc' := 25) (v := .int (zn p)) (m := 1) (ykc_262 (e := (2, .iload_n kF1, 0)) rfl) rfl rfl ?_
    have q878 := hO0.1 p (by omega)
    have tq878 := znt (k := v p) (by omega)
    refine w_ialk (pc' := 26) (k := p) (ykc_262 (e := (5, .iaload, 0)) rfl) ((u873.2.1 174 p (fun q => absurd q.1 (by decide))).trans (zNr0 hv (i := p) (by omega))) (by omega) rfl ?_
    refine w_cv (as := [.ref 170, .ref 174, .int (zn (v p))]) (r := []) (ykc_262 (e := (6, .invokevirtual 336, 0)) rfl) rfl rfl rfl rfl (zm_who hS1 hE1 hN1 (⟨hA, hv1⟩ : ((174 : Nat) = 174 ∨ (174 : Nat) = 175) ∧ zNr ph874 174 0 v).1 (⟨hA, hv1⟩ : ((174 : Nat) = 174 ∨ (174 : Nat) = 175) ∧ zNr ph874 174 0 v).2 hO0 (g := v p) (show v p < R * C by omega)) (fun v880 ph881 hv => ?_)
    obtain ⟨f879, rfl⟩ := hv
    show zW n D 262 Q 29 [some (.ref 170), some (.int (zn p)), none] [.int (zWho (R, C, rk, sn, sk, cn, cd) P v (v p))] ph881
    refine w_load (pc' := 30) (v := .ref 170) (m := 1) (ykc_262 (e := (2, .aload_n kF0, 0)) rfl) rfl rfl ?_
    refine w_load (pc' := 31) (v := .ref 170) (m := 1) (ykc_262 (e := (2, .aload_n kF0, 0)) rfl) rfl rfl ?_
    refine w_gf (pc' := 34) (v := .ref 174) (ykc_262 (e := (5, .getfield 41, 0)) rfl) rfl ((f879.1 170 11 (by decide) (by decide)).trans ((u873.2.1 170 11 (fun q => absurd q.2 (by decide))).trans (zsg hS zs_170_11))) rfl ?_
    refine w_load (pc' := 35) (v := .ref 170) (m := 1) (ykc_262 (e := (2, .aload_n kF0, 0)) rfl) rfl rfl ?_
    refine w_load (pc' := 36) (v := .ref 170) (m := 1) (ykc_262 (e := (2, .aload_n kF0, 0)) rfl) rfl rfl ?_
    refine w_gf (pc' := 39) (v := .ref 174) (ykc_262 (e := (5, .getfield 41, 0)) rfl) rfl ((f879.1 170 11 (by decide) (by decide)).trans ((u873.2.1 170 11 (fun q => absurd q.2 (by decide))).trans (zsg hS zs_170_11))) rfl ?_
    refine w_load (pc' := 40) (v := .int (zn p)) (m := 1) (ykc_262 (e := (2, .iload_n kF1, 0)) rfl) rfl rfl ?_
    refine w_cv (as := [.ref 170, .ref 174, .int (zn p)]) (r := [.ref 174, .ref 170, .int (zWho (R, C, rk, sn, sk, cn, cd) P v (v p))]) (ykc_262 (e := (6, .invokevirtual 300, 0)) rfl) rfl rfl rfl rfl (zm_seen (zSc_S f879 hS1) (zSc_e f879 hE1) (zSc_p f879 hN1) (zSc_a f879 (⟨hA, hv1⟩ : ((174 : Nat) = 174 ∨ (174 : Nat) = 175) ∧ zNr ph874 174 0 v)).1 (zSc_a f879 (⟨hA, hv1⟩ : ((174 : Nat) = 174 ∨ (174 : Nat) = 175) ∧ zNr ph874 174 0 v)).2 hO0 (p := p) (by omega)) (fun v883 ph884 hv => ?_)
    obtain ⟨f882, rfl⟩ := hv
    show zW n D 262 Q 43 [some (.ref 170), some (.int (zn p)), none] [.long (zVw (R, C, rk, sn, sk, cn, cd) P v p), .ref 174, .ref 170, .int (zWho (R, C, rk, sn, sk, cn, cd) P v (v p))] ph884
    refine w_cv (as := [.ref 170, .ref 174, .long (zVw (R, C, rk, sn, sk, cn, cd) P v p)]) (r := [.int (zWho (R, C, rk, sn, sk, cn, cd) P v (v p))]) (ykc_262 (e := (6, .invokevirtual 410, 0)) rfl) rfl rfl rfl rfl (zm_pon (zSc_S (zFr_trans f879 f882) hS1) (zSc_e (zFr_trans f879 f882) hE1) (zSc_p (zFr_trans f879 f882) hN1) (zSc_a (zFr_trans f879 f882) (⟨hA, hv1⟩ : ((174 : Nat) = 174 ∨ (174 : Nat) = 175) ∧ zNr ph874 174 0 v)).1 (zSc_a (zFr_trans f879 f882) (⟨hA, hv1⟩ : ((174 : Nat) = 174 ∨ (174 : Nat) = 175) ∧ zNr ph874 174 0 v)).2 hO0 (x := zVw (R, C, rk, sn, sk, cn, cd) P v p)) (fun v885 ph886 hv => ?_)
    obtain ⟨rfl, rfl⟩ := hv
    show zW n D 262 Q 46 [some (.ref 170), some (.int (zn p)), none] [.int (zPon P v (zVw (R, C, rk, sn, sk, cn, cd) P v p)), .int (zWho (R, C, rk, sn, sk, cn, cd) P v (v p))] ph884
    refine w_alu (pc' := 47) (st' := [.int (Int32.ofInt (-1)), .int (zPon P v (zVw (R, C, rk, sn, sk, cn, cd) P v p)), .int (zWho (R, C, rk, sn, sk, cn, cd) P v (v p))]) (ykc_262 (e := (0, .iconst (-1), 0)) rfl) rfl rfl ?_
    refine w_alu (pc' := 48) (st' := [.int ((zPon P v (zVw (R, C, rk, sn, sk, cn, cd) P v p)) ^^^ (Int32.ofInt (-1))), .int (zWho (R, C, rk, sn, sk, cn, cd) P v (v p))]) (ykc_262 (e := (0, .ixor, 0)) rfl) rfl rfl ?_
    refine w_alu (pc' := 49) (st' := [.int ((zWho (R, C, rk, sn, sk, cn, cd) P v (v p)) &&& ((zPon P v (zVw (R, C, rk, sn, sk, cn, cd) P v p)) ^^^ (Int32.ofInt (-1))))]) (ykc_262 (e := (0, .iand, 0)) rfl) rfl rfl ?_
    refine w_store (pc' := 50) (L' := [some (.ref 170), some (.int (zn p)), some (.int ((zWho (R, C, rk, sn, sk, cn, cd) P v (v p)) &&& ((zPon P v (zVw (R, C, rk, sn, sk, cn, cd) P v p)) ^^^ (Int32.ofInt (-1)))))]) (st' := []) (m := 1) (ykc_262 (e := (3, .istore_n kF2, 0)) rfl) rfl rfl ?_
    rw [hQ]
    exact zTail kc_262 false 2 50 9999 (fun _ => rfl) (Or.inl ⟨_, rfl⟩) (by decide +kernel) (by decide) (by decide) rfl (by decide +kernel) (fun _ => zXbeh_p h_p (by omega))
  · refine w_alu (pc' := 14) (st' := [.int (Int32.ofInt (-1))]) (ykc_262 (e := (0, .iconst (-1), 0)) rfl) rfl rfl ?_
    refine w_ret (v := (some (.int (Int32.ofInt (-1))))) (ykc_262 (e := (7, .ireturn, 0)) rfl) (zr_v rfl) ?_
    have b_n := of_decide_eq_false b877
    rw [hQ]
    exact zXbeh_n b_n
def zXi (M : Nat → Nat → Bool) (c i : Nat) : Nat → Nat
  | 0 => c
  | d + 1 => zXi M c i d + bif M i (i + 1 + d) then 1 else 0
def zXo (M : Nat → Nat → Bool) (P : Nat) : Nat → Nat
  | 0 => 0
  | i + 1 => zXi M (zXo M P i) i (P - (i + 1))
theorem zXi_le {M : Nat → Nat → Bool} {c i d : Nat} : zXi M c i d ≤ c + d := by
  induction d with
  | zero => exact Nat.le_refl _
  | succ d ih =>
    show zXi M c i d + (bif M i (i + 1 + d) then 1 else 0) ≤ c + (d + 1)
    cases M i (i + 1 + d) with
    | false => rw [cond_false]; omega
    | true => rw [cond_true]; omega
theorem zXo_le {M : Nat → Nat → Bool} {P i : Nat} (hP : P ≤ 8) : zXo M P i ≤ i * 8 := by
  induction i with
  | zero => exact Nat.le_refl _
  | succ i ih =>
    have h := @zXi_le M (zXo M P i) i (P - (i + 1))
    show zXi M (zXo M P i) i (P - (i + 1)) ≤ _
    omega
theorem zc_pairs {ph : pm_H} {E : zEn} {F P G : Nat} {v : Nat → Nat} (hS : zSh ph) (hE : zCe ph E F) (ht : zCt ph 25 P G v) (hO : zOk E.1 E.2.1 P G v) (hr : zc ph 10 1 = some (.ref F)) (hc : zCc ph E.1 E.2.1 E.2.2.1) : zM 150 [.ref 0] ph (fun v0 _ => v0 = some (.int (zn (zXo (zMeet E P v) P P)))) := by
  obtain ⟨Q, hQ⟩ : ∃ Q : Option Value → pm_H → Prop, Q = (fun v0 _ => v0 = some (.int (zn (zXo (zMeet E P v) P P)))) := ⟨_, rfl⟩
  rw [← hQ]
  refine zM_mk fun n D => ?_
  show zW n D 150 Q 0 [some (.ref 0), none, none, none, none, none, none] [] ph
  have c_0 : (Int32.ofInt (-1)).toInt = -1 := by decide
  have c_1 : (Int32.ofInt 0).toInt = 0 := by decide
  have c_2 : (Int32.ofInt 1).toInt = 1 := by decide
  obtain ⟨R, C, rk, sn, sk, cn, cd⟩ := E
  have hL0 : zCl ph R C rk := hE.1
  have hi0 : zCi ph sn sk := hE.2.1
  have hF : F = 11 ∨ F = 16 := hE.2.2.2
  have hE0 : zCe ph (R, C, rk, sn, sk, cn, cd) F := hE
  have hO0 : zOk R C P G v := hO
  have hL := hL0
  have hs := ht.1.2
  have hd := ht.2
  have h25 := ht.1.1
  obtain ⟨gR, gC, gN, gK, gA, hR3, hR7, hC3, hC7⟩ := hL
  have hRC := zRC49 hR7 hC7
  have tR := znt (k := R) (by omega)
  have tC := znt (k := C) (by omega)
  have tRC := znt (k := R * C) (by omega)
  have hd0 := hd
  have hs0 := hs
  obtain ⟨r3, r4, r5, r6, r7, l1, l2, l3, l4, l5⟩ := hs
  obtain ⟨gP, hP8, gG, hG8, gH, gv, gw⟩ := hd
  have tP := znt (k := P) (by omega)
  have tG := znt (k := G) (by omega)
  have h40 := hO0.2.2
  have t40 := znt (k := v 40) (by omega)
  have hc0 := hc
  refine w_load (pc' := 1) (v := .ref 0) (m := 1) (ykc_150 (e := (2, .aload_n kF0, 0)) rfl) rfl rfl ?_
  refine w_gf (pc' := 4) (v := .ref 10) (ykc_150 (e := (5, .getfield 35, 0)) rfl) rfl (zsg hS zs_0_3) rfl ?_
  refine w_load (pc' := 5) (v := .ref 0) (m := 1) (ykc_150 (e := (2, .aload_n kF0, 0)) rfl) rfl rfl ?_
  refine w_gf (pc' := 8) (v := .ref 25) (ykc_150 (e := (5, .getfield 42, 0)) rfl) rfl (zsg hS zs_0_4) rfl ?_
  refine w_cv (as := [.ref 10, .ref 25]) (r := []) (ykc_150 (e := (6, .invokevirtual 208, 0)) rfl) rfl rfl rfl rfl (zc_lookR hS hE0 ht hO0 hr hc0) (fun v889 ph890 hv => ?_)
  obtain ⟨f887, hc888, hvw, rfl⟩ := hv
  show zW n D 150 Q 11 [some (.ref 0), none, none, none, none, none, none] [.long (zAll (R, C, rk, sn, sk, cn, cd) P v)] ph890
  refine w_alu (pc' := 12) (st' := []) (ykc_150 (e := (0, .pop2, 0)) rfl) rfl rfl ?_
  refine w_alu (pc' := 13) (st' := [.int (Int32.ofInt 0)]) (ykc_150 (e := (0, .iconst 0, 0)) rfl) rfl rfl ?_
  refine w_store (pc' := 14) (L' := [some (.ref 0), some (.int (Int32.ofInt 0)), none, none, none, none, none]) (st' := []) (m := 1) (ykc_150 (e := (3, .istore_n kF1, 0)) rfl) rfl rfl ?_
  refine w_alu (pc' := 15) (st' := [.int (Int32.ofInt 0)]) (ykc_150 (e := (0, .iconst 0, 0)) rfl) rfl rfl ?_
  refine w_store (pc' := 16) (L' := [some (.ref 0), some (.int (Int32.ofInt 0)), some (.int (Int32.ofInt 0)), none, none, none, none]) (st' := []) (m := 1) (ykc_150 (e := (3, .istore_n kF2, 0)) rfl) rfl rfl ?_
  refine w_alu (pc' := 17) (st' := [.int (Int32.ofInt (-1))]) (ykc_150 (e := (0, .iconst (-1), 0)) rfl) rfl rfl ?_
  refine w_store (pc' := 18) (L' := [some (.ref 0), some (.int (Int32.ofInt 0)), some (.int (Int32.ofInt 0)), some (.int (Int32.ofInt (-1))), none, none, none]) (st' := []) (m := 1) (ykc_150 (e := (3, .istore_n kF3, 0)) rfl) rfl rfl ?_
  refine w_alu (pc' := 19) (st' := [.int (Int32.ofInt (-1))]) (ykc_150 (e := (0, .iconst (-1), 0)) rfl) rfl rfl ?_
  refine w_store (pc' := 21) (L' := [some (.ref 0), some (.int (Int32.ofInt 0)), some (.int (Int32.ofInt 0)), some (.int (Int32.ofInt (-1))), some (.int (Int32.ofInt (-1))), none, none]) (st' := []) (m := 2) (ykc_150 (e := (3, .istore 4, 0)) rfl) rfl rfl ?_
  refine w_alu (pc' := 22) (st' := [.int (Int32.ofInt 0)]) (ykc_150 (e := (0, .iconst 0, 0)) rfl) rfl rfl ?_
  refine w_store (pc' := 24) (L' := [some (.ref 0), some (.int (Int32.ofInt 0)), some (.int (Int32.ofInt 0)), some (.int (Int32.ofInt (-1))), some (.int (Int32.ofInt (-1))), some (.int (Int32.ofInt 0)), none]) (st' := []) (m := 2) (ykc_150 (e := (3, .istore 5, 0)) rfl) rfl rfl ?_
  have hl : ∀ (n : Nat), ∀ (i : Nat) (a b c : Int32) (o6 : Option Value), (i ≤ P) → zW n D 150 Q 24 [some (.ref 0), some (.int (zn (zXo (zMeet (R, C, rk, sn, sk, cn, cd) P v) P i))), some (.int a), some (.int b), some (.int c), some (.int (zn i)), o6] [] ph890 := by
    intro n
    induction n using Nat.strongRecOn with
    | ind n ih =>
      intro i a b c o6 hi
      have ti := znt (k := i) (by omega)
      have mo := @zXo_le (zMeet (R, C, rk, sn, sk, cn, cd) P v) P i (by omega)
      have tm := znt (k := zXo (zMeet (R, C, rk, sn, sk, cn, cd) P v) P i) (by omega)
      refine w_load (pc' := 26) (v := .int (zn i)) (m := 2) (ykc_150 (e := (2, .iload 5, 0)) rfl) rfl rfl ?_
      refine w_load (pc' := 27) (v := .ref 0) (m := 1) (ykc_150 (e := (2, .aload_n kF0, 0)) rfl) rfl rfl ?_
      refine w_gf (pc' := 30) (v := .ref 25) (ykc_150 (e := (5, .getfield 42, 0)) rfl) rfl ((f887.1 0 4 (by decide) (by decide)).trans (zsg hS zs_0_4)) rfl ?_
      refine w_gf (pc' := 33) (v := .int (zn P)) (ykc_150 (e := (5, .getfield 130, 0)) rfl) rfl ((f887.1 25 0 (by decide) (by decide)).trans gP) rfl ?_
      refine w_ige (ykc_150 (e := (4, .if_icmp .ge 94, 127)) rfl) rfl (fun b891 => ?_) (fun b891 => ?_)
      · rw [hQ]
        exact zTail kc_150 false 1 127 9999 (fun _ => rfl) (Or.inl ⟨_, rfl⟩) (by decide +kernel) (by decide) (by decide) rfl (by decide +kernel) (fun _ => (by rw [show P = i by omega]))
      · refine w_load (pc' := 38) (v := .int (zn i)) (m := 2) (ykc_150 (e := (2, .iload 5, 0)) rfl) rfl rfl ?_
        refine w_alu (pc' := 39) (st' := [.int (Int32.ofInt 1), .int (zn i)]) (ykc_150 (e := (0, .iconst 1, 0)) rfl) rfl rfl ?_
        have e892 : (zn i) + (Int32.ofInt 1) = zn (i + 1) := (zaddN (a := i) (b := 1) (znt (by omega)) c_2 (by omega)) 
        have te892 := znt (k := i + 1) (by omega)
        refine w_alu (pc' := 40) (st' := [.int (zn (i + 1))]) (ykc_150 (e := (0, .iadd, 0)) rfl) (by rw [← e892]; rfl) rfl ?_
        refine w_store (pc' := 42) (L' := [some (.ref 0), some (.int (zn (zXo (zMeet (R, C, rk, sn, sk, cn, cd) P v) P i))), some (.int a), some (.int b), some (.int c), some (.int (zn i)), some (.int (zn (i + 1)))]) (st' := []) (m := 2) (ykc_150 (e := (3, .istore 6, 0)) rfl) rfl rfl ?_
        have iho := ih
        have hj : ∀ (n2 : Nat), n2 ≤ n → ∀ (d : Nat) (a b c : Int32), (d ≤ P - (i + 1)) → zW n2 D 150 Q 42 [some (.ref 0), some (.int (zn (zXi (zMeet (R, C, rk, sn, sk, cn, cd) P v) (zXo (zMeet (R, C, rk, sn, sk, cn, cd) P v) P i) i d))), some (.int a), some (.int b), some (.int c), some (.int (zn i)), some (.int (zn (i + 1 + d)))] [] ph890 := by
          intro n2
          induction n2 using Nat.strongRecOn with
          | ind n2 ih =>
            intro hlim d a b c hd
            have td := znt (k := i + 1 + d) (by omega)
            have mi := @zXi_le (zMeet (R, C, rk, sn, sk, cn, cd) P v) (zXo (zMeet (R, C, rk, sn, sk, cn, cd) P v) P i) i d
            have tm2 := znt (k := zXi (zMeet (R, C, rk, sn, sk, cn, cd) P v) (zXo (zMeet (R, C, rk, sn, sk, cn, cd) P v) P i) i d) (by omega)
            refine w_load (pc' := 44) (v := .int (zn (i + 1 + d))) (m := 2) (ykc_150 (e := (2, .iload 6, 0)) rfl) rfl rfl ?_
            refine w_load (pc' := 45) (v := .ref 0) (m := 1) (ykc_150 (e := (2, .aload_n kF0, 0)) rfl) rfl rfl ?_
            refine w_gf (pc' := 48) (v := .ref 25) (ykc_150 (e := (5, .getfield 42, 0)) rfl) rfl ((f887.1 0 4 (by decide) (by decide)).trans (zsg hS zs_0_4)) rfl ?_
            refine w_gf (pc' := 51) (v := .int (zn P)) (ykc_150 (e := (5, .getfield 130, 0)) rfl) rfl ((f887.1 25 0 (by decide) (by decide)).trans gP) rfl ?_
            refine w_ige (ykc_150 (e := (4, .if_icmp .ge 70, 121)) rfl) rfl (fun b893 => ?_) (fun b893 => ?_)
            · have e894 : (zn i) + Int32.ofInt 1 = zn (i + 1) := (zaddN (a := i) (b := 1) (znt (by omega)) c_2 (by omega))
              have te894 := znt (k := i + 1) (by omega)
              refine w_store (pc' := 124) (L' := [some (.ref 0), some (.int (zn (zXi (zMeet (R, C, rk, sn, sk, cn, cd) P v) (zXo (zMeet (R, C, rk, sn, sk, cn, cd) P v) P i) i d))), some (.int a), some (.int b), some (.int c), some (.int (zn (i + 1))), some (.int (zn (i + 1 + d)))]) (st' := []) (m := 3) (ykc_150 (e := (3, .iinc 5 1, 0)) rfl) (by rw [← e894]; rfl) rfl ?_
              refine w_gb (ykc_150 (e := (4, .goto (-100), 24)) rfl) (fun k895 hk895 => ?_)
              have ed : d = P - (i + 1) := by omega
              subst ed
              exact iho k895 (by omega) (i + 1) a b c _ (by omega)
            · refine w_load (pc' := 55) (v := .ref 0) (m := 1) (ykc_150 (e := (2, .aload_n kF0, 0)) rfl) rfl rfl ?_
              refine w_gf (pc' := 58) (v := .ref 10) (ykc_150 (e := (5, .getfield 35, 0)) rfl) rfl ((f887.1 0 3 (by decide) (by decide)).trans (zsg hS zs_0_3)) rfl ?_
              refine w_load (pc' := 59) (v := .ref 0) (m := 1) (ykc_150 (e := (2, .aload_n kF0, 0)) rfl) rfl rfl ?_
              refine w_gf (pc' := 62) (v := .ref 25) (ykc_150 (e := (5, .getfield 42, 0)) rfl) rfl ((f887.1 0 4 (by decide) (by decide)).trans (zsg hS zs_0_4)) rfl ?_
              refine w_load (pc' := 64) (v := .int (zn i)) (m := 2) (ykc_150 (e := (2, .iload 5, 0)) rfl) rfl rfl ?_
              refine w_load (pc' := 66) (v := .int (zn (i + 1 + d))) (m := 2) (ykc_150 (e := (2, .iload 6, 0)) rfl) rfl rfl ?_
              refine w_cv (as := [.ref 10, .ref 25, .int (zn i), .int (zn (i + 1 + d))]) (r := []) (ykc_150 (e := (6, .invokevirtual 321, 0)) rfl) rfl rfl rfl rfl (zc_meet (zCx_S f887 hS) (zCx_e f887 hE0) (zCx_t f887 ht) hO0 hvw (a := i) (b := i + 1 + d) (by omega) (by omega)) (fun v896 ph897 hv => ?_)
              obtain ⟨rfl, rfl⟩ := hv
              show zW n2 D 150 Q 69 [some (.ref 0), some (.int (zn (zXi (zMeet (R, C, rk, sn, sk, cn, cd) P v) (zXo (zMeet (R, C, rk, sn, sk, cn, cd) P v) P i) i d))), some (.int a), some (.int b), some (.int c), some (.int (zn i)), some (.int (zn (i + 1 + d)))] [.int (zI (zMeet (R, C, rk, sn, sk, cn, cd) P v i (i + 1 + d)))] ph890
              refine w_bne (ykc_150 (e := (4, .ifCond .ne 6, 75)) rfl) rfl (fun b898 => ?_) (fun b898 => ?_)
              · refine w_load (pc' := 76) (v := .int (zn (zXi (zMeet (R, C, rk, sn, sk, cn, cd) P v) (zXo (zMeet (R, C, rk, sn, sk, cn, cd) P v) P i) i d))) (m := 1) (ykc_150 (e := (2, .iload_n kF1, 0)) rfl) rfl rfl ?_
                refine w_zne (ykc_150 (e := (4, .ifCond .ne 10, 86)) rfl) rfl (fun b899 => ?_) (fun b899 => ?_)
                · have e900 : (zn (zXi (zMeet (R, C, rk, sn, sk, cn, cd) P v) (zXo (zMeet (R, C, rk, sn, sk, cn, cd) P v) P i) i d)) + Int32.ofInt 1 = zn (zXi (zMeet (R, C, rk, sn, sk, cn, cd) P v) (zXo (zMeet (R, C, rk, sn, sk, cn, cd) P v) P i) i d + 1) := (zaddN (a := zXi (zMeet (R, C, rk, sn, sk, cn, cd) P v) (zXo (zMeet (R, C, rk, sn, sk, cn, cd) P v) P i) i d) (b := 1) (znt (by omega)) c_2 (by omega))
                  have te900 := znt (k := zXi (zMeet (R, C, rk, sn, sk, cn, cd) P v) (zXo (zMeet (R, C, rk, sn, sk, cn, cd) P v) P i) i d + 1) (by omega)
                  refine w_store (pc' := 89) (L' := [some (.ref 0), some (.int (zn (zXi (zMeet (R, C, rk, sn, sk, cn, cd) P v) (zXo (zMeet (R, C, rk, sn, sk, cn, cd) P v) P i) i d + 1))), some (.int a), some (.int b), some (.int c), some (.int (zn i)), some (.int (zn (i + 1 + d)))]) (st' := []) (m := 3) (ykc_150 (e := (3, .iinc 1 1, 0)) rfl) (by rw [← e900]; rfl) rfl ?_
                  refine w_load (pc' := 90) (v := .int a) (m := 1) (ykc_150 (e := (2, .iload_n kF2, 0)) rfl) rfl rfl ?_
                  refine w_load (pc' := 91) (v := .ref 0) (m := 1) (ykc_150 (e := (2, .aload_n kF0, 0)) rfl) rfl rfl ?_
                  refine w_gf (pc' := 94) (v := .ref 10) (ykc_150 (e := (5, .getfield 35, 0)) rfl) rfl ((f887.1 0 3 (by decide) (by decide)).trans (zsg hS zs_0_3)) rfl ?_
                  refine w_load (pc' := 95) (v := .ref 0) (m := 1) (ykc_150 (e := (2, .aload_n kF0, 0)) rfl) rfl rfl ?_
                  refine w_gf (pc' := 98) (v := .ref 25) (ykc_150 (e := (5, .getfield 42, 0)) rfl) rfl ((f887.1 0 4 (by decide) (by decide)).trans (zsg hS zs_0_4)) rfl ?_
                  refine w_load (pc' := 100) (v := .int (zn i)) (m := 2) (ykc_150 (e := (2, .iload 5, 0)) rfl) rfl rfl ?_
                  refine w_load (pc' := 102) (v := .int (zn (i + 1 + d))) (m := 2) (ykc_150 (e := (2, .iload 6, 0)) rfl) rfl rfl ?_
                  refine w_cv (as := [.ref 10, .ref 25, .int (zn i), .int (zn (i + 1 + d))]) (r := [.int a]) (ykc_150 (e := (6, .invokevirtual 325, 0)) rfl) rfl rfl rfl rfl (zc_tell (zCx_S f887 hS) (zCx_e f887 hE0) (zCx_t f887 ht) hO0 hvw (a := i) (b := i + 1 + d) (by omega) (by omega)) (fun v901 ph902 hv => ?_)
                  obtain ⟨rfl, rfl⟩ := hv
                  show zW n2 D 150 Q 105 [some (.ref 0), some (.int (zn (zXi (zMeet (R, C, rk, sn, sk, cn, cd) P v) (zXo (zMeet (R, C, rk, sn, sk, cn, cd) P v) P i) i d + 1))), some (.int a), some (.int b), some (.int c), some (.int (zn i)), some (.int (zn (i + 1 + d)))] [.int (zI (zTell (R, C, rk, sn, sk, cn, cd) P v i (i + 1 + d))), .int a] ph890
                  refine w_beq (ykc_150 (e := (4, .ifCond .eq 7, 112)) rfl) rfl (fun b903 => ?_) (fun b903 => ?_)
                  · refine w_alu (pc' := 113) (st' := [.int (Int32.ofInt 0), .int a]) (ykc_150 (e := (0, .iconst 0, 0)) rfl) rfl rfl ?_
                    refine w_alu (pc' := 114) (st' := [.int (a + (Int32.ofInt 0))]) (ykc_150 (e := (0, .iadd, 0)) rfl) rfl rfl ?_
                    refine w_store (pc' := 115) (L' := [some (.ref 0), some (.int (zn (zXi (zMeet (R, C, rk, sn, sk, cn, cd) P v) (zXo (zMeet (R, C, rk, sn, sk, cn, cd) P v) P i) i d + 1))), some (.int (a + (Int32.ofInt 0))), some (.int b), some (.int c), some (.int (zn i)), some (.int (zn (i + 1 + d)))]) (st' := []) (m := 1) (ykc_150 (e := (3, .istore_n kF2, 0)) rfl) rfl rfl ?_
                    have e904 : (zn (i + 1 + d)) + Int32.ofInt 1 = zn (i + 1 + d + 1) := (zaddN (a := i + 1 + d) (b := 1) (znt (by omega)) c_2 (by omega))
                    have te904 := znt (k := i + 1 + d + 1) (by omega)
                    refine w_store (pc' := 118) (L' := [some (.ref 0), some (.int (zn (zXi (zMeet (R, C, rk, sn, sk, cn, cd) P v) (zXo (zMeet (R, C, rk, sn, sk, cn, cd) P v) P i) i d + 1))), some (.int (a + (Int32.ofInt 0))), some (.int b), some (.int c), some (.int (zn i)), some (.int (zn (i + 1 + d + 1)))]) (st' := []) (m := 3) (ykc_150 (e := (3, .iinc 6 1, 0)) rfl) (by rw [← e904]; rfl) rfl ?_
                    refine w_gb (ykc_150 (e := (4, .goto (-76), 42)) rfl) (fun k905 hk905 => ?_)
                    have et : zXi (zMeet (R, C, rk, sn, sk, cn, cd) P v) (zXo (zMeet (R, C, rk, sn, sk, cn, cd) P v) P i) i (d + 1) = zXi (zMeet (R, C, rk, sn, sk, cn, cd) P v) (zXo (zMeet (R, C, rk, sn, sk, cn, cd) P v) P i) i d + 1 := by
                      show zXi (zMeet (R, C, rk, sn, sk, cn, cd) P v) (zXo (zMeet (R, C, rk, sn, sk, cn, cd) P v) P i) i d + (bif zMeet (R, C, rk, sn, sk, cn, cd) P v i (i + 1 + d) then 1 else 0) = _
                      rw [b898]
                      rfl
                    have h9 := ih k905 hk905 (by omega) (d + 1) (a + (Int32.ofInt 0)) b c (by omega)
                    rw [et] at h9
                    exact h9
                  · refine w_alu (pc' := 109) (st' := [.int (Int32.ofInt 1), .int a]) (ykc_150 (e := (0, .iconst 1, 0)) rfl) rfl rfl ?_
                    refine w_br (pc' := 113) (st' := [.int (Int32.ofInt 1), .int a]) (ykc_150 (e := (4, .goto 4, 113)) rfl) rfl ?_
                    refine w_alu (pc' := 114) (st' := [.int (a + (Int32.ofInt 1))]) (ykc_150 (e := (0, .iadd, 0)) rfl) rfl rfl ?_
                    refine w_store (pc' := 115) (L' := [some (.ref 0), some (.int (zn (zXi (zMeet (R, C, rk, sn, sk, cn, cd) P v) (zXo (zMeet (R, C, rk, sn, sk, cn, cd) P v) P i) i d + 1))), some (.int (a + (Int32.ofInt 1))), some (.int b), some (.int c), some (.int (zn i)), some (.int (zn (i + 1 + d)))]) (st' := []) (m := 1) (ykc_150 (e := (3, .istore_n kF2, 0)) rfl) rfl rfl ?_
                    have e906 : (zn (i + 1 + d)) + Int32.ofInt 1 = zn (i + 1 + d + 1) := (zaddN (a := i + 1 + d) (b := 1) (znt (by omega)) c_2 (by omega))
                    have te906 := znt (k := i + 1 + d + 1) (by omega)
                    refine w_store (pc' := 118) (L' := [some (.ref 0), some (.int (zn (zXi (zMeet (R, C, rk, sn, sk, cn, cd) P v) (zXo (zMeet (R, C, rk, sn, sk, cn, cd) P v) P i) i d + 1))), some (.int (a + (Int32.ofInt 1))), some (.int b), some (.int c), some (.int (zn i)), some (.int (zn (i + 1 + d + 1)))]) (st' := []) (m := 3) (ykc_150 (e := (3, .iinc 6 1, 0)) rfl) (by rw [← e906]; rfl) rfl ?_
                    refine w_gb (ykc_150 (e := (4, .goto (-76), 42)) rfl) (fun k907 hk907 => ?_)
                    have et : zXi (zMeet (R, C, rk, sn, sk, cn, cd) P v) (zXo (zMeet (R, C, rk, sn, sk, cn, cd) P v) P i) i (d + 1) = zXi (zMeet (R, C, rk, sn, sk, cn, cd) P v) (zXo (zMeet (R, C, rk, sn, sk, cn, cd) P v) P i) i d + 1 := by
                      show zXi (zMeet (R, C, rk, sn, sk, cn, cd) P v) (zXo (zMeet (R, C, rk, sn, sk, cn, cd) P v) P i) i d + (bif zMeet (R, C, rk, sn, sk, cn, cd) P v i (i + 1 + d) then 1 else 0) = _
                      rw [b898]
                      rfl
                    have h9 := ih k907 hk907 (by omega) (d + 1) (a + (Int32.ofInt 1)) b c (by omega)
                    rw [et] at h9
                    exact h9
                · refine w_load (pc' := 81) (v := .int (zn i)) (m := 2) (ykc_150 (e := (2, .iload 5, 0)) rfl) rfl rfl ?_
                  refine w_store (pc' := 82) (L' := [some (.ref 0), some (.int (zn (zXi (zMeet (R, C, rk, sn, sk, cn, cd) P v) (zXo (zMeet (R, C, rk, sn, sk, cn, cd) P v) P i) i d))), some (.int a), some (.int (zn i)), some (.int c), some (.int (zn i)), some (.int (zn (i + 1 + d)))]) (st' := []) (m := 1) (ykc_150 (e := (3, .istore_n kF3, 0)) rfl) rfl rfl ?_
                  refine w_load (pc' := 84) (v := .int (zn (i + 1 + d))) (m := 2) (ykc_150 (e := (2, .iload 6, 0)) rfl) rfl rfl ?_
                  refine w_store (pc' := 86) (L' := [some (.ref 0), some (.int (zn (zXi (zMeet (R, C, rk, sn, sk, cn, cd) P v) (zXo (zMeet (R, C, rk, sn, sk, cn, cd) P v) P i) i d))), some (.int a), some (.int (zn i)), some (.int (zn (i + 1 + d))), some (.int (zn i)), some (.int (zn (i + 1 + d)))]) (st' := []) (m := 2) (ykc_150 (e := (3, .istore 4, 0)) rfl) rfl rfl ?_
                  have e908 : (zn (zXi (zMeet (R, C, rk, sn, sk, cn, cd) P v) (zXo (zMeet (R, C, rk, sn, sk, cn, cd) P v) P i) i d)) + Int32.ofInt 1 = zn (zXi (zMeet (R, C, rk, sn, sk, cn, cd) P v) (zXo (zMeet (R, C, rk, sn, sk, cn, cd) P v) P i) i d + 1) := (zaddN (a := zXi (zMeet (R, C, rk, sn, sk, cn, cd) P v) (zXo (zMeet (R, C, rk, sn, sk, cn, cd) P v) P i) i d) (b := 1) (znt (by omega)) c_2 (by omega))
                  have te908 := znt (k := zXi (zMeet (R, C, rk, sn, sk, cn, cd) P v) (zXo (zMeet (R, C, rk, sn, sk, cn, cd) P v) P i) i d + 1) (by omega)
                  refine w_store (pc' := 89) (L' := [some (.ref 0), some (.int (zn (zXi (zMeet (R, C, rk, sn, sk, cn, cd) P v) (zXo (zMeet (R, C, rk, sn, sk, cn, cd) P v) P i) i d + 1))), some (.int a), some (.int (zn i)), some (.int (zn (i + 1 + d))), some (.int (zn i)), some (.int (zn (i + 1 + d)))]) (st' := []) (m := 3) (ykc_150 (e := (3, .iinc 1 1, 0)) rfl) (by rw [← e908]; rfl) rfl ?_
                  refine w_load (pc' := 90) (v := .int a) (m := 1) (ykc_150 (e := (2, .iload_n kF2, 0)) rfl) rfl rfl ?_
                  refine w_load (pc' := 91) (v := .ref 0) (m := 1) (ykc_150 (e := (2, .aload_n kF0, 0)) rfl) rfl rfl ?_
                  refine w_gf (pc' := 94) (v := .ref 10) (ykc_150 (e := (5, .getfield 35, 0)) rfl) rfl ((f887.1 0 3 (by decide) (by decide)).trans (zsg hS zs_0_3)) rfl ?_
                  refine w_load (pc' := 95) (v := .ref 0) (m := 1) (ykc_150 (e := (2, .aload_n kF0, 0)) rfl) rfl rfl ?_
                  refine w_gf (pc' := 98) (v := .ref 25) (ykc_150 (e := (5, .getfield 42, 0)) rfl) rfl ((f887.1 0 4 (by decide) (by decide)).trans (zsg hS zs_0_4)) rfl ?_
                  refine w_load (pc' := 100) (v := .int (zn i)) (m := 2) (ykc_150 (e := (2, .iload 5, 0)) rfl) rfl rfl ?_
                  refine w_load (pc' := 102) (v := .int (zn (i + 1 + d))) (m := 2) (ykc_150 (e := (2, .iload 6, 0)) rfl) rfl rfl ?_
                  refine w_cv (as := [.ref 10, .ref 25, .int (zn i), .int (zn (i + 1 + d))]) (r := [.int a]) (ykc_150 (e := (6, .invokevirtual 325, 0)) rfl) rfl rfl rfl rfl (zc_tell (zCx_S f887 hS) (zCx_e f887 hE0) (zCx_t f887 ht) hO0 hvw (a := i) (b := i + 1 + d) (by omega) (by omega)) (fun v909 ph910 hv => ?_)
                  obtain ⟨rfl, rfl⟩ := hv
                  show zW n2 D 150 Q 105 [some (.ref 0), some (.int (zn (zXi (zMeet (R, C, rk, sn, sk, cn, cd) P v) (zXo (zMeet (R, C, rk, sn, sk, cn, cd) P v) P i) i d + 1))), some (.int a), some (.int (zn i)), some (.int (zn (i + 1 + d))), some (.int (zn i)), some (.int (zn (i + 1 + d)))] [.int (zI (zTell (R, C, rk, sn, sk, cn, cd) P v i (i + 1 + d))), .int a] ph890
                  refine w_beq (ykc_150 (e := (4, .ifCond .eq 7, 112)) rfl) rfl (fun b911 => ?_) (fun b911 => ?_)
                  · refine w_alu (pc' := 113) (st' := [.int (Int32.ofInt 0), .int a]) (ykc_150 (e := (0, .iconst 0, 0)) rfl) rfl rfl ?_
                    refine w_alu (pc' := 114) (st' := [.int (a + (Int32.ofInt 0))]) (ykc_150 (e := (0, .iadd, 0)) rfl) rfl rfl ?_
                    refine w_store (pc' := 115) (L' := [some (.ref 0), some (.int (zn (zXi (zMeet (R, C, rk, sn, sk, cn, cd) P v) (zXo (zMeet (R, C, rk, sn, sk, cn, cd) P v) P i) i d + 1))), some (.int (a + (Int32.ofInt 0))), some (.int (zn i)), some (.int (zn (i + 1 + d))), some (.int (zn i)), some (.int (zn (i + 1 + d)))]) (st' := []) (m := 1) (ykc_150 (e := (3, .istore_n kF2, 0)) rfl) rfl rfl ?_
                    have e912 : (zn (i + 1 + d)) + Int32.ofInt 1 = zn (i + 1 + d + 1) := (zaddN (a := i + 1 + d) (b := 1) (znt (by omega)) c_2 (by omega))
                    have te912 := znt (k := i + 1 + d + 1) (by omega)
                    refine w_store (pc' := 118) (L' := [some (.ref 0), some (.int (zn (zXi (zMeet (R, C, rk, sn, sk, cn, cd) P v) (zXo (zMeet (R, C, rk, sn, sk, cn, cd) P v) P i) i d + 1))), some (.int (a + (Int32.ofInt 0))), some (.int (zn i)), some (.int (zn (i + 1 + d))), some (.int (zn i)), some (.int (zn (i + 1 + d + 1)))]) (st' := []) (m := 3) (ykc_150 (e := (3, .iinc 6 1, 0)) rfl) (by rw [← e912]; rfl) rfl ?_
                    refine w_gb (ykc_150 (e := (4, .goto (-76), 42)) rfl) (fun k913 hk913 => ?_)
                    have et : zXi (zMeet (R, C, rk, sn, sk, cn, cd) P v) (zXo (zMeet (R, C, rk, sn, sk, cn, cd) P v) P i) i (d + 1) = zXi (zMeet (R, C, rk, sn, sk, cn, cd) P v) (zXo (zMeet (R, C, rk, sn, sk, cn, cd) P v) P i) i d + 1 := by
                      show zXi (zMeet (R, C, rk, sn, sk, cn, cd) P v) (zXo (zMeet (R, C, rk, sn, sk, cn, cd) P v) P i) i d + (bif zMeet (R, C, rk, sn, sk, cn, cd) P v i (i + 1 + d) then 1 else 0) = _
                      rw [b898]
                      rfl
                    have h9 := ih k913 hk913 (by omega) (d + 1) (a + (Int32.ofInt 0)) (zn i) (zn (i + 1 + d)) (by omega)
                    rw [et] at h9
                    exact h9
                  · refine w_alu (pc' := 109) (st' := [.int (Int32.ofInt 1), .int a]) (ykc_150 (e := (0, .iconst 1, 0)) rfl) rfl rfl ?_
                    refine w_br (pc' := 113) (st' := [.int (Int32.ofInt 1), .int a]) (ykc_150 (e := (4, .goto 4, 113)) rfl) rfl ?_
                    refine w_alu (pc' := 114) (st' := [.int (a + (Int32.ofInt 1))]) (ykc_150 (e := (0, .iadd, 0)) rfl) rfl rfl ?_
                    refine w_store (pc' := 115) (L' := [some (.ref 0), some (.int (zn (zXi (zMeet (R, C, rk, sn, sk, cn, cd) P v) (zXo (zMeet (R, C, rk, sn, sk, cn, cd) P v) P i) i d + 1))), some (.int (a + (Int32.ofInt 1))), some (.int (zn i)), some (.int (zn (i + 1 + d))), some (.int (zn i)), some (.int (zn (i + 1 + d)))]) (st' := []) (m := 1) (ykc_150 (e := (3, .istore_n kF2, 0)) rfl) rfl rfl ?_
                    have e914 : (zn (i + 1 + d)) + Int32.ofInt 1 = zn (i + 1 + d + 1) := (zaddN (a := i + 1 + d) (b := 1) (znt (by omega)) c_2 (by omega))
                    have te914 := znt (k := i + 1 + d + 1) (by omega)
                    refine w_store (pc' := 118) (L' := [some (.ref 0), some (.int (zn (zXi (zMeet (R, C, rk, sn, sk, cn, cd) P v) (zXo (zMeet (R, C, rk, sn, sk, cn, cd) P v) P i) i d + 1))), some (.int (a + (Int32.ofInt 1))), some (.int (zn i)), some (.int (zn (i + 1 + d))), some (.int (zn i)), some (.int (zn (i + 1 + d + 1)))]) (st' := []) (m := 3) (ykc_150 (e := (3, .iinc 6 1, 0)) rfl) (by rw [← e914]; rfl) rfl ?_
                    refine w_gb (ykc_150 (e := (4, .goto (-76), 42)) rfl) (fun k915 hk915 => ?_)
                    have et : zXi (zMeet (R, C, rk, sn, sk, cn, cd) P v) (zXo (zMeet (R, C, rk, sn, sk, cn, cd) P v) P i) i (d + 1) = zXi (zMeet (R, C, rk, sn, sk, cn, cd) P v) (zXo (zMeet (R, C, rk, sn, sk, cn, cd) P v) P i) i d + 1 := by
                      show zXi (zMeet (R, C, rk, sn, sk, cn, cd) P v) (zXo (zMeet (R, C, rk, sn, sk, cn, cd) P v) P i) i d + (bif zMeet (R, C, rk, sn, sk, cn, cd) P v i (i + 1 + d) then 1 else 0) = _
                      rw [b898]
                      rfl
                    have h9 := ih k915 hk915 (by omega) (d + 1) (a + (Int32.ofInt 1)) (zn i) (zn (i + 1 + d)) (by omega)
                    rw [et] at h9
                    exact h9
              · refine w_br (pc' := 115) (st' := []) (ykc_150 (e := (4, .goto 43, 115)) rfl) rfl ?_
                have e916 : (zn (i + 1 + d)) + Int32.ofInt 1 = zn (i + 1 + d + 1) := (zaddN (a := i + 1 + d) (b := 1) (znt (by omega)) c_2 (by omega))
                have te916 := znt (k := i + 1 + d + 1) (by omega)
                refine w_store (pc' := 118) (L' := [some (.ref 0), some (.int (zn (zXi (zMeet (R, C, rk, sn, sk, cn, cd) P v) (zXo (zMeet (R, C, rk, sn, sk, cn, cd) P v) P i) i d))), some (.int a), some (.int b), some (.int c), some (.int (zn i)), some (.int (zn (i + 1 + d + 1)))]) (st' := []) (m := 3) (ykc_150 (e := (3, .iinc 6 1, 0)) rfl) (by rw [← e916]; rfl) rfl ?_
                refine w_gb (ykc_150 (e := (4, .goto (-76), 42)) rfl) (fun k917 hk917 => ?_)
                have et : zXi (zMeet (R, C, rk, sn, sk, cn, cd) P v) (zXo (zMeet (R, C, rk, sn, sk, cn, cd) P v) P i) i (d + 1) = zXi (zMeet (R, C, rk, sn, sk, cn, cd) P v) (zXo (zMeet (R, C, rk, sn, sk, cn, cd) P v) P i) i d := by
                  show zXi (zMeet (R, C, rk, sn, sk, cn, cd) P v) (zXo (zMeet (R, C, rk, sn, sk, cn, cd) P v) P i) i d + (bif zMeet (R, C, rk, sn, sk, cn, cd) P v i (i + 1 + d) then 1 else 0) = _
                  rw [b898]
                  rfl
                have h9 := ih k917 hk917 (by omega) (d + 1) a b c (by omega)
                rw [et] at h9
                exact h9
        exact hj n (Nat.le_refl _) 0 _ _ _ (Nat.zero_le _)
  exact hl n 0 _ _ _ _ (Nat.zero_le _)
theorem zm_pairs {ph : pm_H} {E : zEn} {P G : Nat} {v : Nat → Nat} (hS : zSh ph) (hE : zMe ph E) (hN : zMp ph P G) (hv : zNr ph 174 0 v) (hO : zOk E.1 E.2.1 P G v) : zM 261 [.ref 170] ph (fun v0 _ => v0 = some (.int (zn (zXo (zMeet E P v) P P)))) := by
  obtain ⟨Q, hQ⟩ : ∃ Q : Option Value → pm_H → Prop, Q = (fun v0 _ => v0 = some (.int (zn (zXo (zMeet E P v) P P)))) := ⟨_, rfl⟩
  rw [← hQ]
  refine zM_mk fun n D => ?_
  show zW n D 261 Q 0 [some (.ref 170), none, none, none, none, none, none] [] ph
  have c_0 : (Int32.ofInt (-1)).toInt = -1 := by decide
  have c_1 : (Int32.ofInt 0).toInt = 0 := by decide
  have c_2 : (Int32.ofInt 1).toInt = 1 := by decide
  have hA : (174 : Nat) = 174 ∨ (174 : Nat) = 175 := Or.inl rfl
  obtain ⟨R, C, rk, sn, sk, cn, cd⟩ := E
  have hL0 : zMl ph R C rk := hE.1
  have hR0 : zMr ph sn sk cn cd := hE.2.1
  have hcg : zcg cn cd := hE.2.2
  have hE0 : zMe ph (R, C, rk, sn, sk, cn, cd) := hE
  have hO0 : zOk R C P G v := hO
  have hN0 := hN
  have hL := hL0
  have hR := hR0
  obtain ⟨gR, gC, gK, hR3, hR7, hC3, hC7⟩ := hL
  have hRC := zRC49 hR7 hC7
  have tR := znt (k := R) (by omega)
  have tC := znt (k := C) (by omega)
  obtain ⟨gP, hP8, gG, hG8⟩ := hN
  have tP := znt (k := P) (by omega)
  have tG := znt (k := G) (by omega)
  obtain ⟨gsn, hs1, hs20, gsk, gcn, hc40, gcd⟩ := hR
  have tsn := znt (k := sn) (by omega)
  have tcn := znt (k := cn) (by omega)
  refine w_load (pc' := 1) (v := .ref 170) (m := 1) (ykc_261 (e := (2, .aload_n kF0, 0)) rfl) rfl rfl ?_
  refine w_alu (pc' := 2) (st' := [.int (Int32.ofInt 0), .ref 170]) (ykc_261 (e := (0, .iconst 0, 0)) rfl) rfl rfl ?_
  refine w_pf (pc' := 5) (ykc_261 (e := (5, .putfield 3, 0)) rfl) rfl rfl (fun ph919 u918 => ?_)
  have f0 : zFr [] [(170, 0)] ph ph919 := zFr_st u918 (Or.inr (by simp))
  have hS1 := zSh_st u918 (by decide +kernel) hS
  have hE1 : zMe ph919 (R, C, rk, sn, sk, cn, cd) := ⟨zMl_F f0 (by simp) (by simp) (by simp) (by simp) hE0.1, zMr_F f0 (by simp) (by simp) (by simp) (by simp) hE0.2.1, hE0.2.2⟩
  have hN1 := zMp_F f0 (by simp) (by simp) (by simp) hN0
  have hv1 := zNr_F f0 (by simp) (by simp) hv
  have hL1 : zMl ph919 R C rk := hE1.1
  have hR1 : zMr ph919 sn sk cn cd := hE1.2.1
  refine w_alu (pc' := 6) (st' := [.int (Int32.ofInt 0)]) (ykc_261 (e := (0, .iconst 0, 0)) rfl) rfl rfl ?_
  refine w_store (pc' := 7) (L' := [some (.ref 170), some (.int (Int32.ofInt 0)), none, none, none, none, none]) (st' := []) (m := 1) (ykc_261 (e := (3, .istore_n kF1, 0)) rfl) rfl rfl ?_
  refine w_alu (pc' := 8) (st' := [.int (Int32.ofInt 0)]) (ykc_261 (e := (0, .iconst 0, 0)) rfl) rfl rfl ?_
  refine w_store (pc' := 9) (L' := [some (.ref 170), some (.int (Int32.ofInt 0)), some (.int (Int32.ofInt 0)), none, none, none, none]) (st' := []) (m := 1) (ykc_261 (e := (3, .istore_n kF2, 0)) rfl) rfl rfl ?_
  refine w_alu (pc' := 10) (st' := [.int (Int32.ofInt (-1))]) (ykc_261 (e := (0, .iconst (-1), 0)) rfl) rfl rfl ?_
  refine w_store (pc' := 11) (L' := [some (.ref 170), some (.int (Int32.ofInt 0)), some (.int (Int32.ofInt 0)), some (.int (Int32.ofInt (-1))), none, none, none]) (st' := []) (m := 1) (ykc_261 (e := (3, .istore_n kF3, 0)) rfl) rfl rfl ?_
  refine w_alu (pc' := 12) (st' := [.int (Int32.ofInt (-1))]) (ykc_261 (e := (0, .iconst (-1), 0)) rfl) rfl rfl ?_
  refine w_store (pc' := 14) (L' := [some (.ref 170), some (.int (Int32.ofInt 0)), some (.int (Int32.ofInt 0)), some (.int (Int32.ofInt (-1))), some (.int (Int32.ofInt (-1))), none, none]) (st' := []) (m := 2) (ykc_261 (e := (3, .istore 4, 0)) rfl) rfl rfl ?_
  refine w_alu (pc' := 15) (st' := [.int (Int32.ofInt 0)]) (ykc_261 (e := (0, .iconst 0, 0)) rfl) rfl rfl ?_
  refine w_store (pc' := 17) (L' := [some (.ref 170), some (.int (Int32.ofInt 0)), some (.int (Int32.ofInt 0)), some (.int (Int32.ofInt (-1))), some (.int (Int32.ofInt (-1))), some (.int (Int32.ofInt 0)), none]) (st' := []) (m := 2) (ykc_261 (e := (3, .istore 5, 0)) rfl) rfl rfl ?_
  have hl : ∀ (n : Nat), ∀ (i : Nat) (a b c : Int32) (o6 : Option Value) (ph1 : pm_H), (i ≤ P) → (zSc ph919 ph1) → zW n D 261 Q 17 [some (.ref 170), some (.int (zn (zXo (zMeet (R, C, rk, sn, sk, cn, cd) P v) P i))), some (.int a), some (.int b), some (.int c), some (.int (zn i)), o6] [] ph1 := by
    intro n
    induction n using Nat.strongRecOn with
    | ind n ih =>
      intro i a b c o6 ph1 hi hf1
      have ti := znt (k := i) (by omega)
      have mo := @zXo_le (zMeet (R, C, rk, sn, sk, cn, cd) P v) P i (by omega)
      have tm := znt (k := zXo (zMeet (R, C, rk, sn, sk, cn, cd) P v) P i) (by omega)
      refine w_load (pc' := 19) (v := .int (zn i)) (m := 2) (ykc_261 (e := (2, .iload 5, 0)) rfl) rfl rfl ?_
      refine w_load (pc' := 20) (v := .ref 170) (m := 1) (ykc_261 (e := (2, .aload_n kF0, 0)) rfl) rfl rfl ?_
      refine w_gf (pc' := 23) (v := .int (zn P)) (ykc_261 (e := (5, .getfield 130, 0)) rfl) rfl ((hf1.1 170 5 (by decide) (by decide)).trans ((u918.2.1 170 5 (fun q => absurd q.2 (by decide))).trans gP)) rfl ?_
      refine w_ige (ykc_261 (e := (4, .if_icmp .ge 90, 113)) rfl) rfl (fun b920 => ?_) (fun b920 => ?_)
      · rw [hQ]
        exact zTail kc_261 false 1 113 9999 (fun _ => rfl) (Or.inl ⟨_, rfl⟩) (by decide +kernel) (by decide) (by decide) rfl (by decide +kernel) (fun _ => (by rw [show P = i by omega]))
      · refine w_load (pc' := 28) (v := .int (zn i)) (m := 2) (ykc_261 (e := (2, .iload 5, 0)) rfl) rfl rfl ?_
        refine w_alu (pc' := 29) (st' := [.int (Int32.ofInt 1), .int (zn i)]) (ykc_261 (e := (0, .iconst 1, 0)) rfl) rfl rfl ?_
        have e921 : (zn i) + (Int32.ofInt 1) = zn (i + 1) := (zaddN (a := i) (b := 1) (znt (by omega)) c_2 (by omega)) 
        have te921 := znt (k := i + 1) (by omega)
        refine w_alu (pc' := 30) (st' := [.int (zn (i + 1))]) (ykc_261 (e := (0, .iadd, 0)) rfl) (by rw [← e921]; rfl) rfl ?_
        refine w_store (pc' := 32) (L' := [some (.ref 170), some (.int (zn (zXo (zMeet (R, C, rk, sn, sk, cn, cd) P v) P i))), some (.int a), some (.int b), some (.int c), some (.int (zn i)), some (.int (zn (i + 1)))]) (st' := []) (m := 2) (ykc_261 (e := (3, .istore 6, 0)) rfl) rfl rfl ?_
        have iho := ih
        have hj : ∀ (n2 : Nat), n2 ≤ n → ∀ (d : Nat) (a b c : Int32) (ph2 : pm_H), (d ≤ P - (i + 1)) → (zSc ph919 ph2) → zW n2 D 261 Q 32 [some (.ref 170), some (.int (zn (zXi (zMeet (R, C, rk, sn, sk, cn, cd) P v) (zXo (zMeet (R, C, rk, sn, sk, cn, cd) P v) P i) i d))), some (.int a), some (.int b), some (.int c), some (.int (zn i)), some (.int (zn (i + 1 + d)))] [] ph2 := by
          intro n2
          induction n2 using Nat.strongRecOn with
          | ind n2 ih =>
            intro hlim d a b c ph2 hd hf2
            have td := znt (k := i + 1 + d) (by omega)
            have mi := @zXi_le (zMeet (R, C, rk, sn, sk, cn, cd) P v) (zXo (zMeet (R, C, rk, sn, sk, cn, cd) P v) P i) i d
            have tm2 := znt (k := zXi (zMeet (R, C, rk, sn, sk, cn, cd) P v) (zXo (zMeet (R, C, rk, sn, sk, cn, cd) P v) P i) i d) (by omega)
            refine w_load (pc' := 34) (v := .int (zn (i + 1 + d))) (m := 2) (ykc_261 (e := (2, .iload 6, 0)) rfl) rfl rfl ?_
            refine w_load (pc' := 35) (v := .ref 170) (m := 1) (ykc_261 (e := (2, .aload_n kF0, 0)) rfl) rfl rfl ?_
            refine w_gf (pc' := 38) (v := .int (zn P)) (ykc_261 (e := (5, .getfield 130, 0)) rfl) rfl ((hf2.1 170 5 (by decide) (by decide)).trans ((u918.2.1 170 5 (fun q => absurd q.2 (by decide))).trans gP)) rfl ?_
            refine w_ige (ykc_261 (e := (4, .if_icmp .ge 69, 107)) rfl) rfl (fun b922 => ?_) (fun b922 => ?_)
            · have e923 : (zn i) + Int32.ofInt 1 = zn (i + 1) := (zaddN (a := i) (b := 1) (znt (by omega)) c_2 (by omega))
              have te923 := znt (k := i + 1) (by omega)
              refine w_store (pc' := 110) (L' := [some (.ref 170), some (.int (zn (zXi (zMeet (R, C, rk, sn, sk, cn, cd) P v) (zXo (zMeet (R, C, rk, sn, sk, cn, cd) P v) P i) i d))), some (.int a), some (.int b), some (.int c), some (.int (zn (i + 1))), some (.int (zn (i + 1 + d)))]) (st' := []) (m := 3) (ykc_261 (e := (3, .iinc 5 1, 0)) rfl) (by rw [← e923]; rfl) rfl ?_
              refine w_gb (ykc_261 (e := (4, .goto (-93), 17)) rfl) (fun k924 hk924 => ?_)
              have ed : d = P - (i + 1) := by omega
              subst ed
              exact iho k924 (by omega) (i + 1) a b c _ _ (by omega) hf2
            · refine w_load (pc' := 42) (v := .ref 170) (m := 1) (ykc_261 (e := (2, .aload_n kF0, 0)) rfl) rfl rfl ?_
              refine w_load (pc' := 43) (v := .ref 170) (m := 1) (ykc_261 (e := (2, .aload_n kF0, 0)) rfl) rfl rfl ?_
              refine w_gf (pc' := 46) (v := .ref 174) (ykc_261 (e := (5, .getfield 41, 0)) rfl) rfl ((hf2.1 170 11 (by decide) (by decide)).trans ((u918.2.1 170 11 (fun q => absurd q.2 (by decide))).trans (zsg hS zs_170_11))) rfl ?_
              refine w_load (pc' := 48) (v := .int (zn i)) (m := 2) (ykc_261 (e := (2, .iload 5, 0)) rfl) rfl rfl ?_
              refine w_load (pc' := 50) (v := .int (zn (i + 1 + d))) (m := 2) (ykc_261 (e := (2, .iload 6, 0)) rfl) rfl rfl ?_
              refine w_cv (as := [.ref 170, .ref 174, .int (zn i), .int (zn (i + 1 + d))]) (r := []) (ykc_261 (e := (6, .invokevirtual 312, 0)) rfl) rfl rfl rfl rfl (zm_meet (zSc_S hf2 hS1) (zSc_e hf2 hE1) (zSc_p hf2 hN1) (zSc_a hf2 (⟨hA, hv1⟩ : ((174 : Nat) = 174 ∨ (174 : Nat) = 175) ∧ zNr ph919 174 0 v)).1 (zSc_a hf2 (⟨hA, hv1⟩ : ((174 : Nat) = 174 ∨ (174 : Nat) = 175) ∧ zNr ph919 174 0 v)).2 hO0 (a := i) (b := i + 1 + d) (by omega) (by omega)) (fun v926 ph927 hv => ?_)
              obtain ⟨f925, rfl⟩ := hv
              show zW n2 D 261 Q 53 [some (.ref 170), some (.int (zn (zXi (zMeet (R, C, rk, sn, sk, cn, cd) P v) (zXo (zMeet (R, C, rk, sn, sk, cn, cd) P v) P i) i d))), some (.int a), some (.int b), some (.int c), some (.int (zn i)), some (.int (zn (i + 1 + d)))] [.int (zI (zMeet (R, C, rk, sn, sk, cn, cd) P v i (i + 1 + d)))] ph927
              refine w_beq (ykc_261 (e := (4, .ifCond .eq 48, 101)) rfl) rfl (fun b928 => ?_) (fun b928 => ?_)
              · have e929 : (zn (i + 1 + d)) + Int32.ofInt 1 = zn (i + 1 + d + 1) := (zaddN (a := i + 1 + d) (b := 1) (znt (by omega)) c_2 (by omega))
                have te929 := znt (k := i + 1 + d + 1) (by omega)
                refine w_store (pc' := 104) (L' := [some (.ref 170), some (.int (zn (zXi (zMeet (R, C, rk, sn, sk, cn, cd) P v) (zXo (zMeet (R, C, rk, sn, sk, cn, cd) P v) P i) i d))), some (.int a), some (.int b), some (.int c), some (.int (zn i)), some (.int (zn (i + 1 + d + 1)))]) (st' := []) (m := 3) (ykc_261 (e := (3, .iinc 6 1, 0)) rfl) (by rw [← e929]; rfl) rfl ?_
                refine w_gb (ykc_261 (e := (4, .goto (-72), 32)) rfl) (fun k930 hk930 => ?_)
                have et : zXi (zMeet (R, C, rk, sn, sk, cn, cd) P v) (zXo (zMeet (R, C, rk, sn, sk, cn, cd) P v) P i) i (d + 1) = zXi (zMeet (R, C, rk, sn, sk, cn, cd) P v) (zXo (zMeet (R, C, rk, sn, sk, cn, cd) P v) P i) i d := by
                  show zXi (zMeet (R, C, rk, sn, sk, cn, cd) P v) (zXo (zMeet (R, C, rk, sn, sk, cn, cd) P v) P i) i d + (bif zMeet (R, C, rk, sn, sk, cn, cd) P v i (i + 1 + d) then 1 else 0) = _
                  rw [b928]
                  rfl
                have h9 := ih k930 hk930 (by omega) (d + 1) a b c _ (by omega) (zFr_trans hf2 f925)
                rw [et] at h9
                exact h9
              · refine w_load (pc' := 57) (v := .int (zn (zXi (zMeet (R, C, rk, sn, sk, cn, cd) P v) (zXo (zMeet (R, C, rk, sn, sk, cn, cd) P v) P i) i d))) (m := 1) (ykc_261 (e := (2, .iload_n kF1, 0)) rfl) rfl rfl ?_
                refine w_zne (ykc_261 (e := (4, .ifCond .ne 8, 65)) rfl) rfl (fun b931 => ?_) (fun b931 => ?_)
                · refine w_load (pc' := 66) (v := .int b) (m := 1) (ykc_261 (e := (2, .iload_n kF3, 0)) rfl) rfl rfl ?_
                  refine w_store (pc' := 67) (L' := [some (.ref 170), some (.int (zn (zXi (zMeet (R, C, rk, sn, sk, cn, cd) P v) (zXo (zMeet (R, C, rk, sn, sk, cn, cd) P v) P i) i d))), some (.int a), some (.int b), some (.int c), some (.int (zn i)), some (.int (zn (i + 1 + d)))]) (st' := []) (m := 1) (ykc_261 (e := (3, .istore_n kF3, 0)) rfl) rfl rfl ?_
                  refine w_load (pc' := 68) (v := .int (zn (zXi (zMeet (R, C, rk, sn, sk, cn, cd) P v) (zXo (zMeet (R, C, rk, sn, sk, cn, cd) P v) P i) i d))) (m := 1) (ykc_261 (e := (2, .iload_n kF1, 0)) rfl) rfl rfl ?_
                  refine w_zne (ykc_261 (e := (4, .ifCond .ne 8, 76)) rfl) rfl (fun b932 => ?_) (fun b932 => ?_)
                  · refine w_load (pc' := 78) (v := .int c) (m := 2) (ykc_261 (e := (2, .iload 4, 0)) rfl) rfl rfl ?_
                    refine w_store (pc' := 80) (L' := [some (.ref 170), some (.int (zn (zXi (zMeet (R, C, rk, sn, sk, cn, cd) P v) (zXo (zMeet (R, C, rk, sn, sk, cn, cd) P v) P i) i d))), some (.int a), some (.int b), some (.int c), some (.int (zn i)), some (.int (zn (i + 1 + d)))]) (st' := []) (m := 2) (ykc_261 (e := (3, .istore 4, 0)) rfl) rfl rfl ?_
                    have e933 : (zn (zXi (zMeet (R, C, rk, sn, sk, cn, cd) P v) (zXo (zMeet (R, C, rk, sn, sk, cn, cd) P v) P i) i d)) + Int32.ofInt 1 = zn (zXi (zMeet (R, C, rk, sn, sk, cn, cd) P v) (zXo (zMeet (R, C, rk, sn, sk, cn, cd) P v) P i) i d + 1) := (zaddN (a := zXi (zMeet (R, C, rk, sn, sk, cn, cd) P v) (zXo (zMeet (R, C, rk, sn, sk, cn, cd) P v) P i) i d) (b := 1) (znt (by omega)) c_2 (by omega))
                    have te933 := znt (k := zXi (zMeet (R, C, rk, sn, sk, cn, cd) P v) (zXo (zMeet (R, C, rk, sn, sk, cn, cd) P v) P i) i d + 1) (by omega)
                    refine w_store (pc' := 83) (L' := [some (.ref 170), some (.int (zn (zXi (zMeet (R, C, rk, sn, sk, cn, cd) P v) (zXo (zMeet (R, C, rk, sn, sk, cn, cd) P v) P i) i d + 1))), some (.int a), some (.int b), some (.int c), some (.int (zn i)), some (.int (zn (i + 1 + d)))]) (st' := []) (m := 3) (ykc_261 (e := (3, .iinc 1 1, 0)) rfl) (by rw [← e933]; rfl) rfl ?_
                    refine w_load (pc' := 84) (v := .int a) (m := 1) (ykc_261 (e := (2, .iload_n kF2, 0)) rfl) rfl rfl ?_
                    refine w_load (pc' := 85) (v := .ref 170) (m := 1) (ykc_261 (e := (2, .aload_n kF0, 0)) rfl) rfl rfl ?_
                    refine w_load (pc' := 86) (v := .ref 170) (m := 1) (ykc_261 (e := (2, .aload_n kF0, 0)) rfl) rfl rfl ?_
                    refine w_gf (pc' := 89) (v := .ref 174) (ykc_261 (e := (5, .getfield 41, 0)) rfl) rfl ((f925.1 170 11 (by decide) (by decide)).trans ((hf2.1 170 11 (by decide) (by decide)).trans ((u918.2.1 170 11 (fun q => absurd q.2 (by decide))).trans (zsg hS zs_170_11)))) rfl ?_
                    refine w_load (pc' := 91) (v := .int (zn i)) (m := 2) (ykc_261 (e := (2, .iload 5, 0)) rfl) rfl rfl ?_
                    refine w_load (pc' := 93) (v := .int (zn (i + 1 + d))) (m := 2) (ykc_261 (e := (2, .iload 6, 0)) rfl) rfl rfl ?_
                    refine w_cv (as := [.ref 170, .ref 174, .int (zn i), .int (zn (i + 1 + d))]) (r := [.int a]) (ykc_261 (e := (6, .invokevirtual 344, 0)) rfl) rfl rfl rfl rfl (zm_tell (zSc_S (zFr_trans hf2 f925) hS1) (zSc_e (zFr_trans hf2 f925) hE1) (zSc_p (zFr_trans hf2 f925) hN1) (zSc_a (zFr_trans hf2 f925) (⟨hA, hv1⟩ : ((174 : Nat) = 174 ∨ (174 : Nat) = 175) ∧ zNr ph919 174 0 v)).1 (zSc_a (zFr_trans hf2 f925) (⟨hA, hv1⟩ : ((174 : Nat) = 174 ∨ (174 : Nat) = 175) ∧ zNr ph919 174 0 v)).2 hO0 (a := i) (b := i + 1 + d) (by omega) (by omega)) (fun v935 ph936 hv => ?_)
                    obtain ⟨f934, rfl⟩ := hv
                    show zW n2 D 261 Q 96 [some (.ref 170), some (.int (zn (zXi (zMeet (R, C, rk, sn, sk, cn, cd) P v) (zXo (zMeet (R, C, rk, sn, sk, cn, cd) P v) P i) i d + 1))), some (.int a), some (.int b), some (.int c), some (.int (zn i)), some (.int (zn (i + 1 + d)))] [.int (zI (zTell (R, C, rk, sn, sk, cn, cd) P v i (i + 1 + d))), .int a] ph936
                    refine w_cs (as := [.int (zI (zTell (R, C, rk, sn, sk, cn, cd) P v i (i + 1 + d)))]) (r := [.int a]) (ykc_261 (e := (6, .invokestatic 154, 0)) rfl) rfl rfl rfl rfl (zm_flag (b := (zTell (R, C, rk, sn, sk, cn, cd) P v i (i + 1 + d)))) (fun v937 ph938 hv => ?_)
                    obtain ⟨rfl, rfl⟩ := hv
                    have cI1 : (zI true).toInt = 1 := rfl
                    have cI0 : (zI false).toInt = 0 := rfl
                    show zW n2 D 261 Q 99 [some (.ref 170), some (.int (zn (zXi (zMeet (R, C, rk, sn, sk, cn, cd) P v) (zXo (zMeet (R, C, rk, sn, sk, cn, cd) P v) P i) i d + 1))), some (.int a), some (.int b), some (.int c), some (.int (zn i)), some (.int (zn (i + 1 + d)))] [.int (zI (zTell (R, C, rk, sn, sk, cn, cd) P v i (i + 1 + d))), .int a] ph936
                    refine w_alu (pc' := 100) (st' := [.int (a + (zI (zTell (R, C, rk, sn, sk, cn, cd) P v i (i + 1 + d))))]) (ykc_261 (e := (0, .iadd, 0)) rfl) rfl rfl ?_
                    refine w_store (pc' := 101) (L' := [some (.ref 170), some (.int (zn (zXi (zMeet (R, C, rk, sn, sk, cn, cd) P v) (zXo (zMeet (R, C, rk, sn, sk, cn, cd) P v) P i) i d + 1))), some (.int (a + (zI (zTell (R, C, rk, sn, sk, cn, cd) P v i (i + 1 + d))))), some (.int b), some (.int c), some (.int (zn i)), some (.int (zn (i + 1 + d)))]) (st' := []) (m := 1) (ykc_261 (e := (3, .istore_n kF2, 0)) rfl) rfl rfl ?_
                    have e939 : (zn (i + 1 + d)) + Int32.ofInt 1 = zn (i + 1 + d + 1) := (zaddN (a := i + 1 + d) (b := 1) (znt (by omega)) c_2 (by omega))
                    have te939 := znt (k := i + 1 + d + 1) (by omega)
                    refine w_store (pc' := 104) (L' := [some (.ref 170), some (.int (zn (zXi (zMeet (R, C, rk, sn, sk, cn, cd) P v) (zXo (zMeet (R, C, rk, sn, sk, cn, cd) P v) P i) i d + 1))), some (.int (a + (zI (zTell (R, C, rk, sn, sk, cn, cd) P v i (i + 1 + d))))), some (.int b), some (.int c), some (.int (zn i)), some (.int (zn (i + 1 + d + 1)))]) (st' := []) (m := 3) (ykc_261 (e := (3, .iinc 6 1, 0)) rfl) (by rw [← e939]; rfl) rfl ?_
                    refine w_gb (ykc_261 (e := (4, .goto (-72), 32)) rfl) (fun k940 hk940 => ?_)
                    have et : zXi (zMeet (R, C, rk, sn, sk, cn, cd) P v) (zXo (zMeet (R, C, rk, sn, sk, cn, cd) P v) P i) i (d + 1) = zXi (zMeet (R, C, rk, sn, sk, cn, cd) P v) (zXo (zMeet (R, C, rk, sn, sk, cn, cd) P v) P i) i d + 1 := by
                      show zXi (zMeet (R, C, rk, sn, sk, cn, cd) P v) (zXo (zMeet (R, C, rk, sn, sk, cn, cd) P v) P i) i d + (bif zMeet (R, C, rk, sn, sk, cn, cd) P v i (i + 1 + d) then 1 else 0) = _
                      rw [b928]
                      rfl
                    have h9 := ih k940 hk940 (by omega) (d + 1) (a + (zI (zTell (R, C, rk, sn, sk, cn, cd) P v i (i + 1 + d)))) b c _ (by omega) (zFr_trans (zFr_trans hf2 f925) f934)
                    rw [et] at h9
                    exact h9
                  · refine w_load (pc' := 73) (v := .int (zn (i + 1 + d))) (m := 2) (ykc_261 (e := (2, .iload 6, 0)) rfl) rfl rfl ?_
                    refine w_br (pc' := 78) (st' := [.int (zn (i + 1 + d))]) (ykc_261 (e := (4, .goto 5, 78)) rfl) rfl ?_
                    refine w_store (pc' := 80) (L' := [some (.ref 170), some (.int (zn (zXi (zMeet (R, C, rk, sn, sk, cn, cd) P v) (zXo (zMeet (R, C, rk, sn, sk, cn, cd) P v) P i) i d))), some (.int a), some (.int b), some (.int (zn (i + 1 + d))), some (.int (zn i)), some (.int (zn (i + 1 + d)))]) (st' := []) (m := 2) (ykc_261 (e := (3, .istore 4, 0)) rfl) rfl rfl ?_
                    have e941 : (zn (zXi (zMeet (R, C, rk, sn, sk, cn, cd) P v) (zXo (zMeet (R, C, rk, sn, sk, cn, cd) P v) P i) i d)) + Int32.ofInt 1 = zn (zXi (zMeet (R, C, rk, sn, sk, cn, cd) P v) (zXo (zMeet (R, C, rk, sn, sk, cn, cd) P v) P i) i d + 1) := (zaddN (a := zXi (zMeet (R, C, rk, sn, sk, cn, cd) P v) (zXo (zMeet (R, C, rk, sn, sk, cn, cd) P v) P i) i d) (b := 1) (znt (by omega)) c_2 (by omega))
                    have te941 := znt (k := zXi (zMeet (R, C, rk, sn, sk, cn, cd) P v) (zXo (zMeet (R, C, rk, sn, sk, cn, cd) P v) P i) i d + 1) (by omega)
                    refine w_store (pc' := 83) (L' := [some (.ref 170), some (.int (zn (zXi (zMeet (R, C, rk, sn, sk, cn, cd) P v) (zXo (zMeet (R, C, rk, sn, sk, cn, cd) P v) P i) i d + 1))), some (.int a), some (.int b), some (.int (zn (i + 1 + d))), some (.int (zn i)), some (.int (zn (i + 1 + d)))]) (st' := []) (m := 3) (ykc_261 (e := (3, .iinc 1 1, 0)) rfl) (by rw [← e941]; rfl) rfl ?_
                    refine w_load (pc' := 84) (v := .int a) (m := 1) (ykc_261 (e := (2, .iload_n kF2, 0)) rfl) rfl rfl ?_
                    refine w_load (pc' := 85) (v := .ref 170) (m := 1) (ykc_261 (e := (2, .aload_n kF0, 0)) rfl) rfl rfl ?_
                    refine w_load (pc' := 86) (v := .ref 170) (m := 1) (ykc_261 (e := (2, .aload_n kF0, 0)) rfl) rfl rfl ?_
                    refine w_gf (pc' := 89) (v := .ref 174) (ykc_261 (e := (5, .getfield 41, 0)) rfl) rfl ((f925.1 170 11 (by decide) (by decide)).trans ((hf2.1 170 11 (by decide) (by decide)).trans ((u918.2.1 170 11 (fun q => absurd q.2 (by decide))).trans (zsg hS zs_170_11)))) rfl ?_
                    refine w_load (pc' := 91) (v := .int (zn i)) (m := 2) (ykc_261 (e := (2, .iload 5, 0)) rfl) rfl rfl ?_
                    refine w_load (pc' := 93) (v := .int (zn (i + 1 + d))) (m := 2) (ykc_261 (e := (2, .iload 6, 0)) rfl) rfl rfl ?_
                    refine w_cv (as := [.ref 170, .ref 174, .int (zn i), .int (zn (i + 1 + d))]) (r := [.int a]) (ykc_261 (e := (6, .invokevirtual 344, 0)) rfl) rfl rfl rfl rfl (zm_tell (zSc_S (zFr_trans hf2 f925) hS1) (zSc_e (zFr_trans hf2 f925) hE1) (zSc_p (zFr_trans hf2 f925) hN1) (zSc_a (zFr_trans hf2 f925) (⟨hA, hv1⟩ : ((174 : Nat) = 174 ∨ (174 : Nat) = 175) ∧ zNr ph919 174 0 v)).1 (zSc_a (zFr_trans hf2 f925) (⟨hA, hv1⟩ : ((174 : Nat) = 174 ∨ (174 : Nat) = 175) ∧ zNr ph919 174 0 v)).2 hO0 (a := i) (b := i + 1 + d) (by omega) (by omega)) (fun v943 ph944 hv => ?_)
                    obtain ⟨f942, rfl⟩ := hv
                    show zW n2 D 261 Q 96 [some (.ref 170), some (.int (zn (zXi (zMeet (R, C, rk, sn, sk, cn, cd) P v) (zXo (zMeet (R, C, rk, sn, sk, cn, cd) P v) P i) i d + 1))), some (.int a), some (.int b), some (.int (zn (i + 1 + d))), some (.int (zn i)), some (.int (zn (i + 1 + d)))] [.int (zI (zTell (R, C, rk, sn, sk, cn, cd) P v i (i + 1 + d))), .int a] ph944
                    refine w_cs (as := [.int (zI (zTell (R, C, rk, sn, sk, cn, cd) P v i (i + 1 + d)))]) (r := [.int a]) (ykc_261 (e := (6, .invokestatic 154, 0)) rfl) rfl rfl rfl rfl (zm_flag (b := (zTell (R, C, rk, sn, sk, cn, cd) P v i (i + 1 + d)))) (fun v945 ph946 hv => ?_)
                    obtain ⟨rfl, rfl⟩ := hv
                    have cI1 : (zI true).toInt = 1 := rfl
                    have cI0 : (zI false).toInt = 0 := rfl
                    show zW n2 D 261 Q 99 [some (.ref 170), some (.int (zn (zXi (zMeet (R, C, rk, sn, sk, cn, cd) P v) (zXo (zMeet (R, C, rk, sn, sk, cn, cd) P v) P i) i d + 1))), some (.int a), some (.int b), some (.int (zn (i + 1 + d))), some (.int (zn i)), some (.int (zn (i + 1 + d)))] [.int (zI (zTell (R, C, rk, sn, sk, cn, cd) P v i (i + 1 + d))), .int a] ph944
                    refine w_alu (pc' := 100) (st' := [.int (a + (zI (zTell (R, C, rk, sn, sk, cn, cd) P v i (i + 1 + d))))]) (ykc_261 (e := (0, .iadd, 0)) rfl) rfl rfl ?_
                    refine w_store (pc' := 101) (L' := [some (.ref 170), some (.int (zn (zXi (zMeet (R, C, rk, sn, sk, cn, cd) P v) (zXo (zMeet (R, C, rk, sn, sk, cn, cd) P v) P i) i d + 1))), some (.int (a + (zI (zTell (R, C, rk, sn, sk, cn, cd) P v i (i + 1 + d))))), some (.int b), some (.int (zn (i + 1 + d))), some (.int (zn i)), some (.int (zn (i + 1 + d)))]) (st' := []) (m := 1) (ykc_261 (e := (3, .istore_n kF2, 0)) rfl) rfl rfl ?_
                    have e947 : (zn (i + 1 + d)) + Int32.ofInt 1 = zn (i + 1 + d + 1) := (zaddN (a := i + 1 + d) (b := 1) (znt (by omega)) c_2 (by omega))
                    have te947 := znt (k := i + 1 + d + 1) (by omega)
                    refine w_store (pc' := 104) (L' := [some (.ref 170), some (.int (zn (zXi (zMeet (R, C, rk, sn, sk, cn, cd) P v) (zXo (zMeet (R, C, rk, sn, sk, cn, cd) P v) P i) i d + 1))), some (.int (a + (zI (zTell (R, C, rk, sn, sk, cn, cd) P v i (i + 1 + d))))), some (.int b), some (.int (zn (i + 1 + d))), some (.int (zn i)), some (.int (zn (i + 1 + d + 1)))]) (st' := []) (m := 3) (ykc_261 (e := (3, .iinc 6 1, 0)) rfl) (by rw [← e947]; rfl) rfl ?_
                    refine w_gb (ykc_261 (e := (4, .goto (-72), 32)) rfl) (fun k948 hk948 => ?_)
                    have et : zXi (zMeet (R, C, rk, sn, sk, cn, cd) P v) (zXo (zMeet (R, C, rk, sn, sk, cn, cd) P v) P i) i (d + 1) = zXi (zMeet (R, C, rk, sn, sk, cn, cd) P v) (zXo (zMeet (R, C, rk, sn, sk, cn, cd) P v) P i) i d + 1 := by
                      show zXi (zMeet (R, C, rk, sn, sk, cn, cd) P v) (zXo (zMeet (R, C, rk, sn, sk, cn, cd) P v) P i) i d + (bif zMeet (R, C, rk, sn, sk, cn, cd) P v i (i + 1 + d) then 1 else 0) = _
                      rw [b928]
                      rfl
                    have h9 := ih k948 hk948 (by omega) (d + 1) (a + (zI (zTell (R, C, rk, sn, sk, cn, cd) P v i (i + 1 + d)))) b (zn (i + 1 + d)) _ (by omega) (zFr_trans (zFr_trans hf2 f925) f942)
                    rw [et] at h9
                    exact h9
                · refine w_load (pc' := 62) (v := .int (zn i)) (m := 2) (ykc_261 (e := (2, .iload 5, 0)) rfl) rfl rfl ?_
                  refine w_br (pc' := 66) (st' := [.int (zn i)]) (ykc_261 (e := (4, .goto 4, 66)) rfl) rfl ?_
                  refine w_store (pc' := 67) (L' := [some (.ref 170), some (.int (zn (zXi (zMeet (R, C, rk, sn, sk, cn, cd) P v) (zXo (zMeet (R, C, rk, sn, sk, cn, cd) P v) P i) i d))), some (.int a), some (.int (zn i)), some (.int c), some (.int (zn i)), some (.int (zn (i + 1 + d)))]) (st' := []) (m := 1) (ykc_261 (e := (3, .istore_n kF3, 0)) rfl) rfl rfl ?_
                  refine w_load (pc' := 68) (v := .int (zn (zXi (zMeet (R, C, rk, sn, sk, cn, cd) P v) (zXo (zMeet (R, C, rk, sn, sk, cn, cd) P v) P i) i d))) (m := 1) (ykc_261 (e := (2, .iload_n kF1, 0)) rfl) rfl rfl ?_
                  refine w_zne (ykc_261 (e := (4, .ifCond .ne 8, 76)) rfl) rfl (fun b949 => ?_) (fun b949 => ?_)
                  · refine w_load (pc' := 78) (v := .int c) (m := 2) (ykc_261 (e := (2, .iload 4, 0)) rfl) rfl rfl ?_
                    refine w_store (pc' := 80) (L' := [some (.ref 170), some (.int (zn (zXi (zMeet (R, C, rk, sn, sk, cn, cd) P v) (zXo (zMeet (R, C, rk, sn, sk, cn, cd) P v) P i) i d))), some (.int a), some (.int (zn i)), some (.int c), some (.int (zn i)), some (.int (zn (i + 1 + d)))]) (st' := []) (m := 2) (ykc_261 (e := (3, .istore 4, 0)) rfl) rfl rfl ?_
                    have e950 : (zn (zXi (zMeet (R, C, rk, sn, sk, cn, cd) P v) (zXo (zMeet (R, C, rk, sn, sk, cn, cd) P v) P i) i d)) + Int32.ofInt 1 = zn (zXi (zMeet (R, C, rk, sn, sk, cn, cd) P v) (zXo (zMeet (R, C, rk, sn, sk, cn, cd) P v) P i) i d + 1) := (zaddN (a := zXi (zMeet (R, C, rk, sn, sk, cn, cd) P v) (zXo (zMeet (R, C, rk, sn, sk, cn, cd) P v) P i) i d) (b := 1) (znt (by omega)) c_2 (by omega))
                    have te950 := znt (k := zXi (zMeet (R, C, rk, sn, sk, cn, cd) P v) (zXo (zMeet (R, C, rk, sn, sk, cn, cd) P v) P i) i d + 1) (by omega)
                    refine w_store (pc' := 83) (L' := [some (.ref 170), some (.int (zn (zXi (zMeet (R, C, rk, sn, sk, cn, cd) P v) (zXo (zMeet (R, C, rk, sn, sk, cn, cd) P v) P i) i d + 1))), some (.int a), some (.int (zn i)), some (.int c), some (.int (zn i)), some (.int (zn (i + 1 + d)))]) (st' := []) (m := 3) (ykc_261 (e := (3, .iinc 1 1, 0)) rfl) (by rw [← e950]; rfl) rfl ?_
                    refine w_load (pc' := 84) (v := .int a) (m := 1) (ykc_261 (e := (2, .iload_n kF2, 0)) rfl) rfl rfl ?_
                    refine w_load (pc' := 85) (v := .ref 170) (m := 1) (ykc_261 (e := (2, .aload_n kF0, 0)) rfl) rfl rfl ?_
                    refine w_load (pc' := 86) (v := .ref 170) (m := 1) (ykc_261 (e := (2, .aload_n kF0, 0)) rfl) rfl rfl ?_
                    refine w_gf (pc' := 89) (v := .ref 174) (ykc_261 (e := (5, .getfield 41, 0)) rfl) rfl ((f925.1 170 11 (by decide) (by decide)).trans ((hf2.1 170 11 (by decide) (by decide)).trans ((u918.2.1 170 11 (fun q => absurd q.2 (by decide))).trans (zsg hS zs_170_11)))) rfl ?_
                    refine w_load (pc' := 91) (v := .int (zn i)) (m := 2) (ykc_261 (e := (2, .iload 5, 0)) rfl) rfl rfl ?_
                    refine w_load (pc' := 93) (v := .int (zn (i + 1 + d))) (m := 2) (ykc_261 (e := (2, .iload 6, 0)) rfl) rfl rfl ?_
                    refine w_cv (as := [.ref 170, .ref 174, .int (zn i), .int (zn (i + 1 + d))]) (r := [.int a]) (ykc_261 (e := (6, .invokevirtual 344, 0)) rfl) rfl rfl rfl rfl (zm_tell (zSc_S (zFr_trans hf2 f925) hS1) (zSc_e (zFr_trans hf2 f925) hE1) (zSc_p (zFr_trans hf2 f925) hN1) (zSc_a (zFr_trans hf2 f925) (⟨hA, hv1⟩ : ((174 : Nat) = 174 ∨ (174 : Nat) = 175) ∧ zNr ph919 174 0 v)).1 (zSc_a (zFr_trans hf2 f925) (⟨hA, hv1⟩ : ((174 : Nat) = 174 ∨ (174 : Nat) = 175) ∧ zNr ph919 174 0 v)).2 hO0 (a := i) (b := i + 1 + d) (by omega) (by omega)) (fun v952 ph953 hv => ?_)
                    obtain ⟨f951, rfl⟩ := hv
                    show zW n2 D 261 Q 96 [some (.ref 170), some (.int (zn (zXi (zMeet (R, C, rk, sn, sk, cn, cd) P v) (zXo (zMeet (R, C, rk, sn, sk, cn, cd) P v) P i) i d + 1))), some (.int a), some (.int (zn i)), some (.int c), some (.int (zn i)), some (.int (zn (i + 1 + d)))] [.int (zI (zTell (R, C, rk, sn, sk, cn, cd) P v i (i + 1 + d))), .int a] ph953
                    refine w_cs (as := [.int (zI (zTell (R, C, rk, sn, sk, cn, cd) P v i (i + 1 + d)))]) (r := [.int a]) (ykc_261 (e := (6, .invokestatic 154, 0)) rfl) rfl rfl rfl rfl (zm_flag (b := (zTell (R, C, rk, sn, sk, cn, cd) P v i (i + 1 + d)))) (fun v954 ph955 hv => ?_)
                    obtain ⟨rfl, rfl⟩ := hv
                    have cI1 : (zI true).toInt = 1 := rfl
                    have cI0 : (zI false).toInt = 0 := rfl
                    show zW n2 D 261 Q 99 [some (.ref 170), some (.int (zn (zXi (zMeet (R, C, rk, sn, sk, cn, cd) P v) (zXo (zMeet (R, C, rk, sn, sk, cn, cd) P v) P i) i d + 1))), some (.int a), some (.int (zn i)), some (.int c), some (.int (zn i)), some (.int (zn (i + 1 + d)))] [.int (zI (zTell (R, C, rk, sn, sk, cn, cd) P v i (i + 1 + d))), .int a] ph953
                    refine w_alu (pc' := 100) (st' := [.int (a + (zI (zTell (R, C, rk, sn, sk, cn, cd) P v i (i + 1 + d))))]) (ykc_261 (e := (0, .iadd, 0)) rfl) rfl rfl ?_
                    refine w_store (pc' := 101) (L' := [some (.ref 170), some (.int (zn (zXi (zMeet (R, C, rk, sn, sk, cn, cd) P v) (zXo (zMeet (R, C, rk, sn, sk, cn, cd) P v) P i) i d + 1))), some (.int (a + (zI (zTell (R, C, rk, sn, sk, cn, cd) P v i (i + 1 + d))))), some (.int (zn i)), some (.int c), some (.int (zn i)), some (.int (zn (i + 1 + d)))]) (st' := []) (m := 1) (ykc_261 (e := (3, .istore_n kF2, 0)) rfl) rfl rfl ?_
                    have e956 : (zn (i + 1 + d)) + Int32.ofInt 1 = zn (i + 1 + d + 1) := (zaddN (a := i + 1 + d) (b := 1) (znt (by omega)) c_2 (by omega))
                    have te956 := znt (k := i + 1 + d + 1) (by omega)
                    refine w_store (pc' := 104) (L' := [some (.ref 170), some (.int (zn (zXi (zMeet (R, C, rk, sn, sk, cn, cd) P v) (zXo (zMeet (R, C, rk, sn, sk, cn, cd) P v) P i) i d + 1))), some (.int (a + (zI (zTell (R, C, rk, sn, sk, cn, cd) P v i (i + 1 + d))))), some (.int (zn i)), some (.int c), some (.int (zn i)), some (.int (zn (i + 1 + d + 1)))]) (st' := []) (m := 3) (ykc_261 (e := (3, .iinc 6 1, 0)) rfl) (by rw [← e956]; rfl) rfl ?_
                    refine w_gb (ykc_261 (e := (4, .goto (-72), 32)) rfl) (fun k957 hk957 => ?_)
                    have et : zXi (zMeet (R, C, rk, sn, sk, cn, cd) P v) (zXo (zMeet (R, C, rk, sn, sk, cn, cd) P v) P i) i (d + 1) = zXi (zMeet (R, C, rk, sn, sk, cn, cd) P v) (zXo (zMeet (R, C, rk, sn, sk, cn, cd) P v) P i) i d + 1 := by
                      show zXi (zMeet (R, C, rk, sn, sk, cn, cd) P v) (zXo (zMeet (R, C, rk, sn, sk, cn, cd) P v) P i) i d + (bif zMeet (R, C, rk, sn, sk, cn, cd) P v i (i + 1 + d) then 1 else 0) = _
                      rw [b928]
                      rfl
                    have h9 := ih k957 hk957 (by omega) (d + 1) (a + (zI (zTell (R, C, rk, sn, sk, cn, cd) P v i (i + 1 + d)))) (zn i) c _ (by omega) (zFr_trans (zFr_trans hf2 f925) f951)
                    rw [et] at h9
                    exact h9
                  · refine w_load (pc' := 73) (v := .int (zn (i + 1 + d))) (m := 2) (ykc_261 (e := (2, .iload 6, 0)) rfl) rfl rfl ?_
                    refine w_br (pc' := 78) (st' := [.int (zn (i + 1 + d))]) (ykc_261 (e := (4, .goto 5, 78)) rfl) rfl ?_
                    refine w_store (pc' := 80) (L' := [some (.ref 170), some (.int (zn (zXi (zMeet (R, C, rk, sn, sk, cn, cd) P v) (zXo (zMeet (R, C, rk, sn, sk, cn, cd) P v) P i) i d))), some (.int a), some (.int (zn i)), some (.int (zn (i + 1 + d))), some (.int (zn i)), some (.int (zn (i + 1 + d)))]) (st' := []) (m := 2) (ykc_261 (e := (3, .istore 4, 0)) rfl) rfl rfl ?_
                    have e958 : (zn (zXi (zMeet (R, C, rk, sn, sk, cn, cd) P v) (zXo (zMeet (R, C, rk, sn, sk, cn, cd) P v) P i) i d)) + Int32.ofInt 1 = zn (zXi (zMeet (R, C, rk, sn, sk, cn, cd) P v) (zXo (zMeet (R, C, rk, sn, sk, cn, cd) P v) P i) i d + 1) := (zaddN (a := zXi (zMeet (R, C, rk, sn, sk, cn, cd) P v) (zXo (zMeet (R, C, rk, sn, sk, cn, cd) P v) P i) i d) (b := 1) (znt (by omega)) c_2 (by omega))
                    have te958 := znt (k := zXi (zMeet (R, C, rk, sn, sk, cn, cd) P v) (zXo (zMeet (R, C, rk, sn, sk, cn, cd) P v) P i) i d + 1) (by omega)
                    refine w_store (pc' := 83) (L' := [some (.ref 170), some (.int (zn (zXi (zMeet (R, C, rk, sn, sk, cn, cd) P v) (zXo (zMeet (R, C, rk, sn, sk, cn, cd) P v) P i) i d + 1))), some (.int a), some (.int (zn i)), some (.int (zn (i + 1 + d))), some (.int (zn i)), some (.int (zn (i + 1 + d)))]) (st' := []) (m := 3) (ykc_261 (e := (3, .iinc 1 1, 0)) rfl) (by rw [← e958]; rfl) rfl ?_
                    refine w_load (pc' := 84) (v := .int a) (m := 1) (ykc_261 (e := (2, .iload_n kF2, 0)) rfl) rfl rfl ?_
                    refine w_load (pc' := 85) (v := .ref 170) (m := 1) (ykc_261 (e := (2, .aload_n kF0, 0)) rfl) rfl rfl ?_
                    refine w_load (pc' := 86) (v := .ref 170) (m := 1) (ykc_261 (e := (2, .aload_n kF0, 0)) rfl) rfl rfl ?_
                    refine w_gf (pc' := 89) (v := .ref 174) (ykc_261 (e := (5, .getfield 41, 0)) rfl) rfl ((f925.1 170 11 (by decide) (by decide)).trans ((hf2.1 170 11 (by decide) (by decide)).trans ((u918.2.1 170 11 (fun q => absurd q.2 (by decide))).trans (zsg hS zs_170_11)))) rfl ?_
                    refine w_load (pc' := 91) (v := .int (zn i)) (m := 2) (ykc_261 (e := (2, .iload 5, 0)) rfl) rfl rfl ?_
                    refine w_load (pc' := 93) (v := .int (zn (i + 1 + d))) (m := 2) (ykc_261 (e := (2, .iload 6, 0)) rfl) rfl rfl ?_
                    refine w_cv (as := [.ref 170, .ref 174, .int (zn i), .int (zn (i + 1 + d))]) (r := [.int a]) (ykc_261 (e := (6, .invokevirtual 344, 0)) rfl) rfl rfl rfl rfl (zm_tell (zSc_S (zFr_trans hf2 f925) hS1) (zSc_e (zFr_trans hf2 f925) hE1) (zSc_p (zFr_trans hf2 f925) hN1) (zSc_a (zFr_trans hf2 f925) (⟨hA, hv1⟩ : ((174 : Nat) = 174 ∨ (174 : Nat) = 175) ∧ zNr ph919 174 0 v)).1 (zSc_a (zFr_trans hf2 f925) (⟨hA, hv1⟩ : ((174 : Nat) = 174 ∨ (174 : Nat) = 175) ∧ zNr ph919 174 0 v)).2 hO0 (a := i) (b := i + 1 + d) (by omega) (by omega)) (fun v960 ph961 hv => ?_)
                    obtain ⟨f959, rfl⟩ := hv
                    show zW n2 D 261 Q 96 [some (.ref 170), some (.int (zn (zXi (zMeet (R, C, rk, sn, sk, cn, cd) P v) (zXo (zMeet (R, C, rk, sn, sk, cn, cd) P v) P i) i d + 1))), some (.int a), some (.int (zn i)), some (.int (zn (i + 1 + d))), some (.int (zn i)), some (.int (zn (i + 1 + d)))] [.int (zI (zTell (R, C, rk, sn, sk, cn, cd) P v i (i + 1 + d))), .int a] ph961
                    refine w_cs (as := [.int (zI (zTell (R, C, rk, sn, sk, cn, cd) P v i (i + 1 + d)))]) (r := [.int a]) (ykc_261 (e := (6, .invokestatic 154, 0)) rfl) rfl rfl rfl rfl (zm_flag (b := (zTell (R, C, rk, sn, sk, cn, cd) P v i (i + 1 + d)))) (fun v962 ph963 hv => ?_)
                    obtain ⟨rfl, rfl⟩ := hv
                    have cI1 : (zI true).toInt = 1 := rfl
                    have cI0 : (zI false).toInt = 0 := rfl
                    show zW n2 D 261 Q 99 [some (.ref 170), some (.int (zn (zXi (zMeet (R, C, rk, sn, sk, cn, cd) P v) (zXo (zMeet (R, C, rk, sn, sk, cn, cd) P v) P i) i d + 1))), some (.int a), some (.int (zn i)), some (.int (zn (i + 1 + d))), some (.int (zn i)), some (.int (zn (i + 1 + d)))] [.int (zI (zTell (R, C, rk, sn, sk, cn, cd) P v i (i + 1 + d))), .int a] ph961
                    refine w_alu (pc' := 100) (st' := [.int (a + (zI (zTell (R, C, rk, sn, sk, cn, cd) P v i (i + 1 + d))))]) (ykc_261 (e := (0, .iadd, 0)) rfl) rfl rfl ?_
                    refine w_store (pc' := 101) (L' := [some (.ref 170), some (.int (zn (zXi (zMeet (R, C, rk, sn, sk, cn, cd) P v) (zXo (zMeet (R, C, rk, sn, sk, cn, cd) P v) P i) i d + 1))), some (.int (a + (zI (zTell (R, C, rk, sn, sk, cn, cd) P v i (i + 1 + d))))), some (.int (zn i)), some (.int (zn (i + 1 + d))), some (.int (zn i)), some (.int (zn (i + 1 + d)))]) (st' := []) (m := 1) (ykc_261 (e := (3, .istore_n kF2, 0)) rfl) rfl rfl ?_
                    have e964 : (zn (i + 1 + d)) + Int32.ofInt 1 = zn (i + 1 + d + 1) := (zaddN (a := i + 1 + d) (b := 1) (znt (by omega)) c_2 (by omega))
                    have te964 := znt (k := i + 1 + d + 1) (by omega)
                    refine w_store (pc' := 104) (L' := [some (.ref 170), some (.int (zn (zXi (zMeet (R, C, rk, sn, sk, cn, cd) P v) (zXo (zMeet (R, C, rk, sn, sk, cn, cd) P v) P i) i d + 1))), some (.int (a + (zI (zTell (R, C, rk, sn, sk, cn, cd) P v i (i + 1 + d))))), some (.int (zn i)), some (.int (zn (i + 1 + d))), some (.int (zn i)), some (.int (zn (i + 1 + d + 1)))]) (st' := []) (m := 3) (ykc_261 (e := (3, .iinc 6 1, 0)) rfl) (by rw [← e964]; rfl) rfl ?_
                    refine w_gb (ykc_261 (e := (4, .goto (-72), 32)) rfl) (fun k965 hk965 => ?_)
                    have et : zXi (zMeet (R, C, rk, sn, sk, cn, cd) P v) (zXo (zMeet (R, C, rk, sn, sk, cn, cd) P v) P i) i (d + 1) = zXi (zMeet (R, C, rk, sn, sk, cn, cd) P v) (zXo (zMeet (R, C, rk, sn, sk, cn, cd) P v) P i) i d + 1 := by
                      show zXi (zMeet (R, C, rk, sn, sk, cn, cd) P v) (zXo (zMeet (R, C, rk, sn, sk, cn, cd) P v) P i) i d + (bif zMeet (R, C, rk, sn, sk, cn, cd) P v i (i + 1 + d) then 1 else 0) = _
                      rw [b928]
                      rfl
                    have h9 := ih k965 hk965 (by omega) (d + 1) (a + (zI (zTell (R, C, rk, sn, sk, cn, cd) P v i (i + 1 + d)))) (zn i) (zn (i + 1 + d)) _ (by omega) (zFr_trans (zFr_trans hf2 f925) f959)
                    rw [et] at h9
                    exact h9
        exact hj n (Nat.le_refl _) 0 _ _ _ _ (Nat.zero_le _) hf1
  exact hl n 0 _ _ _ _ _ (Nat.zero_le _) zFr_refl
def zXw (f : Nat → Int32) : Nat → Nat
  | 0 => 0
  | k + 1 => if (f (zXw f k)).toInt < (f (k + 1)).toInt then k + 1 else zXw f k
theorem zXw_le {f : Nat → Int32} {k : Nat} : zXw f k ≤ k := by
  induction k with
  | zero => exact Nat.le_refl _
  | succ k ih =>
    show (if (f (zXw f k)).toInt < (f (k + 1)).toInt then k + 1 else zXw f k) ≤ k + 1
    by_cases h : (f (zXw f k)).toInt < (f (k + 1)).toInt
    · rw [if_pos h]; exact Nat.le_refl _
    · rw [if_neg h]; omega
def zXwid (E : zEn) (P : Nat) (v : Nat → Nat) : Int32 := if P = 0 then (Int8.ofInt (-2)).toInt32 else zn (zXw (fun i => zpcl (zVw E P v i)) (P - 1))
theorem zXwid_n {E : zEn} {P : Nat} {v : Nat → Nat} (h : P = 0) : (some (.int (Int8.ofInt (-2)).toInt32) : Option Value) = some (.int (zXwid E P v)) := by
  unfold zXwid
  rw [if_pos h]
theorem zXwid_p {E : zEn} {P k : Nat} {v : Nat → Nat} (h : P = k + 1) : (some (.int (zn (zXw (fun i => zpcl (zVw E P v i)) k))) : Option Value) = some (.int (zXwid E P v)) := by
  unfold zXwid
  rw [if_neg (by omega), show P - 1 = k by omega]
theorem zc_widX {ph : pm_H} {E : zEn} {F P G : Nat} {v : Nat → Nat} (hS : zSh ph) (hE : zCe ph E F) (ht : zCt ph 25 P G v) (hO : zOk E.1 E.2.1 P G v) (hr : zc ph 10 1 = some (.ref F)) (hc : zCc ph E.1 E.2.1 E.2.2.1) : zM 152 [.ref 0] ph (fun v0 _ => v0 = some (.int (zXwid E P v))) := by
  obtain ⟨Q, hQ⟩ : ∃ Q : Option Value → pm_H → Prop, Q = (fun v0 _ => v0 = some (.int (zXwid E P v))) := ⟨_, rfl⟩
  rw [← hQ]
  refine zM_mk fun n D => ?_
  show zW n D 152 Q 0 [some (.ref 0), none, none, none, none] [] ph
  have c_0 : ((Int8.ofInt (-2)).toInt32).toInt = -2 := by decide
  have c_1 : (Int32.ofInt 0).toInt = 0 := by decide
  have c_2 : (Int32.ofInt 1).toInt = 1 := by decide
  obtain ⟨R, C, rk, sn, sk, cn, cd⟩ := E
  have hL0 : zCl ph R C rk := hE.1
  have hi0 : zCi ph sn sk := hE.2.1
  have hF : F = 11 ∨ F = 16 := hE.2.2.2
  have hE0 : zCe ph (R, C, rk, sn, sk, cn, cd) F := hE
  have hO0 : zOk R C P G v := hO
  have hL := hL0
  have hs := ht.1.2
  have hd := ht.2
  have h25 := ht.1.1
  obtain ⟨gR, gC, gN, gK, gA, hR3, hR7, hC3, hC7⟩ := hL
  have hRC := zRC49 hR7 hC7
  have tR := znt (k := R) (by omega)
  have tC := znt (k := C) (by omega)
  have tRC := znt (k := R * C) (by omega)
  have hd0 := hd
  have hs0 := hs
  obtain ⟨r3, r4, r5, r6, r7, l1, l2, l3, l4, l5⟩ := hs
  obtain ⟨gP, hP8, gG, hG8, gH, gv, gw⟩ := hd
  have tP := znt (k := P) (by omega)
  have tG := znt (k := G) (by omega)
  have h40 := hO0.2.2
  have t40 := znt (k := v 40) (by omega)
  have hc0 := hc
  refine w_load (pc' := 1) (v := .ref 0) (m := 1) (ykc_152 (e := (2, .aload_n kF0, 0)) rfl) rfl rfl ?_
  refine w_gf (pc' := 4) (v := .ref 25) (ykc_152 (e := (5, .getfield 42, 0)) rfl) rfl (zsg hS zs_0_4) rfl ?_
  refine w_gf (pc' := 7) (v := .int (zn P)) (ykc_152 (e := (5, .getfield 130, 0)) rfl) rfl gP rfl ?_
  refine w_zne (ykc_152 (e := (4, .ifCond .ne 6, 13)) rfl) rfl (fun b966 => ?_) (fun b966 => ?_)
  · refine w_load (pc' := 14) (v := .ref 0) (m := 1) (ykc_152 (e := (2, .aload_n kF0, 0)) rfl) rfl rfl ?_
    refine w_gf (pc' := 17) (v := .ref 10) (ykc_152 (e := (5, .getfield 35, 0)) rfl) rfl (zsg hS zs_0_3) rfl ?_
    refine w_load (pc' := 18) (v := .ref 0) (m := 1) (ykc_152 (e := (2, .aload_n kF0, 0)) rfl) rfl rfl ?_
    refine w_gf (pc' := 21) (v := .ref 25) (ykc_152 (e := (5, .getfield 42, 0)) rfl) rfl (zsg hS zs_0_4) rfl ?_
    refine w_cv (as := [.ref 10, .ref 25]) (r := []) (ykc_152 (e := (6, .invokevirtual 208, 0)) rfl) rfl rfl rfl rfl (zc_lookR hS hE0 ht hO0 hr hc0) (fun v969 ph970 hv => ?_)
    obtain ⟨f967, hc968, hvw, rfl⟩ := hv
    show zW n D 152 Q 24 [some (.ref 0), none, none, none, none] [.long (zAll (R, C, rk, sn, sk, cn, cd) P v)] ph970
    refine w_alu (pc' := 25) (st' := []) (ykc_152 (e := (0, .pop2, 0)) rfl) rfl rfl ?_
    refine w_alu (pc' := 26) (st' := [.int (Int32.ofInt 0)]) (ykc_152 (e := (0, .iconst 0, 0)) rfl) rfl rfl ?_
    refine w_store (pc' := 27) (L' := [some (.ref 0), some (.int (Int32.ofInt 0)), none, none, none]) (st' := []) (m := 1) (ykc_152 (e := (3, .istore_n kF1, 0)) rfl) rfl rfl ?_
    refine w_alu (pc' := 28) (st' := [.int (Int32.ofInt 0)]) (ykc_152 (e := (0, .iconst 0, 0)) rfl) rfl rfl ?_
    refine w_store (pc' := 29) (L' := [some (.ref 0), some (.int (Int32.ofInt 0)), some (.int (Int32.ofInt 0)), none, none]) (st' := []) (m := 1) (ykc_152 (e := (3, .istore_n kF2, 0)) rfl) rfl rfl ?_
    refine w_alu (pc' := 30) (st' := [.int (Int32.ofInt 1)]) (ykc_152 (e := (0, .iconst 1, 0)) rfl) rfl rfl ?_
    refine w_store (pc' := 31) (L' := [some (.ref 0), some (.int (Int32.ofInt 0)), some (.int (Int32.ofInt 0)), some (.int (Int32.ofInt 1)), none]) (st' := []) (m := 1) (ykc_152 (e := (3, .istore_n kF3, 0)) rfl) rfl rfl ?_
    have hP0 : 0 < P := by omega
    have hl : ∀ (n : Nat), ∀ (k m : Nat) (o4 : Option Value), (k + 1 ≤ P) → (m < P) → zW n D 152 Q 31 [some (.ref 0), some (.int (zn (zXw (fun i => zpcl (zVw (R, C, rk, sn, sk, cn, cd) P v i)) k))), some (.int (zn m)), some (.int (zn (k + 1))), o4] [] ph970 := by
      intro n
      induction n using Nat.strongRecOn with
      | ind n ih =>
        intro k m o4 hk hm
        have tk := znt (k := k + 1) (by omega)
        have tm := znt (k := m) (by omega)
        have lw := @zXw_le (fun i => zpcl (zVw (R, C, rk, sn, sk, cn, cd) P v i)) k
        have tw := znt (k := zXw (fun i => zpcl (zVw (R, C, rk, sn, sk, cn, cd) P v i)) k) (by omega)
        refine w_load (pc' := 32) (v := .int (zn (k + 1))) (m := 1) (ykc_152 (e := (2, .iload_n kF3, 0)) rfl) rfl rfl ?_
        refine w_load (pc' := 33) (v := .ref 0) (m := 1) (ykc_152 (e := (2, .aload_n kF0, 0)) rfl) rfl rfl ?_
        refine w_gf (pc' := 36) (v := .ref 25) (ykc_152 (e := (5, .getfield 42, 0)) rfl) rfl ((f967.1 0 4 (by decide) (by decide)).trans (zsg hS zs_0_4)) rfl ?_
        refine w_gf (pc' := 39) (v := .int (zn P)) (ykc_152 (e := (5, .getfield 130, 0)) rfl) rfl ((f967.1 25 0 (by decide) (by decide)).trans gP) rfl ?_
        refine w_ige (ykc_152 (e := (4, .if_icmp .ge 58, 97)) rfl) rfl (fun b971 => ?_) (fun b971 => ?_)
        · rw [hQ]
          exact zTail kc_152 false 1 97 9999 (fun _ => rfl) (Or.inl ⟨_, rfl⟩) (by decide +kernel) (by decide) (by decide) rfl (by decide +kernel) (fun _ => zXwid_p (E := (R, C, rk, sn, sk, cn, cd)) (show P = k + 1 by omega))
        · refine w_load (pc' := 43) (v := .ref 0) (m := 1) (ykc_152 (e := (2, .aload_n kF0, 0)) rfl) rfl rfl ?_
          refine w_gf (pc' := 46) (v := .ref 10) (ykc_152 (e := (5, .getfield 35, 0)) rfl) rfl ((f967.1 0 3 (by decide) (by decide)).trans (zsg hS zs_0_3)) rfl ?_
          refine w_load (pc' := 47) (v := .int (zn (k + 1))) (m := 1) (ykc_152 (e := (2, .iload_n kF3, 0)) rfl) rfl rfl ?_
          refine w_cv (as := [.ref 10, .int (zn (k + 1))]) (r := []) (ykc_152 (e := (6, .invokevirtual 328, 0)) rfl) rfl rfl rfl rfl (zc_viewAt (zCx_S f967 hS) (zCx_e f967 hE0) (zCx_t f967 ht) hO0 hvw (p := k + 1) (by omega)) (fun v972 ph973 hv => ?_)
          obtain ⟨rfl, rfl⟩ := hv
          show zW n D 152 Q 50 [some (.ref 0), some (.int (zn (zXw (fun i => zpcl (zVw (R, C, rk, sn, sk, cn, cd) P v i)) k))), some (.int (zn m)), some (.int (zn (k + 1))), o4] [.long (zVw (R, C, rk, sn, sk, cn, cd) P v (k + 1))] ph970
          refine w_cs (as := [.long (zVw (R, C, rk, sn, sk, cn, cd) P v (k + 1))]) (r := []) (ykc_152 (e := (6, .invokestatic 305, 0)) rfl) rfl rfl rfl rfl (zj_pcl (x := zVw (R, C, rk, sn, sk, cn, cd) P v (k + 1))) (fun v974 ph975 hv => ?_)
          obtain ⟨rfl, rfl⟩ := hv
          show zW n D 152 Q 53 [some (.ref 0), some (.int (zn (zXw (fun i => zpcl (zVw (R, C, rk, sn, sk, cn, cd) P v i)) k))), some (.int (zn m)), some (.int (zn (k + 1))), o4] [.int (zpcl (zVw (R, C, rk, sn, sk, cn, cd) P v (k + 1)))] ph970
          refine w_store (pc' := 55) (L' := [some (.ref 0), some (.int (zn (zXw (fun i => zpcl (zVw (R, C, rk, sn, sk, cn, cd) P v i)) k))), some (.int (zn m)), some (.int (zn (k + 1))), some (.int (zpcl (zVw (R, C, rk, sn, sk, cn, cd) P v (k + 1))))]) (st' := []) (m := 2) (ykc_152 (e := (3, .istore 4, 0)) rfl) rfl rfl ?_
          refine w_load (pc' := 57) (v := .int (zpcl (zVw (R, C, rk, sn, sk, cn, cd) P v (k + 1)))) (m := 2) (ykc_152 (e := (2, .iload 4, 0)) rfl) rfl rfl ?_
          refine w_load (pc' := 58) (v := .ref 0) (m := 1) (ykc_152 (e := (2, .aload_n kF0, 0)) rfl) rfl rfl ?_
          refine w_gf (pc' := 61) (v := .ref 10) (ykc_152 (e := (5, .getfield 35, 0)) rfl) rfl ((f967.1 0 3 (by decide) (by decide)).trans (zsg hS zs_0_3)) rfl ?_
          refine w_load (pc' := 62) (v := .int (zn (zXw (fun i => zpcl (zVw (R, C, rk, sn, sk, cn, cd) P v i)) k))) (m := 1) (ykc_152 (e := (2, .iload_n kF1, 0)) rfl) rfl rfl ?_
          refine w_cv (as := [.ref 10, .int (zn (zXw (fun i => zpcl (zVw (R, C, rk, sn, sk, cn, cd) P v i)) k))]) (r := [.int (zpcl (zVw (R, C, rk, sn, sk, cn, cd) P v (k + 1)))]) (ykc_152 (e := (6, .invokevirtual 328, 0)) rfl) rfl rfl rfl rfl (zc_viewAt (zCx_S f967 hS) (zCx_e f967 hE0) (zCx_t f967 ht) hO0 hvw (p := zXw (fun i => zpcl (zVw (R, C, rk, sn, sk, cn, cd) P v i)) k) (by omega)) (fun v976 ph977 hv => ?_)
          obtain ⟨rfl, rfl⟩ := hv
          show zW n D 152 Q 65 [some (.ref 0), some (.int (zn (zXw (fun i => zpcl (zVw (R, C, rk, sn, sk, cn, cd) P v i)) k))), some (.int (zn m)), some (.int (zn (k + 1))), some (.int (zpcl (zVw (R, C, rk, sn, sk, cn, cd) P v (k + 1))))] [.long (zVw (R, C, rk, sn, sk, cn, cd) P v (zXw (fun i => zpcl (zVw (R, C, rk, sn, sk, cn, cd) P v i)) k)), .int (zpcl (zVw (R, C, rk, sn, sk, cn, cd) P v (k + 1)))] ph970
          refine w_cs (as := [.long (zVw (R, C, rk, sn, sk, cn, cd) P v (zXw (fun i => zpcl (zVw (R, C, rk, sn, sk, cn, cd) P v i)) k))]) (r := [.int (zpcl (zVw (R, C, rk, sn, sk, cn, cd) P v (k + 1)))]) (ykc_152 (e := (6, .invokestatic 305, 0)) rfl) rfl rfl rfl rfl (zj_pcl (x := zVw (R, C, rk, sn, sk, cn, cd) P v (zXw (fun i => zpcl (zVw (R, C, rk, sn, sk, cn, cd) P v i)) k))) (fun v978 ph979 hv => ?_)
          obtain ⟨rfl, rfl⟩ := hv
          show zW n D 152 Q 68 [some (.ref 0), some (.int (zn (zXw (fun i => zpcl (zVw (R, C, rk, sn, sk, cn, cd) P v i)) k))), some (.int (zn m)), some (.int (zn (k + 1))), some (.int (zpcl (zVw (R, C, rk, sn, sk, cn, cd) P v (k + 1))))] [.int (zpcl (zVw (R, C, rk, sn, sk, cn, cd) P v (zXw (fun i => zpcl (zVw (R, C, rk, sn, sk, cn, cd) P v i)) k))), .int (zpcl (zVw (R, C, rk, sn, sk, cn, cd) P v (k + 1)))] ph970
          refine w_ile (ykc_152 (e := (4, .if_icmp .le 5, 73)) rfl) rfl (fun b980 => ?_) (fun b980 => ?_)
          · refine w_load (pc' := 75) (v := .int (zpcl (zVw (R, C, rk, sn, sk, cn, cd) P v (k + 1)))) (m := 2) (ykc_152 (e := (2, .iload 4, 0)) rfl) rfl rfl ?_
            refine w_load (pc' := 76) (v := .ref 0) (m := 1) (ykc_152 (e := (2, .aload_n kF0, 0)) rfl) rfl rfl ?_
            refine w_gf (pc' := 79) (v := .ref 10) (ykc_152 (e := (5, .getfield 35, 0)) rfl) rfl ((f967.1 0 3 (by decide) (by decide)).trans (zsg hS zs_0_3)) rfl ?_
            refine w_load (pc' := 80) (v := .int (zn m)) (m := 1) (ykc_152 (e := (2, .iload_n kF2, 0)) rfl) rfl rfl ?_
            refine w_cv (as := [.ref 10, .int (zn m)]) (r := [.int (zpcl (zVw (R, C, rk, sn, sk, cn, cd) P v (k + 1)))]) (ykc_152 (e := (6, .invokevirtual 328, 0)) rfl) rfl rfl rfl rfl (zc_viewAt (zCx_S f967 hS) (zCx_e f967 hE0) (zCx_t f967 ht) hO0 hvw (p := m) (by omega)) (fun v981 ph982 hv => ?_)
            obtain ⟨rfl, rfl⟩ := hv
            show zW n D 152 Q 83 [some (.ref 0), some (.int (zn (zXw (fun i => zpcl (zVw (R, C, rk, sn, sk, cn, cd) P v i)) k))), some (.int (zn m)), some (.int (zn (k + 1))), some (.int (zpcl (zVw (R, C, rk, sn, sk, cn, cd) P v (k + 1))))] [.long (zVw (R, C, rk, sn, sk, cn, cd) P v m), .int (zpcl (zVw (R, C, rk, sn, sk, cn, cd) P v (k + 1)))] ph970
            refine w_cs (as := [.long (zVw (R, C, rk, sn, sk, cn, cd) P v m)]) (r := [.int (zpcl (zVw (R, C, rk, sn, sk, cn, cd) P v (k + 1)))]) (ykc_152 (e := (6, .invokestatic 305, 0)) rfl) rfl rfl rfl rfl (zj_pcl (x := zVw (R, C, rk, sn, sk, cn, cd) P v m)) (fun v983 ph984 hv => ?_)
            obtain ⟨rfl, rfl⟩ := hv
            show zW n D 152 Q 86 [some (.ref 0), some (.int (zn (zXw (fun i => zpcl (zVw (R, C, rk, sn, sk, cn, cd) P v i)) k))), some (.int (zn m)), some (.int (zn (k + 1))), some (.int (zpcl (zVw (R, C, rk, sn, sk, cn, cd) P v (k + 1))))] [.int (zpcl (zVw (R, C, rk, sn, sk, cn, cd) P v m)), .int (zpcl (zVw (R, C, rk, sn, sk, cn, cd) P v (k + 1)))] ph970
            refine w_ige (ykc_152 (e := (4, .if_icmp .ge 5, 91)) rfl) rfl (fun b985 => ?_) (fun b985 => ?_)
            · have e986 : (zn (k + 1)) + Int32.ofInt 1 = zn (k + 1 + 1) := (zaddN (a := k + 1) (b := 1) (znt (by omega)) c_2 (by omega))
              have te986 := znt (k := k + 1 + 1) (by omega)
              refine w_store (pc' := 94) (L' := [some (.ref 0), some (.int (zn (zXw (fun i => zpcl (zVw (R, C, rk, sn, sk, cn, cd) P v i)) k))), some (.int (zn m)), some (.int (zn (k + 1 + 1))), some (.int (zpcl (zVw (R, C, rk, sn, sk, cn, cd) P v (k + 1))))]) (st' := []) (m := 3) (ykc_152 (e := (3, .iinc 3 1, 0)) rfl) (by rw [← e986]; rfl) rfl ?_
              refine w_gb (ykc_152 (e := (4, .goto (-63), 31)) rfl) (fun k987 hk987 => ?_)
              have et : zXw (fun i => zpcl (zVw (R, C, rk, sn, sk, cn, cd) P v i)) (k + 1) = zXw (fun i => zpcl (zVw (R, C, rk, sn, sk, cn, cd) P v i)) k := by
                show (if (zpcl (zVw (R, C, rk, sn, sk, cn, cd) P v (zXw (fun i => zpcl (zVw (R, C, rk, sn, sk, cn, cd) P v i)) k))).toInt < (zpcl (zVw (R, C, rk, sn, sk, cn, cd) P v (k + 1))).toInt then k + 1 else zXw (fun i => zpcl (zVw (R, C, rk, sn, sk, cn, cd) P v i)) k) = _
                rw [if_neg (by omega)]
              have h9 := ih k987 hk987 (k + 1) m (some (.int (zpcl (zVw (R, C, rk, sn, sk, cn, cd) P v (k + 1))))) (by omega) (by omega)
              rw [et] at h9
              exact h9
            · refine w_load (pc' := 90) (v := .int (zn (k + 1))) (m := 1) (ykc_152 (e := (2, .iload_n kF3, 0)) rfl) rfl rfl ?_
              refine w_store (pc' := 91) (L' := [some (.ref 0), some (.int (zn (zXw (fun i => zpcl (zVw (R, C, rk, sn, sk, cn, cd) P v i)) k))), some (.int (zn (k + 1))), some (.int (zn (k + 1))), some (.int (zpcl (zVw (R, C, rk, sn, sk, cn, cd) P v (k + 1))))]) (st' := []) (m := 1) (ykc_152 (e := (3, .istore_n kF2, 0)) rfl) rfl rfl ?_
              have e988 : (zn (k + 1)) + Int32.ofInt 1 = zn (k + 1 + 1) := (zaddN (a := k + 1) (b := 1) (znt (by omega)) c_2 (by omega))
              have te988 := znt (k := k + 1 + 1) (by omega)
              refine w_store (pc' := 94) (L' := [some (.ref 0), some (.int (zn (zXw (fun i => zpcl (zVw (R, C, rk, sn, sk, cn, cd) P v i)) k))), some (.int (zn (k + 1))), some (.int (zn (k + 1 + 1))), some (.int (zpcl (zVw (R, C, rk, sn, sk, cn, cd) P v (k + 1))))]) (st' := []) (m := 3) (ykc_152 (e := (3, .iinc 3 1, 0)) rfl) (by rw [← e988]; rfl) rfl ?_
              refine w_gb (ykc_152 (e := (4, .goto (-63), 31)) rfl) (fun k989 hk989 => ?_)
              have et : zXw (fun i => zpcl (zVw (R, C, rk, sn, sk, cn, cd) P v i)) (k + 1) = zXw (fun i => zpcl (zVw (R, C, rk, sn, sk, cn, cd) P v i)) k := by
                show (if (zpcl (zVw (R, C, rk, sn, sk, cn, cd) P v (zXw (fun i => zpcl (zVw (R, C, rk, sn, sk, cn, cd) P v i)) k))).toInt < (zpcl (zVw (R, C, rk, sn, sk, cn, cd) P v (k + 1))).toInt then k + 1 else zXw (fun i => zpcl (zVw (R, C, rk, sn, sk, cn, cd) P v i)) k) = _
                rw [if_neg (by omega)]
              have h9 := ih k989 hk989 (k + 1) (k + 1) (some (.int (zpcl (zVw (R, C, rk, sn, sk, cn, cd) P v (k + 1))))) (by omega) (by omega)
              rw [et] at h9
              exact h9
          · refine w_load (pc' := 72) (v := .int (zn (k + 1))) (m := 1) (ykc_152 (e := (2, .iload_n kF3, 0)) rfl) rfl rfl ?_
            refine w_store (pc' := 73) (L' := [some (.ref 0), some (.int (zn (k + 1))), some (.int (zn m)), some (.int (zn (k + 1))), some (.int (zpcl (zVw (R, C, rk, sn, sk, cn, cd) P v (k + 1))))]) (st' := []) (m := 1) (ykc_152 (e := (3, .istore_n kF1, 0)) rfl) rfl rfl ?_
            refine w_load (pc' := 75) (v := .int (zpcl (zVw (R, C, rk, sn, sk, cn, cd) P v (k + 1)))) (m := 2) (ykc_152 (e := (2, .iload 4, 0)) rfl) rfl rfl ?_
            refine w_load (pc' := 76) (v := .ref 0) (m := 1) (ykc_152 (e := (2, .aload_n kF0, 0)) rfl) rfl rfl ?_
            refine w_gf (pc' := 79) (v := .ref 10) (ykc_152 (e := (5, .getfield 35, 0)) rfl) rfl ((f967.1 0 3 (by decide) (by decide)).trans (zsg hS zs_0_3)) rfl ?_
            refine w_load (pc' := 80) (v := .int (zn m)) (m := 1) (ykc_152 (e := (2, .iload_n kF2, 0)) rfl) rfl rfl ?_
            refine w_cv (as := [.ref 10, .int (zn m)]) (r := [.int (zpcl (zVw (R, C, rk, sn, sk, cn, cd) P v (k + 1)))]) (ykc_152 (e := (6, .invokevirtual 328, 0)) rfl) rfl rfl rfl rfl (zc_viewAt (zCx_S f967 hS) (zCx_e f967 hE0) (zCx_t f967 ht) hO0 hvw (p := m) (by omega)) (fun v990 ph991 hv => ?_)
            obtain ⟨rfl, rfl⟩ := hv
            show zW n D 152 Q 83 [some (.ref 0), some (.int (zn (k + 1))), some (.int (zn m)), some (.int (zn (k + 1))), some (.int (zpcl (zVw (R, C, rk, sn, sk, cn, cd) P v (k + 1))))] [.long (zVw (R, C, rk, sn, sk, cn, cd) P v m), .int (zpcl (zVw (R, C, rk, sn, sk, cn, cd) P v (k + 1)))] ph970
            refine w_cs (as := [.long (zVw (R, C, rk, sn, sk, cn, cd) P v m)]) (r := [.int (zpcl (zVw (R, C, rk, sn, sk, cn, cd) P v (k + 1)))]) (ykc_152 (e := (6, .invokestatic 305, 0)) rfl) rfl rfl rfl rfl (zj_pcl (x := zVw (R, C, rk, sn, sk, cn, cd) P v m)) (fun v992 ph993 hv => ?_)
            obtain ⟨rfl, rfl⟩ := hv
            show zW n D 152 Q 86 [some (.ref 0), some (.int (zn (k + 1))), some (.int (zn m)), some (.int (zn (k + 1))), some (.int (zpcl (zVw (R, C, rk, sn, sk, cn, cd) P v (k + 1))))] [.int (zpcl (zVw (R, C, rk, sn, sk, cn, cd) P v m)), .int (zpcl (zVw (R, C, rk, sn, sk, cn, cd) P v (k + 1)))] ph970
            refine w_ige (ykc_152 (e := (4, .if_icmp .ge 5, 91)) rfl) rfl (fun b994 => ?_) (fun b994 => ?_)
            · have e995 : (zn (k + 1)) + Int32.ofInt 1 = zn (k + 1 + 1) := (zaddN (a := k + 1) (b := 1) (znt (by omega)) c_2 (by omega))
              have te995 := znt (k := k + 1 + 1) (by omega)
              refine w_store (pc' := 94) (L' := [some (.ref 0), some (.int (zn (k + 1))), some (.int (zn m)), some (.int (zn (k + 1 + 1))), some (.int (zpcl (zVw (R, C, rk, sn, sk, cn, cd) P v (k + 1))))]) (st' := []) (m := 3) (ykc_152 (e := (3, .iinc 3 1, 0)) rfl) (by rw [← e995]; rfl) rfl ?_
              refine w_gb (ykc_152 (e := (4, .goto (-63), 31)) rfl) (fun k996 hk996 => ?_)
              have et : zXw (fun i => zpcl (zVw (R, C, rk, sn, sk, cn, cd) P v i)) (k + 1) = k + 1 := by
                show (if (zpcl (zVw (R, C, rk, sn, sk, cn, cd) P v (zXw (fun i => zpcl (zVw (R, C, rk, sn, sk, cn, cd) P v i)) k))).toInt < (zpcl (zVw (R, C, rk, sn, sk, cn, cd) P v (k + 1))).toInt then k + 1 else zXw (fun i => zpcl (zVw (R, C, rk, sn, sk, cn, cd) P v i)) k) = _
                rw [if_pos (by omega)]
              have h9 := ih k996 hk996 (k + 1) m (some (.int (zpcl (zVw (R, C, rk, sn, sk, cn, cd) P v (k + 1))))) (by omega) (by omega)
              rw [et] at h9
              exact h9
            · refine w_load (pc' := 90) (v := .int (zn (k + 1))) (m := 1) (ykc_152 (e := (2, .iload_n kF3, 0)) rfl) rfl rfl ?_
              refine w_store (pc' := 91) (L' := [some (.ref 0), some (.int (zn (k + 1))), some (.int (zn (k + 1))), some (.int (zn (k + 1))), some (.int (zpcl (zVw (R, C, rk, sn, sk, cn, cd) P v (k + 1))))]) (st' := []) (m := 1) (ykc_152 (e := (3, .istore_n kF2, 0)) rfl) rfl rfl ?_
              have e997 : (zn (k + 1)) + Int32.ofInt 1 = zn (k + 1 + 1) := (zaddN (a := k + 1) (b := 1) (znt (by omega)) c_2 (by omega))
              have te997 := znt (k := k + 1 + 1) (by omega)
              refine w_store (pc' := 94) (L' := [some (.ref 0), some (.int (zn (k + 1))), some (.int (zn (k + 1))), some (.int (zn (k + 1 + 1))), some (.int (zpcl (zVw (R, C, rk, sn, sk, cn, cd) P v (k + 1))))]) (st' := []) (m := 3) (ykc_152 (e := (3, .iinc 3 1, 0)) rfl) (by rw [← e997]; rfl) rfl ?_
              refine w_gb (ykc_152 (e := (4, .goto (-63), 31)) rfl) (fun k998 hk998 => ?_)
              have et : zXw (fun i => zpcl (zVw (R, C, rk, sn, sk, cn, cd) P v i)) (k + 1) = k + 1 := by
                show (if (zpcl (zVw (R, C, rk, sn, sk, cn, cd) P v (zXw (fun i => zpcl (zVw (R, C, rk, sn, sk, cn, cd) P v i)) k))).toInt < (zpcl (zVw (R, C, rk, sn, sk, cn, cd) P v (k + 1))).toInt then k + 1 else zXw (fun i => zpcl (zVw (R, C, rk, sn, sk, cn, cd) P v i)) k) = _
                rw [if_pos (by omega)]
              have h9 := ih k998 hk998 (k + 1) (k + 1) (some (.int (zpcl (zVw (R, C, rk, sn, sk, cn, cd) P v (k + 1))))) (by omega) (by omega)
              rw [et] at h9
              exact h9
    exact hl n 0 0 _ (by omega) (by omega)
  · refine w_push (pc' := 12) (v := .int ((Int8.ofInt (-2)).toInt32)) (m := 2) (ykc_152 (e := (1, .bipush (-2), 0)) rfl) rfl rfl ?_
    refine w_ret (v := (some (.int ((Int8.ofInt (-2)).toInt32)))) (ykc_152 (e := (7, .ireturn, 0)) rfl) (zr_v rfl) ?_
    rw [hQ]
    exact zXwid_n (show P = 0 by omega)
theorem zm_widX {ph : pm_H} {E : zEn} {P G : Nat} {v : Nat → Nat} (hS : zSh ph) (hE : zMe ph E) (hN : zMp ph P G) (hv : zNr ph 174 0 v) (hO : zOk E.1 E.2.1 P G v) : zM 263 [.ref 170] ph (fun v0 _ => v0 = some (.int (zXwid E P v))) := by
  obtain ⟨Q, hQ⟩ : ∃ Q : Option Value → pm_H → Prop, Q = (fun v0 _ => v0 = some (.int (zXwid E P v))) := ⟨_, rfl⟩
  rw [← hQ]
  refine zM_mk fun n D => ?_
  show zW n D 263 Q 0 [some (.ref 170), none, none, none, none] [] ph
  have c_0 : ((Int8.ofInt (-2)).toInt32).toInt = -2 := by decide
  have c_1 : (Int32.ofInt 0).toInt = 0 := by decide
  have c_2 : (Int32.ofInt 1).toInt = 1 := by decide
  have hA : (174 : Nat) = 174 ∨ (174 : Nat) = 175 := Or.inl rfl
  obtain ⟨R, C, rk, sn, sk, cn, cd⟩ := E
  have hL0 : zMl ph R C rk := hE.1
  have hR0 : zMr ph sn sk cn cd := hE.2.1
  have hcg : zcg cn cd := hE.2.2
  have hE0 : zMe ph (R, C, rk, sn, sk, cn, cd) := hE
  have hO0 : zOk R C P G v := hO
  have hN0 := hN
  have hL := hL0
  have hR := hR0
  obtain ⟨gR, gC, gK, hR3, hR7, hC3, hC7⟩ := hL
  have hRC := zRC49 hR7 hC7
  have tR := znt (k := R) (by omega)
  have tC := znt (k := C) (by omega)
  obtain ⟨gP, hP8, gG, hG8⟩ := hN
  have tP := znt (k := P) (by omega)
  have tG := znt (k := G) (by omega)
  obtain ⟨gsn, hs1, hs20, gsk, gcn, hc40, gcd⟩ := hR
  have tsn := znt (k := sn) (by omega)
  have tcn := znt (k := cn) (by omega)
  refine w_load (pc' := 1) (v := .ref 170) (m := 1) (ykc_263 (e := (2, .aload_n kF0, 0)) rfl) rfl rfl ?_
  refine w_alu (pc' := 2) (st' := [.int (Int32.ofInt 0), .ref 170]) (ykc_263 (e := (0, .iconst 0, 0)) rfl) rfl rfl ?_
  refine w_pf (pc' := 5) (ykc_263 (e := (5, .putfield 3, 0)) rfl) rfl rfl (fun ph1000 u999 => ?_)
  have f0 : zFr [] [(170, 0)] ph ph1000 := zFr_st u999 (Or.inr (by simp))
  have hS1 := zSh_st u999 (by decide +kernel) hS
  have hE1 : zMe ph1000 (R, C, rk, sn, sk, cn, cd) := ⟨zMl_F f0 (by simp) (by simp) (by simp) (by simp) hE0.1, zMr_F f0 (by simp) (by simp) (by simp) (by simp) hE0.2.1, hE0.2.2⟩
  have hN1 := zMp_F f0 (by simp) (by simp) (by simp) hN0
  have hv1 := zNr_F f0 (by simp) (by simp) hv
  have hL1 : zMl ph1000 R C rk := hE1.1
  have hR1 : zMr ph1000 sn sk cn cd := hE1.2.1
  refine w_load (pc' := 6) (v := .ref 170) (m := 1) (ykc_263 (e := (2, .aload_n kF0, 0)) rfl) rfl rfl ?_
  refine w_gf (pc' := 9) (v := .int (zn P)) (ykc_263 (e := (5, .getfield 130, 0)) rfl) rfl ((u999.2.1 170 5 (fun q => absurd q.2 (by decide))).trans gP) rfl ?_
  refine w_zne (ykc_263 (e := (4, .ifCond .ne 6, 15)) rfl) rfl (fun b1001 => ?_) (fun b1001 => ?_)
  · refine w_alu (pc' := 16) (st' := [.int (Int32.ofInt 0)]) (ykc_263 (e := (0, .iconst 0, 0)) rfl) rfl rfl ?_
    refine w_store (pc' := 17) (L' := [some (.ref 170), some (.int (Int32.ofInt 0)), none, none, none]) (st' := []) (m := 1) (ykc_263 (e := (3, .istore_n kF1, 0)) rfl) rfl rfl ?_
    refine w_alu (pc' := 18) (st' := [.int (Int32.ofInt 0)]) (ykc_263 (e := (0, .iconst 0, 0)) rfl) rfl rfl ?_
    refine w_store (pc' := 19) (L' := [some (.ref 170), some (.int (Int32.ofInt 0)), some (.int (Int32.ofInt 0)), none, none]) (st' := []) (m := 1) (ykc_263 (e := (3, .istore_n kF2, 0)) rfl) rfl rfl ?_
    refine w_alu (pc' := 20) (st' := [.int (Int32.ofInt 1)]) (ykc_263 (e := (0, .iconst 1, 0)) rfl) rfl rfl ?_
    refine w_store (pc' := 21) (L' := [some (.ref 170), some (.int (Int32.ofInt 0)), some (.int (Int32.ofInt 0)), some (.int (Int32.ofInt 1)), none]) (st' := []) (m := 1) (ykc_263 (e := (3, .istore_n kF3, 0)) rfl) rfl rfl ?_
    have hP0 : 0 < P := by omega
    have hl : ∀ (n : Nat), ∀ (k m : Nat) (o4 : Option Value) (ph1 : pm_H), (k + 1 ≤ P) → (m < P) → (zSc ph1000 ph1) → zW n D 263 Q 21 [some (.ref 170), some (.int (zn (zXw (fun i => zpcl (zVw (R, C, rk, sn, sk, cn, cd) P v i)) k))), some (.int (zn m)), some (.int (zn (k + 1))), o4] [] ph1 := by
      intro n
      induction n using Nat.strongRecOn with
      | ind n ih =>
        intro k m o4 ph1 hk hm hf1
        have tk := znt (k := k + 1) (by omega)
        have tm := znt (k := m) (by omega)
        have lw := @zXw_le (fun i => zpcl (zVw (R, C, rk, sn, sk, cn, cd) P v i)) k
        have tw := znt (k := zXw (fun i => zpcl (zVw (R, C, rk, sn, sk, cn, cd) P v i)) k) (by omega)
        refine w_load (pc' := 22) (v := .int (zn (k + 1))) (m := 1) (ykc_263 (e := (2, .iload_n kF3, 0)) rfl) rfl rfl ?_
        refine w_load (pc' := 23) (v := .ref 170) (m := 1) (ykc_263 (e := (2, .aload_n kF0, 0)) rfl) rfl rfl ?_
        refine w_gf (pc' := 26) (v := .int (zn P)) (ykc_263 (e := (5, .getfield 130, 0)) rfl) rfl ((hf1.1 170 5 (by decide) (by decide)).trans ((u999.2.1 170 5 (fun q => absurd q.2 (by decide))).trans gP)) rfl ?_
        refine w_ige (ykc_263 (e := (4, .if_icmp .ge 69, 95)) rfl) rfl (fun b1002 => ?_) (fun b1002 => ?_)
        · rw [hQ]
          exact zTail kc_263 false 1 95 9999 (fun _ => rfl) (Or.inl ⟨_, rfl⟩) (by decide +kernel) (by decide) (by decide) rfl (by decide +kernel) (fun _ => zXwid_p (E := (R, C, rk, sn, sk, cn, cd)) (show P = k + 1 by omega))
        · refine w_load (pc' := 30) (v := .ref 170) (m := 1) (ykc_263 (e := (2, .aload_n kF0, 0)) rfl) rfl rfl ?_
          refine w_load (pc' := 31) (v := .ref 170) (m := 1) (ykc_263 (e := (2, .aload_n kF0, 0)) rfl) rfl rfl ?_
          refine w_gf (pc' := 34) (v := .ref 174) (ykc_263 (e := (5, .getfield 41, 0)) rfl) rfl ((hf1.1 170 11 (by decide) (by decide)).trans ((u999.2.1 170 11 (fun q => absurd q.2 (by decide))).trans (zsg hS zs_170_11))) rfl ?_
          refine w_load (pc' := 35) (v := .int (zn (k + 1))) (m := 1) (ykc_263 (e := (2, .iload_n kF3, 0)) rfl) rfl rfl ?_
          refine w_cv (as := [.ref 170, .ref 174, .int (zn (k + 1))]) (r := []) (ykc_263 (e := (6, .invokevirtual 300, 0)) rfl) rfl rfl rfl rfl (zm_seen (zSc_S hf1 hS1) (zSc_e hf1 hE1) (zSc_p hf1 hN1) (zSc_a hf1 (⟨hA, hv1⟩ : ((174 : Nat) = 174 ∨ (174 : Nat) = 175) ∧ zNr ph1000 174 0 v)).1 (zSc_a hf1 (⟨hA, hv1⟩ : ((174 : Nat) = 174 ∨ (174 : Nat) = 175) ∧ zNr ph1000 174 0 v)).2 hO0 (p := k + 1) (by omega)) (fun v1004 ph1005 hv => ?_)
          obtain ⟨f1003, rfl⟩ := hv
          show zW n D 263 Q 38 [some (.ref 170), some (.int (zn (zXw (fun i => zpcl (zVw (R, C, rk, sn, sk, cn, cd) P v i)) k))), some (.int (zn m)), some (.int (zn (k + 1))), o4] [.long (zVw (R, C, rk, sn, sk, cn, cd) P v (k + 1))] ph1005
          refine w_cs (as := [.long (zVw (R, C, rk, sn, sk, cn, cd) P v (k + 1))]) (r := []) (ykc_263 (e := (6, .invokestatic 405, 0)) rfl) rfl rfl rfl rfl (zj_pcl (x := zVw (R, C, rk, sn, sk, cn, cd) P v (k + 1))) (fun v1006 ph1007 hv => ?_)
          obtain ⟨rfl, rfl⟩ := hv
          show zW n D 263 Q 41 [some (.ref 170), some (.int (zn (zXw (fun i => zpcl (zVw (R, C, rk, sn, sk, cn, cd) P v i)) k))), some (.int (zn m)), some (.int (zn (k + 1))), o4] [.int (zpcl (zVw (R, C, rk, sn, sk, cn, cd) P v (k + 1)))] ph1005
          refine w_store (pc' := 43) (L' := [some (.ref 170), some (.int (zn (zXw (fun i => zpcl (zVw (R, C, rk, sn, sk, cn, cd) P v i)) k))), some (.int (zn m)), some (.int (zn (k + 1))), some (.int (zpcl (zVw (R, C, rk, sn, sk, cn, cd) P v (k + 1))))]) (st' := []) (m := 2) (ykc_263 (e := (3, .istore 4, 0)) rfl) rfl rfl ?_
          refine w_load (pc' := 45) (v := .int (zpcl (zVw (R, C, rk, sn, sk, cn, cd) P v (k + 1)))) (m := 2) (ykc_263 (e := (2, .iload 4, 0)) rfl) rfl rfl ?_
          refine w_load (pc' := 46) (v := .ref 170) (m := 1) (ykc_263 (e := (2, .aload_n kF0, 0)) rfl) rfl rfl ?_
          refine w_load (pc' := 47) (v := .ref 170) (m := 1) (ykc_263 (e := (2, .aload_n kF0, 0)) rfl) rfl rfl ?_
          refine w_gf (pc' := 50) (v := .ref 174) (ykc_263 (e := (5, .getfield 41, 0)) rfl) rfl ((f1003.1 170 11 (by decide) (by decide)).trans ((hf1.1 170 11 (by decide) (by decide)).trans ((u999.2.1 170 11 (fun q => absurd q.2 (by decide))).trans (zsg hS zs_170_11)))) rfl ?_
          refine w_load (pc' := 51) (v := .int (zn (zXw (fun i => zpcl (zVw (R, C, rk, sn, sk, cn, cd) P v i)) k))) (m := 1) (ykc_263 (e := (2, .iload_n kF1, 0)) rfl) rfl rfl ?_
          refine w_cv (as := [.ref 170, .ref 174, .int (zn (zXw (fun i => zpcl (zVw (R, C, rk, sn, sk, cn, cd) P v i)) k))]) (r := [.int (zpcl (zVw (R, C, rk, sn, sk, cn, cd) P v (k + 1)))]) (ykc_263 (e := (6, .invokevirtual 300, 0)) rfl) rfl rfl rfl rfl (zm_seen (zSc_S (zFr_trans hf1 f1003) hS1) (zSc_e (zFr_trans hf1 f1003) hE1) (zSc_p (zFr_trans hf1 f1003) hN1) (zSc_a (zFr_trans hf1 f1003) (⟨hA, hv1⟩ : ((174 : Nat) = 174 ∨ (174 : Nat) = 175) ∧ zNr ph1000 174 0 v)).1 (zSc_a (zFr_trans hf1 f1003) (⟨hA, hv1⟩ : ((174 : Nat) = 174 ∨ (174 : Nat) = 175) ∧ zNr ph1000 174 0 v)).2 hO0 (p := zXw (fun i => zpcl (zVw (R, C, rk, sn, sk, cn, cd) P v i)) k) (by omega)) (fun v1009 ph1010 hv => ?_)
          obtain ⟨f1008, rfl⟩ := hv
          show zW n D 263 Q 54 [some (.ref 170), some (.int (zn (zXw (fun i => zpcl (zVw (R, C, rk, sn, sk, cn, cd) P v i)) k))), some (.int (zn m)), some (.int (zn (k + 1))), some (.int (zpcl (zVw (R, C, rk, sn, sk, cn, cd) P v (k + 1))))] [.long (zVw (R, C, rk, sn, sk, cn, cd) P v (zXw (fun i => zpcl (zVw (R, C, rk, sn, sk, cn, cd) P v i)) k)), .int (zpcl (zVw (R, C, rk, sn, sk, cn, cd) P v (k + 1)))] ph1010
          refine w_cs (as := [.long (zVw (R, C, rk, sn, sk, cn, cd) P v (zXw (fun i => zpcl (zVw (R, C, rk, sn, sk, cn, cd) P v i)) k))]) (r := [.int (zpcl (zVw (R, C, rk, sn, sk, cn, cd) P v (k + 1)))]) (ykc_263 (e := (6, .invokestatic 405, 0)) rfl) rfl rfl rfl rfl (zj_pcl (x := zVw (R, C, rk, sn, sk, cn, cd) P v (zXw (fun i => zpcl (zVw (R, C, rk, sn, sk, cn, cd) P v i)) k))) (fun v1011 ph1012 hv => ?_)
          obtain ⟨rfl, rfl⟩ := hv
          show zW n D 263 Q 57 [some (.ref 170), some (.int (zn (zXw (fun i => zpcl (zVw (R, C, rk, sn, sk, cn, cd) P v i)) k))), some (.int (zn m)), some (.int (zn (k + 1))), some (.int (zpcl (zVw (R, C, rk, sn, sk, cn, cd) P v (k + 1))))] [.int (zpcl (zVw (R, C, rk, sn, sk, cn, cd) P v (zXw (fun i => zpcl (zVw (R, C, rk, sn, sk, cn, cd) P v i)) k))), .int (zpcl (zVw (R, C, rk, sn, sk, cn, cd) P v (k + 1)))] ph1010
          refine w_ile (ykc_263 (e := (4, .if_icmp .le 7, 64)) rfl) rfl (fun b1013 => ?_) (fun b1013 => ?_)
          · refine w_load (pc' := 65) (v := .int (zn (zXw (fun i => zpcl (zVw (R, C, rk, sn, sk, cn, cd) P v i)) k))) (m := 1) (ykc_263 (e := (2, .iload_n kF1, 0)) rfl) rfl rfl ?_
            refine w_store (pc' := 66) (L' := [some (.ref 170), some (.int (zn (zXw (fun i => zpcl (zVw (R, C, rk, sn, sk, cn, cd) P v i)) k))), some (.int (zn m)), some (.int (zn (k + 1))), some (.int (zpcl (zVw (R, C, rk, sn, sk, cn, cd) P v (k + 1))))]) (st' := []) (m := 1) (ykc_263 (e := (3, .istore_n kF1, 0)) rfl) rfl rfl ?_
            refine w_load (pc' := 68) (v := .int (zpcl (zVw (R, C, rk, sn, sk, cn, cd) P v (k + 1)))) (m := 2) (ykc_263 (e := (2, .iload 4, 0)) rfl) rfl rfl ?_
            refine w_load (pc' := 69) (v := .ref 170) (m := 1) (ykc_263 (e := (2, .aload_n kF0, 0)) rfl) rfl rfl ?_
            refine w_load (pc' := 70) (v := .ref 170) (m := 1) (ykc_263 (e := (2, .aload_n kF0, 0)) rfl) rfl rfl ?_
            refine w_gf (pc' := 73) (v := .ref 174) (ykc_263 (e := (5, .getfield 41, 0)) rfl) rfl ((f1008.1 170 11 (by decide) (by decide)).trans ((f1003.1 170 11 (by decide) (by decide)).trans ((hf1.1 170 11 (by decide) (by decide)).trans ((u999.2.1 170 11 (fun q => absurd q.2 (by decide))).trans (zsg hS zs_170_11))))) rfl ?_
            refine w_load (pc' := 74) (v := .int (zn m)) (m := 1) (ykc_263 (e := (2, .iload_n kF2, 0)) rfl) rfl rfl ?_
            refine w_cv (as := [.ref 170, .ref 174, .int (zn m)]) (r := [.int (zpcl (zVw (R, C, rk, sn, sk, cn, cd) P v (k + 1)))]) (ykc_263 (e := (6, .invokevirtual 300, 0)) rfl) rfl rfl rfl rfl (zm_seen (zSc_S (zFr_trans (zFr_trans hf1 f1003) f1008) hS1) (zSc_e (zFr_trans (zFr_trans hf1 f1003) f1008) hE1) (zSc_p (zFr_trans (zFr_trans hf1 f1003) f1008) hN1) (zSc_a (zFr_trans (zFr_trans hf1 f1003) f1008) (⟨hA, hv1⟩ : ((174 : Nat) = 174 ∨ (174 : Nat) = 175) ∧ zNr ph1000 174 0 v)).1 (zSc_a (zFr_trans (zFr_trans hf1 f1003) f1008) (⟨hA, hv1⟩ : ((174 : Nat) = 174 ∨ (174 : Nat) = 175) ∧ zNr ph1000 174 0 v)).2 hO0 (p := m) (by omega)) (fun v1015 ph1016 hv => ?_)
            obtain ⟨f1014, rfl⟩ := hv
            show zW n D 263 Q 77 [some (.ref 170), some (.int (zn (zXw (fun i => zpcl (zVw (R, C, rk, sn, sk, cn, cd) P v i)) k))), some (.int (zn m)), some (.int (zn (k + 1))), some (.int (zpcl (zVw (R, C, rk, sn, sk, cn, cd) P v (k + 1))))] [.long (zVw (R, C, rk, sn, sk, cn, cd) P v m), .int (zpcl (zVw (R, C, rk, sn, sk, cn, cd) P v (k + 1)))] ph1016
            refine w_cs (as := [.long (zVw (R, C, rk, sn, sk, cn, cd) P v m)]) (r := [.int (zpcl (zVw (R, C, rk, sn, sk, cn, cd) P v (k + 1)))]) (ykc_263 (e := (6, .invokestatic 405, 0)) rfl) rfl rfl rfl rfl (zj_pcl (x := zVw (R, C, rk, sn, sk, cn, cd) P v m)) (fun v1017 ph1018 hv => ?_)
            obtain ⟨rfl, rfl⟩ := hv
            show zW n D 263 Q 80 [some (.ref 170), some (.int (zn (zXw (fun i => zpcl (zVw (R, C, rk, sn, sk, cn, cd) P v i)) k))), some (.int (zn m)), some (.int (zn (k + 1))), some (.int (zpcl (zVw (R, C, rk, sn, sk, cn, cd) P v (k + 1))))] [.int (zpcl (zVw (R, C, rk, sn, sk, cn, cd) P v m)), .int (zpcl (zVw (R, C, rk, sn, sk, cn, cd) P v (k + 1)))] ph1016
            refine w_ige (ykc_263 (e := (4, .if_icmp .ge 7, 87)) rfl) rfl (fun b1019 => ?_) (fun b1019 => ?_)
            · refine w_load (pc' := 88) (v := .int (zn m)) (m := 1) (ykc_263 (e := (2, .iload_n kF2, 0)) rfl) rfl rfl ?_
              refine w_store (pc' := 89) (L' := [some (.ref 170), some (.int (zn (zXw (fun i => zpcl (zVw (R, C, rk, sn, sk, cn, cd) P v i)) k))), some (.int (zn m)), some (.int (zn (k + 1))), some (.int (zpcl (zVw (R, C, rk, sn, sk, cn, cd) P v (k + 1))))]) (st' := []) (m := 1) (ykc_263 (e := (3, .istore_n kF2, 0)) rfl) rfl rfl ?_
              have e1020 : (zn (k + 1)) + Int32.ofInt 1 = zn (k + 1 + 1) := (zaddN (a := k + 1) (b := 1) (znt (by omega)) c_2 (by omega))
              have te1020 := znt (k := k + 1 + 1) (by omega)
              refine w_store (pc' := 92) (L' := [some (.ref 170), some (.int (zn (zXw (fun i => zpcl (zVw (R, C, rk, sn, sk, cn, cd) P v i)) k))), some (.int (zn m)), some (.int (zn (k + 1 + 1))), some (.int (zpcl (zVw (R, C, rk, sn, sk, cn, cd) P v (k + 1))))]) (st' := []) (m := 3) (ykc_263 (e := (3, .iinc 3 1, 0)) rfl) (by rw [← e1020]; rfl) rfl ?_
              refine w_gb (ykc_263 (e := (4, .goto (-71), 21)) rfl) (fun k1021 hk1021 => ?_)
              have et : zXw (fun i => zpcl (zVw (R, C, rk, sn, sk, cn, cd) P v i)) (k + 1) = zXw (fun i => zpcl (zVw (R, C, rk, sn, sk, cn, cd) P v i)) k := by
                show (if (zpcl (zVw (R, C, rk, sn, sk, cn, cd) P v (zXw (fun i => zpcl (zVw (R, C, rk, sn, sk, cn, cd) P v i)) k))).toInt < (zpcl (zVw (R, C, rk, sn, sk, cn, cd) P v (k + 1))).toInt then k + 1 else zXw (fun i => zpcl (zVw (R, C, rk, sn, sk, cn, cd) P v i)) k) = _
                rw [if_neg (by omega)]
              have h9 := ih k1021 hk1021 (k + 1) m (some (.int (zpcl (zVw (R, C, rk, sn, sk, cn, cd) P v (k + 1))))) _ (by omega) (by omega) (zFr_trans (zFr_trans (zFr_trans hf1 f1003) f1008) f1014)
              rw [et] at h9
              exact h9
            · refine w_load (pc' := 84) (v := .int (zn (k + 1))) (m := 1) (ykc_263 (e := (2, .iload_n kF3, 0)) rfl) rfl rfl ?_
              refine w_br (pc' := 88) (st' := [.int (zn (k + 1))]) (ykc_263 (e := (4, .goto 4, 88)) rfl) rfl ?_
              refine w_store (pc' := 89) (L' := [some (.ref 170), some (.int (zn (zXw (fun i => zpcl (zVw (R, C, rk, sn, sk, cn, cd) P v i)) k))), some (.int (zn (k + 1))), some (.int (zn (k + 1))), some (.int (zpcl (zVw (R, C, rk, sn, sk, cn, cd) P v (k + 1))))]) (st' := []) (m := 1) (ykc_263 (e := (3, .istore_n kF2, 0)) rfl) rfl rfl ?_
              have e1022 : (zn (k + 1)) + Int32.ofInt 1 = zn (k + 1 + 1) := (zaddN (a := k + 1) (b := 1) (znt (by omega)) c_2 (by omega))
              have te1022 := znt (k := k + 1 + 1) (by omega)
              refine w_store (pc' := 92) (L' := [some (.ref 170), some (.int (zn (zXw (fun i => zpcl (zVw (R, C, rk, sn, sk, cn, cd) P v i)) k))), some (.int (zn (k + 1))), some (.int (zn (k + 1 + 1))), some (.int (zpcl (zVw (R, C, rk, sn, sk, cn, cd) P v (k + 1))))]) (st' := []) (m := 3) (ykc_263 (e := (3, .iinc 3 1, 0)) rfl) (by rw [← e1022]; rfl) rfl ?_
              refine w_gb (ykc_263 (e := (4, .goto (-71), 21)) rfl) (fun k1023 hk1023 => ?_)
              have et : zXw (fun i => zpcl (zVw (R, C, rk, sn, sk, cn, cd) P v i)) (k + 1) = zXw (fun i => zpcl (zVw (R, C, rk, sn, sk, cn, cd) P v i)) k := by
                show (if (zpcl (zVw (R, C, rk, sn, sk, cn, cd) P v (zXw (fun i => zpcl (zVw (R, C, rk, sn, sk, cn, cd) P v i)) k))).toInt < (zpcl (zVw (R, C, rk, sn, sk, cn, cd) P v (k + 1))).toInt then k + 1 else zXw (fun i => zpcl (zVw (R, C, rk, sn, sk, cn, cd) P v i)) k) = _
                rw [if_neg (by omega)]
              have h9 := ih k1023 hk1023 (k + 1) (k + 1) (some (.int (zpcl (zVw (R, C, rk, sn, sk, cn, cd) P v (k + 1))))) _ (by omega) (by omega) (zFr_trans (zFr_trans (zFr_trans hf1 f1003) f1008) f1014)
              rw [et] at h9
              exact h9
          · refine w_load (pc' := 61) (v := .int (zn (k + 1))) (m := 1) (ykc_263 (e := (2, .iload_n kF3, 0)) rfl) rfl rfl ?_
            refine w_br (pc' := 65) (st' := [.int (zn (k + 1))]) (ykc_263 (e := (4, .goto 4, 65)) rfl) rfl ?_
            refine w_store (pc' := 66) (L' := [some (.ref 170), some (.int (zn (k + 1))), some (.int (zn m)), some (.int (zn (k + 1))), some (.int (zpcl (zVw (R, C, rk, sn, sk, cn, cd) P v (k + 1))))]) (st' := []) (m := 1) (ykc_263 (e := (3, .istore_n kF1, 0)) rfl) rfl rfl ?_
            refine w_load (pc' := 68) (v := .int (zpcl (zVw (R, C, rk, sn, sk, cn, cd) P v (k + 1)))) (m := 2) (ykc_263 (e := (2, .iload 4, 0)) rfl) rfl rfl ?_
            refine w_load (pc' := 69) (v := .ref 170) (m := 1) (ykc_263 (e := (2, .aload_n kF0, 0)) rfl) rfl rfl ?_
            refine w_load (pc' := 70) (v := .ref 170) (m := 1) (ykc_263 (e := (2, .aload_n kF0, 0)) rfl) rfl rfl ?_
            refine w_gf (pc' := 73) (v := .ref 174) (ykc_263 (e := (5, .getfield 41, 0)) rfl) rfl ((f1008.1 170 11 (by decide) (by decide)).trans ((f1003.1 170 11 (by decide) (by decide)).trans ((hf1.1 170 11 (by decide) (by decide)).trans ((u999.2.1 170 11 (fun q => absurd q.2 (by decide))).trans (zsg hS zs_170_11))))) rfl ?_
            refine w_load (pc' := 74) (v := .int (zn m)) (m := 1) (ykc_263 (e := (2, .iload_n kF2, 0)) rfl) rfl rfl ?_
            refine w_cv (as := [.ref 170, .ref 174, .int (zn m)]) (r := [.int (zpcl (zVw (R, C, rk, sn, sk, cn, cd) P v (k + 1)))]) (ykc_263 (e := (6, .invokevirtual 300, 0)) rfl) rfl rfl rfl rfl (zm_seen (zSc_S (zFr_trans (zFr_trans hf1 f1003) f1008) hS1) (zSc_e (zFr_trans (zFr_trans hf1 f1003) f1008) hE1) (zSc_p (zFr_trans (zFr_trans hf1 f1003) f1008) hN1) (zSc_a (zFr_trans (zFr_trans hf1 f1003) f1008) (⟨hA, hv1⟩ : ((174 : Nat) = 174 ∨ (174 : Nat) = 175) ∧ zNr ph1000 174 0 v)).1 (zSc_a (zFr_trans (zFr_trans hf1 f1003) f1008) (⟨hA, hv1⟩ : ((174 : Nat) = 174 ∨ (174 : Nat) = 175) ∧ zNr ph1000 174 0 v)).2 hO0 (p := m) (by omega)) (fun v1025 ph1026 hv => ?_)
            obtain ⟨f1024, rfl⟩ := hv
            show zW n D 263 Q 77 [some (.ref 170), some (.int (zn (k + 1))), some (.int (zn m)), some (.int (zn (k + 1))), some (.int (zpcl (zVw (R, C, rk, sn, sk, cn, cd) P v (k + 1))))] [.long (zVw (R, C, rk, sn, sk, cn, cd) P v m), .int (zpcl (zVw (R, C, rk, sn, sk, cn, cd) P v (k + 1)))] ph1026
            refine w_cs (as := [.long (zVw (R, C, rk, sn, sk, cn, cd) P v m)]) (r := [.int (zpcl (zVw (R, C, rk, sn, sk, cn, cd) P v (k + 1)))]) (ykc_263 (e := (6, .invokestatic 405, 0)) rfl) rfl rfl rfl rfl (zj_pcl (x := zVw (R, C, rk, sn, sk, cn, cd) P v m)) (fun v1027 ph1028 hv => ?_)
            obtain ⟨rfl, rfl⟩ := hv
            show zW n D 263 Q 80 [some (.ref 170), some (.int (zn (k + 1))), some (.int (zn m)), some (.int (zn (k + 1))), some (.int (zpcl (zVw (R, C, rk, sn, sk, cn, cd) P v (k + 1))))] [.int (zpcl (zVw (R, C, rk, sn, sk, cn, cd) P v m)), .int (zpcl (zVw (R, C, rk, sn, sk, cn, cd) P v (k + 1)))] ph1026
            refine w_ige (ykc_263 (e := (4, .if_icmp .ge 7, 87)) rfl) rfl (fun b1029 => ?_) (fun b1029 => ?_)
            · refine w_load (pc' := 88) (v := .int (zn m)) (m := 1) (ykc_263 (e := (2, .iload_n kF2, 0)) rfl) rfl rfl ?_
              refine w_store (pc' := 89) (L' := [some (.ref 170), some (.int (zn (k + 1))), some (.int (zn m)), some (.int (zn (k + 1))), some (.int (zpcl (zVw (R, C, rk, sn, sk, cn, cd) P v (k + 1))))]) (st' := []) (m := 1) (ykc_263 (e := (3, .istore_n kF2, 0)) rfl) rfl rfl ?_
              have e1030 : (zn (k + 1)) + Int32.ofInt 1 = zn (k + 1 + 1) := (zaddN (a := k + 1) (b := 1) (znt (by omega)) c_2 (by omega))
              have te1030 := znt (k := k + 1 + 1) (by omega)
              refine w_store (pc' := 92) (L' := [some (.ref 170), some (.int (zn (k + 1))), some (.int (zn m)), some (.int (zn (k + 1 + 1))), some (.int (zpcl (zVw (R, C, rk, sn, sk, cn, cd) P v (k + 1))))]) (st' := []) (m := 3) (ykc_263 (e := (3, .iinc 3 1, 0)) rfl) (by rw [← e1030]; rfl) rfl ?_
              refine w_gb (ykc_263 (e := (4, .goto (-71), 21)) rfl) (fun k1031 hk1031 => ?_)
              have et : zXw (fun i => zpcl (zVw (R, C, rk, sn, sk, cn, cd) P v i)) (k + 1) = k + 1 := by
                show (if (zpcl (zVw (R, C, rk, sn, sk, cn, cd) P v (zXw (fun i => zpcl (zVw (R, C, rk, sn, sk, cn, cd) P v i)) k))).toInt < (zpcl (zVw (R, C, rk, sn, sk, cn, cd) P v (k + 1))).toInt then k + 1 else zXw (fun i => zpcl (zVw (R, C, rk, sn, sk, cn, cd) P v i)) k) = _
                rw [if_pos (by omega)]
              have h9 := ih k1031 hk1031 (k + 1) m (some (.int (zpcl (zVw (R, C, rk, sn, sk, cn, cd) P v (k + 1))))) _ (by omega) (by omega) (zFr_trans (zFr_trans (zFr_trans hf1 f1003) f1008) f1024)
              rw [et] at h9
              exact h9
            · refine w_load (pc' := 84) (v := .int (zn (k + 1))) (m := 1) (ykc_263 (e := (2, .iload_n kF3, 0)) rfl) rfl rfl ?_
              refine w_br (pc' := 88) (st' := [.int (zn (k + 1))]) (ykc_263 (e := (4, .goto 4, 88)) rfl) rfl ?_
              refine w_store (pc' := 89) (L' := [some (.ref 170), some (.int (zn (k + 1))), some (.int (zn (k + 1))), some (.int (zn (k + 1))), some (.int (zpcl (zVw (R, C, rk, sn, sk, cn, cd) P v (k + 1))))]) (st' := []) (m := 1) (ykc_263 (e := (3, .istore_n kF2, 0)) rfl) rfl rfl ?_
              have e1032 : (zn (k + 1)) + Int32.ofInt 1 = zn (k + 1 + 1) := (zaddN (a := k + 1) (b := 1) (znt (by omega)) c_2 (by omega))
              have te1032 := znt (k := k + 1 + 1) (by omega)
              refine w_store (pc' := 92) (L' := [some (.ref 170), some (.int (zn (k + 1))), some (.int (zn (k + 1))), some (.int (zn (k + 1 + 1))), some (.int (zpcl (zVw (R, C, rk, sn, sk, cn, cd) P v (k + 1))))]) (st' := []) (m := 3) (ykc_263 (e := (3, .iinc 3 1, 0)) rfl) (by rw [← e1032]; rfl) rfl ?_
              refine w_gb (ykc_263 (e := (4, .goto (-71), 21)) rfl) (fun k1033 hk1033 => ?_)
              have et : zXw (fun i => zpcl (zVw (R, C, rk, sn, sk, cn, cd) P v i)) (k + 1) = k + 1 := by
                show (if (zpcl (zVw (R, C, rk, sn, sk, cn, cd) P v (zXw (fun i => zpcl (zVw (R, C, rk, sn, sk, cn, cd) P v i)) k))).toInt < (zpcl (zVw (R, C, rk, sn, sk, cn, cd) P v (k + 1))).toInt then k + 1 else zXw (fun i => zpcl (zVw (R, C, rk, sn, sk, cn, cd) P v i)) k) = _
                rw [if_pos (by omega)]
              have h9 := ih k1033 hk1033 (k + 1) (k + 1) (some (.int (zpcl (zVw (R, C, rk, sn, sk, cn, cd) P v (k + 1))))) _ (by omega) (by omega) (zFr_trans (zFr_trans (zFr_trans hf1 f1003) f1008) f1024)
              rw [et] at h9
              exact h9
    exact hl n 0 0 _ _ (by omega) (by omega) zFr_refl
  · refine w_push (pc' := 14) (v := .int ((Int8.ofInt (-2)).toInt32)) (m := 2) (ykc_263 (e := (1, .bipush (-2), 0)) rfl) rfl rfl ?_
    refine w_ret (v := (some (.int ((Int8.ofInt (-2)).toInt32)))) (ykc_263 (e := (7, .ireturn, 0)) rfl) (zr_v rfl) ?_
    rw [hQ]
    exact zXwid_n (show P = 0 by omega)
theorem zmlow : ∀ n, n < 50 → ∀ k, k < 64 → zb ((Int64.ofNat 1 <<< ((zn n).toInt64 &&& 63)) - Int64.ofNat 1) k = decide (k < n) := by decide +kernel
theorem zfreeL {rk : Nat → Bool} {n : Nat} (hn : n < 50) : ((Int64.ofNat 1 <<< ((zn n).toInt64 &&& 63)) - Int64.ofNat 1) &&& (zS rk n ^^^ (-1 : Int64)) = zFree rk n := by
  apply zb_ext
  intro k hk
  unfold zFree
  rw [zb_and, zb_xor, zmlow n hn k hk, zS_b (by omega) hk, zS_b (by omega) hk, (show ∀ k, k < 64 → zb (-1 : Int64) k = true by decide +kernel) k hk]
  cases decide (k < n) <;> cases rk k <;> rfl
theorem zc_freeL {ph : pm_H} {R C : Nat} {rk : Nat → Bool} (hS : zSh ph) (hL : zCl ph R C rk) : zM 41 [.ref 5] ph (fun v0 q => ph = q ∧ v0 = some (.long (zFree rk (R * C)))) := by
  obtain ⟨Q, hQ⟩ : ∃ Q : Option Value → pm_H → Prop, Q = (fun v0 q => ph = q ∧ v0 = some (.long (zFree rk (R * C)))) := ⟨_, rfl⟩
  rw [← hQ]
  refine zM_mk fun n D => ?_
  show zW n D 41 Q 0 [some (.ref 5)] [] ph
  have hL0 := hL
  obtain ⟨gR, gC, gN, gK, gA, hR3, hR7, hC3, hC7⟩ := hL
  have hRC := zRC49 hR7 hC7
  have tR := znt (k := R) (by omega)
  have tC := znt (k := C) (by omega)
  have tRC := znt (k := R * C) (by omega)
  refine w_alu (pc' := 1) (st' := [.long (Int64.ofNat kG1)]) (ykc_41 (e := (0, .lconst kG1, 0)) rfl) rfl rfl ?_
  refine w_load (pc' := 2) (v := .ref 5) (m := 1) (ykc_41 (e := (2, .aload_n kF0, 0)) rfl) rfl rfl ?_
  refine w_gf (pc' := 5) (v := .int (zn (R * C))) (ykc_41 (e := (5, .getfield 60, 0)) rfl) rfl gN rfl ?_
  refine w_alu (pc' := 6) (st' := [.long ((Int64.ofNat kG1) <<< ((zn (R * C)).toInt64 &&& 63))]) (ykc_41 (e := (0, .lshl, 0)) rfl) rfl rfl ?_
  refine w_alu (pc' := 7) (st' := [.long (Int64.ofNat kG1), .long ((Int64.ofNat kG1) <<< ((zn (R * C)).toInt64 &&& 63))]) (ykc_41 (e := (0, .lconst kG1, 0)) rfl) rfl rfl ?_
  refine w_alu (pc' := 8) (st' := [.long (((Int64.ofNat kG1) <<< ((zn (R * C)).toInt64 &&& 63)) - (Int64.ofNat kG1))]) (ykc_41 (e := (0, .lsub, 0)) rfl) rfl rfl ?_
  refine w_load (pc' := 9) (v := .ref 5) (m := 1) (ykc_41 (e := (2, .aload_n kF0, 0)) rfl) rfl rfl ?_
  refine w_gf (pc' := 12) (v := .long (zS rk (R * C))) (ykc_41 (e := (5, .getfield 53, 0)) rfl) rfl gK rfl ?_
  refine w_push (pc' := 15) (v := .long (-1 : Int64)) (m := 3) (ykc_41 (e := (1, .ldc2_w 62, 0)) rfl) rfl rfl ?_
  refine w_alu (pc' := 16) (st' := [.long ((zS rk (R * C)) ^^^ (-1 : Int64)), .long (((Int64.ofNat kG1) <<< ((zn (R * C)).toInt64 &&& 63)) - (Int64.ofNat kG1))]) (ykc_41 (e := (0, .lxor, 0)) rfl) rfl rfl ?_
  refine w_alu (pc' := 17) (st' := [.long ((((Int64.ofNat kG1) <<< ((zn (R * C)).toInt64 &&& 63)) - (Int64.ofNat kG1)) &&& ((zS rk (R * C)) ^^^ (-1 : Int64)))]) (ykc_41 (e := (0, .land, 0)) rfl) rfl rfl ?_
  refine w_ret (v := (some (.long ((((Int64.ofNat kG1) <<< ((zn (R * C)).toInt64 &&& 63)) - (Int64.ofNat kG1)) &&& ((zS rk (R * C)) ^^^ (-1 : Int64)))))) (ykc_41 (e := (7, .lreturn, 0)) rfl) (zr_v rfl) ?_
  rw [hQ]
  have hrc : R * C < 50 := by
    have := Nat.mul_le_mul (show R ≤ 7 by omega) (show C ≤ 7 by omega)
    omega
  exact ⟨rfl, by rw [← zfreeL hrc]; rfl⟩
theorem zc_hidX {ph : pm_H} {E : zEn} {F P G : Nat} {v : Nat → Nat} (hS : zSh ph) (hE : zCe ph E F) (ht : zCt ph 25 P G v) (hO : zOk E.1 E.2.1 P G v) (hr : zc ph 10 1 = some (.ref F)) (hc : zCc ph E.1 E.2.1 E.2.2.1) : zM 149 [.ref 0] ph (fun v0 _ => v0 = some (.long (zFree E.2.2.1 (E.1 * E.2.1) &&& (zAll E P v ^^^ (-1 : Int64))))) := by
  obtain ⟨Q, hQ⟩ : ∃ Q : Option Value → pm_H → Prop, Q = (fun v0 _ => v0 = some (.long (zFree E.2.2.1 (E.1 * E.2.1) &&& (zAll E P v ^^^ (-1 : Int64))))) := ⟨_, rfl⟩
  rw [← hQ]
  refine zM_mk fun n D => ?_
  show zW n D 149 Q 0 [some (.ref 0), none, none] [] ph
  obtain ⟨R, C, rk, sn, sk, cn, cd⟩ := E
  have hL0 : zCl ph R C rk := hE.1
  have hi0 : zCi ph sn sk := hE.2.1
  have hF : F = 11 ∨ F = 16 := hE.2.2.2
  have hE0 : zCe ph (R, C, rk, sn, sk, cn, cd) F := hE
  have hO0 : zOk R C P G v := hO
  have hL := hL0
  have hs := ht.1.2
  have hd := ht.2
  have h25 := ht.1.1
  obtain ⟨gR, gC, gN, gK, gA, hR3, hR7, hC3, hC7⟩ := hL
  have hRC := zRC49 hR7 hC7
  have tR := znt (k := R) (by omega)
  have tC := znt (k := C) (by omega)
  have tRC := znt (k := R * C) (by omega)
  have hd0 := hd
  have hs0 := hs
  obtain ⟨r3, r4, r5, r6, r7, l1, l2, l3, l4, l5⟩ := hs
  obtain ⟨gP, hP8, gG, hG8, gH, gv, gw⟩ := hd
  have tP := znt (k := P) (by omega)
  have tG := znt (k := G) (by omega)
  have h40 := hO0.2.2
  have t40 := znt (k := v 40) (by omega)
  have hc0 := hc
  refine w_load (pc' := 1) (v := .ref 0) (m := 1) (ykc_149 (e := (2, .aload_n kF0, 0)) rfl) rfl rfl ?_
  refine w_gf (pc' := 4) (v := .ref 5) (ykc_149 (e := (5, .getfield 26, 0)) rfl) rfl (zsg hS zs_0_2) rfl ?_
  refine w_cv (as := [.ref 5]) (r := []) (ykc_149 (e := (6, .invokevirtual 317, 0)) rfl) rfl rfl rfl rfl (zc_freeL hS hL0) (fun v1034 ph1035 hv => ?_)
  obtain ⟨rfl, rfl⟩ := hv
  show zW n D 149 Q 7 [some (.ref 0), none, none] [.long (zFree rk (R * C))] ph
  refine w_load (pc' := 8) (v := .ref 0) (m := 1) (ykc_149 (e := (2, .aload_n kF0, 0)) rfl) rfl rfl ?_
  refine w_gf (pc' := 11) (v := .ref 10) (ykc_149 (e := (5, .getfield 35, 0)) rfl) rfl (zsg hS zs_0_3) rfl ?_
  refine w_load (pc' := 12) (v := .ref 0) (m := 1) (ykc_149 (e := (2, .aload_n kF0, 0)) rfl) rfl rfl ?_
  refine w_gf (pc' := 15) (v := .ref 25) (ykc_149 (e := (5, .getfield 42, 0)) rfl) rfl (zsg hS zs_0_4) rfl ?_
  refine w_cv (as := [.ref 10, .ref 25]) (r := [.long (zFree rk (R * C))]) (ykc_149 (e := (6, .invokevirtual 208, 0)) rfl) rfl rfl rfl rfl (zc_lookR hS hE0 ht hO0 hr hc0) (fun v1038 ph1039 hv => ?_)
  obtain ⟨f1036, hc1037, hvw, rfl⟩ := hv
  show zW n D 149 Q 18 [some (.ref 0), none, none] [.long (zAll (R, C, rk, sn, sk, cn, cd) P v), .long (zFree rk (R * C))] ph1039
  refine w_push (pc' := 21) (v := .long (-1 : Int64)) (m := 3) (ykc_149 (e := (1, .ldc2_w 94, 0)) rfl) rfl rfl ?_
  refine w_alu (pc' := 22) (st' := [.long ((zAll (R, C, rk, sn, sk, cn, cd) P v) ^^^ (-1 : Int64)), .long (zFree rk (R * C))]) (ykc_149 (e := (0, .lxor, 0)) rfl) rfl rfl ?_
  refine w_alu (pc' := 23) (st' := [.long ((zFree rk (R * C)) &&& ((zAll (R, C, rk, sn, sk, cn, cd) P v) ^^^ (-1 : Int64)))]) (ykc_149 (e := (0, .land, 0)) rfl) rfl rfl ?_
  refine w_store (pc' := 24) (L' := [some (.ref 0), some (.long ((zFree rk (R * C)) &&& ((zAll (R, C, rk, sn, sk, cn, cd) P v) ^^^ (-1 : Int64)))), none]) (st' := []) (m := 1) (ykc_149 (e := (3, .lstore_n kF1, 0)) rfl) rfl rfl ?_
  rw [hQ]
  exact zTail kc_149 true 1 24 9999 (fun _ => rfl) (Or.inr ⟨rfl, _, rfl⟩) (by decide +kernel) (by decide) (by decide) rfl (by decide +kernel) (fun _ => rfl)
theorem zm_hidX {ph : pm_H} {E : zEn} {P G : Nat} {v : Nat → Nat} (hS : zSh ph) (hE : zMe ph E) (hN : zMp ph P G) (hv : zNr ph 174 0 v) (hO : zOk E.1 E.2.1 P G v) : zM 260 [.ref 170] ph (fun v0 _ => v0 = some (.long (zFree E.2.2.1 (E.1 * E.2.1) &&& (zAll E P v ^^^ (-1 : Int64))))) := by
  obtain ⟨Q, hQ⟩ : ∃ Q : Option Value → pm_H → Prop, Q = (fun v0 _ => v0 = some (.long (zFree E.2.2.1 (E.1 * E.2.1) &&& (zAll E P v ^^^ (-1 : Int64))))) := ⟨_, rfl⟩
  rw [← hQ]
  refine zM_mk fun n D => ?_
  show zW n D 260 Q 0 [some (.ref 170), none, none] [] ph
  have c_0 : (Int32.ofInt 0).toInt = 0 := by decide
  have hA : (174 : Nat) = 174 ∨ (174 : Nat) = 175 := Or.inl rfl
  obtain ⟨R, C, rk, sn, sk, cn, cd⟩ := E
  have hL0 : zMl ph R C rk := hE.1
  have hR0 : zMr ph sn sk cn cd := hE.2.1
  have hcg : zcg cn cd := hE.2.2
  have hE0 : zMe ph (R, C, rk, sn, sk, cn, cd) := hE
  have hO0 : zOk R C P G v := hO
  have hN0 := hN
  have hL := hL0
  have hR := hR0
  obtain ⟨gR, gC, gK, hR3, hR7, hC3, hC7⟩ := hL
  have hRC := zRC49 hR7 hC7
  have tR := znt (k := R) (by omega)
  have tC := znt (k := C) (by omega)
  obtain ⟨gP, hP8, gG, hG8⟩ := hN
  have tP := znt (k := P) (by omega)
  have tG := znt (k := G) (by omega)
  obtain ⟨gsn, hs1, hs20, gsk, gcn, hc40, gcd⟩ := hR
  have tsn := znt (k := sn) (by omega)
  have tcn := znt (k := cn) (by omega)
  refine w_load (pc' := 1) (v := .ref 170) (m := 1) (ykc_260 (e := (2, .aload_n kF0, 0)) rfl) rfl rfl ?_
  refine w_alu (pc' := 2) (st' := [.int (Int32.ofInt 0), .ref 170]) (ykc_260 (e := (0, .iconst 0, 0)) rfl) rfl rfl ?_
  refine w_pf (pc' := 5) (ykc_260 (e := (5, .putfield 3, 0)) rfl) rfl rfl (fun ph1041 u1040 => ?_)
  have f0 : zFr [] [(170, 0)] ph ph1041 := zFr_st u1040 (Or.inr (by simp))
  have hS1 := zSh_st u1040 (by decide +kernel) hS
  have hE1 : zMe ph1041 (R, C, rk, sn, sk, cn, cd) := ⟨zMl_F f0 (by simp) (by simp) (by simp) (by simp) hE0.1, zMr_F f0 (by simp) (by simp) (by simp) (by simp) hE0.2.1, hE0.2.2⟩
  have hN1 := zMp_F f0 (by simp) (by simp) (by simp) hN0
  have hv1 := zNr_F f0 (by simp) (by simp) hv
  have hL1 : zMl ph1041 R C rk := hE1.1
  have hR1 : zMr ph1041 sn sk cn cd := hE1.2.1
  refine w_load (pc' := 6) (v := .ref 170) (m := 1) (ykc_260 (e := (2, .aload_n kF0, 0)) rfl) rfl rfl ?_
  refine w_cv (as := [.ref 170]) (r := []) (ykc_260 (e := (6, .invokevirtual 413, 0)) rfl) rfl rfl rfl rfl (zm_free hS1 hL1) (fun v1042 ph1043 hv => ?_)
  obtain ⟨rfl, rfl⟩ := hv
  show zW n D 260 Q 9 [some (.ref 170), none, none] [.long (zFree rk (R * C))] ph1041
  refine w_load (pc' := 10) (v := .ref 170) (m := 1) (ykc_260 (e := (2, .aload_n kF0, 0)) rfl) rfl rfl ?_
  refine w_load (pc' := 11) (v := .ref 170) (m := 1) (ykc_260 (e := (2, .aload_n kF0, 0)) rfl) rfl rfl ?_
  refine w_gf (pc' := 14) (v := .ref 174) (ykc_260 (e := (5, .getfield 41, 0)) rfl) rfl ((u1040.2.1 170 11 (fun q => absurd q.2 (by decide))).trans (zsg hS zs_170_11)) rfl ?_
  refine w_cv (as := [.ref 170, .ref 174]) (r := [.long (zFree rk (R * C))]) (ykc_260 (e := (6, .invokevirtual 417, 0)) rfl) rfl rfl rfl rfl (zm_all hS1 hE1 hN1 (⟨hA, hv1⟩ : ((174 : Nat) = 174 ∨ (174 : Nat) = 175) ∧ zNr ph1041 174 0 v).1 (⟨hA, hv1⟩ : ((174 : Nat) = 174 ∨ (174 : Nat) = 175) ∧ zNr ph1041 174 0 v).2 hO0) (fun v1045 ph1046 hv => ?_)
  obtain ⟨f1044, rfl⟩ := hv
  show zW n D 260 Q 17 [some (.ref 170), none, none] [.long (zAll (R, C, rk, sn, sk, cn, cd) P v), .long (zFree rk (R * C))] ph1046
  refine w_push (pc' := 20) (v := .long (-1 : Int64)) (m := 3) (ykc_260 (e := (1, .ldc2_w 403, 0)) rfl) rfl rfl ?_
  refine w_alu (pc' := 21) (st' := [.long ((zAll (R, C, rk, sn, sk, cn, cd) P v) ^^^ (-1 : Int64)), .long (zFree rk (R * C))]) (ykc_260 (e := (0, .lxor, 0)) rfl) rfl rfl ?_
  refine w_alu (pc' := 22) (st' := [.long ((zFree rk (R * C)) &&& ((zAll (R, C, rk, sn, sk, cn, cd) P v) ^^^ (-1 : Int64)))]) (ykc_260 (e := (0, .land, 0)) rfl) rfl rfl ?_
  refine w_store (pc' := 23) (L' := [some (.ref 170), some (.long ((zFree rk (R * C)) &&& ((zAll (R, C, rk, sn, sk, cn, cd) P v) ^^^ (-1 : Int64)))), none]) (st' := []) (m := 1) (ykc_260 (e := (3, .lstore_n kF1, 0)) rfl) rfl rfl ?_
  rw [hQ]
  exact zTail kc_260 true 1 23 9999 (fun _ => rfl) (Or.inr ⟨rfl, _, rfl⟩) (by decide +kernel) (by decide) (by decide) rfl (by decide +kernel) (fun _ => rfl)
