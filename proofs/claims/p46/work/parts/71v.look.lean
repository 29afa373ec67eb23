/-! looks: the relation stays; printed by wip/rel/r2b.py -/
theorem zgm1_G103 : zAP.all (fun i => xmemN xgA_G103 i) = true := by decide +kernel
theorem zgm2_G103 : zFP.all (fun p => xmemP xgF_G103 p.1 p.2) = true := by decide +kernel
theorem zgm1_G57 : zAP.all (fun i => xmemN xgA_G57 i) = true := by decide +kernel
theorem zgm2_G57 : zFP.all (fun p => xmemP xgF_G57 p.1 p.2) = true := by decide +kernel
theorem zgm1_G94 : zAP.all (fun i => xmemN xgA_G94 i) = true := by decide +kernel
theorem zgm2_G94 : zFP.all (fun p => xmemP xgF_G94 p.1 p.2) = true := by decide +kernel
theorem zgm1_G95 : zAP.all (fun i => xmemN xgA_G95 i) = true := by decide +kernel
theorem zgm2_G95 : zFP.all (fun p => xmemP xgF_G95 p.1 p.2) = true := by decide +kernel
theorem zgm1_G96 : zAP.all (fun i => xmemN xgA_G96 i) = true := by decide +kernel
theorem zgm2_G96 : zFP.all (fun p => xmemP xgF_G96 p.1 p.2) = true := by decide +kernel
theorem zgm1_G98 : zAP.all (fun i => xmemN xgA_G98 i) = true := by decide +kernel
theorem zgm2_G98 : zFP.all (fun p => xmemP xgF_G98 p.1 p.2) = true := by decide +kernel
theorem zgc1_G54 : zAR.all (fun i => xmemN xgA_G54 i) = true := by decide +kernel
theorem zgc2_G54 : zFR.all (fun p => xmemP xgF_G54 p.1 p.2) = true := by decide +kernel
theorem zgc3_G54 : (xmemN xgA_G54 51 && xmemN xgA_G54 52 && xmemP xgF_G54 48 4) = true := by decide +kernel
theorem zgc1_G8 : zAR.all (fun i => xmemN xgA_G8 i) = true := by decide +kernel
theorem zgc2_G8 : zFR.all (fun p => xmemP xgF_G8 p.1 p.2) = true := by decide +kernel
theorem zgc3_G8 : (xmemN xgA_G8 51 && xmemN xgA_G8 52 && xmemP xgF_G8 48 4) = true := by decide +kernel
theorem zgc1_G9 : zAR.all (fun i => xmemN xgA_G9 i) = true := by decide +kernel
theorem zgc2_G9 : zFR.all (fun p => xmemP xgF_G9 p.1 p.2) = true := by decide +kernel
theorem zgc3_G9 : (xmemN xgA_G9 51 && xmemN xgA_G9 52 && xmemP xgF_G9 48 4) = true := by decide +kernel
theorem xrm_sees {x : Int32} : xRm 257 [.int x] kJ := xRmod xLE_G94 zgm1_G94 zgm2_G94 (fun n E h hE => xn_257_0 h (fun p q => (hE p q).1.1)) (by decide) (by decide) (fun _ => ⟨xaRi rfl (by decide), xaT, trivial⟩) (fun _ _ h => yrj h)
theorem xrc_sees {x : Int32} : xRc 147 [.int x] kJ := xRcls xLE_G9 zgc1_G9 zgc2_G9 zgc3_G9 (fun h hC => xn_147_0 h hC) (by decide) (fun _ => ⟨xaRi rfl (by decide), xaT, trivial⟩) (fun _ _ h => yrj h)
theorem xrs_sees {x : Int32} : xRs 147 257 [.int x] (fun a b => kJ a ∧ kJ b) := xRboth xrc_sees xrm_sees
theorem xrm_seers {x : Int32} : xRm 258 [.int x] kI := xRmod xLE_G94 zgm1_G94 zgm2_G94 (fun n E h hE => xn_258_0 h (fun p q => (hE p q).1.1)) (by decide) (by decide) (fun _ => ⟨xaRi rfl (by decide), xaT, trivial⟩) (fun _ _ h => yri h)
theorem xrc_seers {x : Int32} : xRc 148 [.int x] kI := xRcls xLE_G9 zgc1_G9 zgc2_G9 zgc3_G9 (fun h hC => xn_148_0 h hC) (by decide) (fun _ => ⟨xaRi rfl (by decide), xaT, trivial⟩) (fun _ _ h => yri h)
theorem xrs_seers {x : Int32} : xRs 148 258 [.int x] (fun a b => kI a ∧ kI b) := xRboth xrc_seers xrm_seers
theorem xrm_hidden : xRm 260 [] kJ := xRmod xLE_G94 zgm1_G94 zgm2_G94 (fun n E h hE => xn_260_0 h (fun p q => (hE p q).1.1)) (by decide) (by decide) (fun _ => ⟨xaRi rfl (by decide), trivial⟩) (fun _ _ h => yrj h)
theorem xrc_hidden : xRc 149 [] kJ := xRcls xLE_G9 zgc1_G9 zgc2_G9 zgc3_G9 (fun h hC => xn_149_0 h hC) (by decide) (fun _ => ⟨xaRi rfl (by decide), trivial⟩) (fun _ _ h => yrj h)
theorem xrs_hidden : xRs 149 260 [] (fun a b => kJ a ∧ kJ b) := xRboth xrc_hidden xrm_hidden
theorem xrm_pairs : xRm 261 [] kI := xRmod xLE_G94 zgm1_G94 zgm2_G94 (fun n E h hE => xn_261_0 h (fun p q => (hE p q).1.1) (fun p q => xINV_PG (hE p q).2)) (by decide) (by decide) (fun _ => ⟨xaRi rfl (by decide), trivial⟩) (fun _ _ h => yri h)
theorem xrc_pairs : xRc 150 [] kI := xRcls xLE_G9 zgc1_G9 zgc2_G9 zgc3_G9 (fun h hC => xn_150_0 h hC) (by decide) (fun _ => ⟨xaRi rfl (by decide), trivial⟩) (fun _ _ h => yri h)
theorem xrs_pairs : xRs 150 261 [] (fun a b => kI a ∧ kI b) := xRboth xrc_pairs xrm_pairs
theorem xrm_behind {x : Int32} : xRm 262 [.int x] kI := xRmod xLE_G94 zgm1_G94 zgm2_G94 (fun n E h hE => xn_262_0 h (fun p q => (hE p q).1.1) (fun p q => xINV_PG (hE p q).2)) (by decide) (by decide) (fun _ => ⟨xaRi rfl (by decide), xaT, trivial⟩) (fun _ _ h => yri h)
theorem xrc_behind {x : Int32} : xRc 151 [.int x] kI := xRcls xLE_G9 zgc1_G9 zgc2_G9 zgc3_G9 (fun h hC => xn_151_0 h hC) (by decide) (fun _ => ⟨xaRi rfl (by decide), xaT, trivial⟩) (fun _ _ h => yri h)
theorem xrs_behind {x : Int32} : xRs 151 262 [.int x] (fun a b => kI a ∧ kI b) := xRboth xrc_behind xrm_behind
theorem xrm_widest : xRm 263 [] kI := xRmod xLE_G94 zgm1_G94 zgm2_G94 (fun n E h hE => xn_263_0 h (fun p q => (hE p q).1.1)) (by decide) (by decide) (fun _ => ⟨xaRi rfl (by decide), trivial⟩) (fun _ _ h => yri h)
theorem xrc_widest : xRc 152 [] kI := xRcls xLE_G9 zgc1_G9 zgc2_G9 zgc3_G9 (fun h hC => xn_152_0 h hC) (by decide) (fun _ => ⟨xaRi rfl (by decide), trivial⟩) (fun _ _ h => yri h)
theorem xrs_widest : xRs 152 263 [] (fun a b => kI a ∧ kI b) := xRboth xrc_widest xrm_widest
theorem xrm_watch : xRm 265 [] kI := xRmod xLE_G94 zgm1_G94 zgm2_G94 (fun n E h hE => xn_265_0 h (fun p q => (hE p q).1.1)) (by decide) (by decide) (fun _ => ⟨xaRi rfl (by decide), trivial⟩) (fun _ _ h => yri h)
theorem xrc_watch : xRc 153 [] kI := xRcls xLE_G9 zgc1_G9 zgc2_G9 zgc3_G9 (fun h hC => xn_153_0 h hC) (by decide) (fun _ => ⟨xaRi rfl (by decide), trivial⟩) (fun _ _ h => yri h)
theorem xrs_watch : xRs 153 265 [] (fun a b => kI a ∧ kI b) := xRboth xrc_watch xrm_watch
theorem xrm_learns {x y : Int32} : xRm 266 [.int x, .int y] kI := xRmod xLE_G95 zgm1_G95 zgm2_G95 (fun n E h hE => xn_266_0 h (fun p q => (hE p q).1.1)) (by decide) (by decide) (fun _ => ⟨xaRi rfl (by decide), xaT, xaT, trivial⟩) (fun _ _ h => yri h)
theorem xrc_learns {x y : Int32} : xRc 154 [.int x, .int y] kI := xRcls xLE_G54 zgc1_G54 zgc2_G54 zgc3_G54 (fun h hC => xn_154_0 h hC) (by decide) (fun _ => ⟨xaRi rfl (by decide), xaT, xaT, trivial⟩) (fun _ _ h => yri h)
theorem xrs_learns {x y : Int32} : xRs 154 266 [.int x, .int y] (fun a b => kI a ∧ kI b) := xRboth xrc_learns xrm_learns
theorem xrm_all : xRm 268 [] kI := xRmod xLE_G95 zgm1_G95 zgm2_G95 (fun n E h hE => xn_268_0 h (fun p q => (hE p q).1.1)) (by decide) (by decide) (fun _ => ⟨xaRi rfl (by decide), trivial⟩) (fun _ _ h => yri h)
theorem xrc_all : xRc 155 [] kI := xRcls xLE_G54 zgc1_G54 zgc2_G54 zgc3_G54 (fun h hC => xn_155_0 h hC) (by decide) (fun _ => ⟨xaRi rfl (by decide), trivial⟩) (fun _ _ h => yri h)
theorem xrs_all : xRs 155 268 [] (fun a b => kI a ∧ kI b) := xRboth xrc_all xrm_all
theorem xrm_ahead {x : Int32} : xRm 269 [.int x] kI := xRmod xLE_G95 zgm1_G95 zgm2_G95 (fun n E h hE => xn_269_0 h (fun p q => (hE p q).1.1)) (by decide) (by decide) (fun _ => ⟨xaRi rfl (by decide), xaT, trivial⟩) (fun _ _ h => yri h)
theorem xrc_ahead {x : Int32} : xRc 156 [.int x] kI := xRcls xLE_G54 zgc1_G54 zgc2_G54 zgc3_G54 (fun h hC => xn_156_0 h hC) (by decide) (fun _ => ⟨xaRi rfl (by decide), xaT, trivial⟩) (fun _ _ h => yri h)
theorem xrs_ahead {x : Int32} : xRs 156 269 [.int x] (fun a b => kI a ∧ kI b) := xRboth xrc_ahead xrm_ahead
theorem xrm_gossip {x : Int32} : xRm 270 [.int x] kI := xRmod xLE_G94 zgm1_G94 zgm2_G94 (fun n E h hE => xn_270_0 h (fun p q => (hE p q).1.1)) (by decide) (by decide) (fun _ => ⟨xaRi rfl (by decide), xaT, trivial⟩) (fun _ _ h => yri h)
theorem xrc_gossip {x : Int32} : xRc 157 [.int x] kI := xRcls xLE_G9 zgc1_G9 zgc2_G9 zgc3_G9 (fun h hC => xn_157_0 h hC) (by decide) (fun _ => ⟨xaRi rfl (by decide), xaT, trivial⟩) (fun _ _ h => yri h)
theorem xrs_gossip {x : Int32} : xRs 157 270 [.int x] (fun a b => kI a ∧ kI b) := xRboth xrc_gossip xrm_gossip
theorem xrm_eighths {x y : Int32} : xRm 272 [.int x, .int y] kI := xRmod xLE_G94 zgm1_G94 zgm2_G94 (fun n E h hE => xn_272_0 h (fun p q => (hE p q).1.1)) (by decide) (by decide) (fun _ => ⟨xaRi rfl (by decide), xaT, xaT, trivial⟩) (fun _ _ h => yri h)
theorem xrc_eighths {x y : Int32} : xRc 158 [.int x, .int y] kI := xRcls xLE_G9 zgc1_G9 zgc2_G9 zgc3_G9 (fun h hC => xn_158_0 h hC) (by decide) (fun _ => ⟨xaRi rfl (by decide), xaT, xaT, trivial⟩) (fun _ _ h => yri h)
theorem xrs_eighths {x y : Int32} : xRs 158 272 [.int x, .int y] (fun a b => kI a ∧ kI b) := xRboth xrc_eighths xrm_eighths
theorem xrm_turned : xRm 276 [] kI := xRmod xLE_G96 zgm1_G96 zgm2_G96 (fun n E h hE => xn_276_0 h (fun p q => (hE p q).1.1) (fun p q => xINV_PG (hE p q).2)) (by decide) (by decide) (fun _ => ⟨xaRi rfl (by decide), trivial⟩) (fun _ _ h => yri h)
theorem xrc_turned : xRc 159 [] kI := xRcls xLE_G9 zgc1_G9 zgc2_G9 zgc3_G9 (fun h hC => xn_159_0 h hC) (by decide) (fun _ => ⟨xaRi rfl (by decide), trivial⟩) (fun _ _ h => yri h)
theorem xrs_turned : xRs 159 276 [] (fun a b => kI a ∧ kI b) := xRboth xrc_turned xrm_turned
theorem xrm_best {x : Int32} : xRm 277 [.int x] kI := xRmod xLE_G94 zgm1_G94 zgm2_G94 (fun n E h hE => xn_277_0 h (fun p q => (hE p q).1.1) (fun p q => xINV_PG (hE p q).2)) (by decide) (by decide) (fun _ => ⟨xaRi rfl (by decide), xaT, trivial⟩) (fun _ _ h => yri h)
theorem xrc_best {x : Int32} : xRc 160 [.int x] kI := xRcls xLE_G9 zgc1_G9 zgc2_G9 zgc3_G9 (fun h hC => xn_160_0 h hC) (by decide) (fun _ => ⟨xaRi rfl (by decide), xaT, trivial⟩) (fun _ _ h => yri h)
theorem xrs_best {x : Int32} : xRs 160 277 [.int x] (fun a b => kI a ∧ kI b) := xRboth xrc_best xrm_best
theorem xrm_bears {x y : Int32} : xRm 278 [.int x, .int y] kI := xRmod xLE_G94 zgm1_G94 zgm2_G94 (fun n E h hE => xn_278_0 h (fun p q => (hE p q).1.1)) (by decide) (by decide) (fun _ => ⟨xaRi rfl (by decide), xaT, xaT, trivial⟩) (fun _ _ h => yri h)
theorem xrc_bears {x y : Int32} : xRc 161 [.int x, .int y] kI := xRcls xLE_G9 zgc1_G9 zgc2_G9 zgc3_G9 (fun h hC => xn_161_0 h hC) (by decide) (fun _ => ⟨xaRi rfl (by decide), xaT, xaT, trivial⟩) (fun _ _ h => yri h)
theorem xrs_bears {x y : Int32} : xRs 161 278 [.int x, .int y] (fun a b => kI a ∧ kI b) := xRboth xrc_bears xrm_bears
theorem xrm_back {x y : Int32} : xRm 281 [.int x, .int y] kI := xRmod xLE_G98 zgm1_G98 zgm2_G98 (fun n E h hE => xn_281_0 h (fun p q => (hE p q).1.1)) (by decide) (by decide) (fun _ => ⟨xaRi rfl (by decide), xaT, xaT, trivial⟩) (fun _ _ h => yri h)
theorem xrc_back {x y : Int32} : xRc 164 [.int x, .int y] kI := xRcls xLE_G9 zgc1_G9 zgc2_G9 zgc3_G9 (fun h hC => xn_164_0 h hC) (by decide) (fun _ => ⟨xaRi rfl (by decide), xaT, xaT, trivial⟩) (fun _ _ h => yri h)
theorem xrs_back {x y : Int32} : xRs 164 281 [.int x, .int y] (fun a b => kI a ∧ kI b) := xRboth xrc_back xrm_back
theorem xrm_open {x y : Int32} : xRm 282 [.int x, .int y] kI := xRmod xLE_G98 zgm1_G98 zgm2_G98 (fun n E h hE => xn_282_0 h (fun p q => (hE p q).1.1)) (by decide) (by decide) (fun _ => ⟨xaRi rfl (by decide), xaT, xaT, trivial⟩) (fun _ _ h => yri h)
theorem xrc_open {x y : Int32} : xRc 165 [.int x, .int y] kI := xRcls xLE_G9 zgc1_G9 zgc2_G9 zgc3_G9 (fun h hC => xn_165_0 h hC) (by decide) (fun _ => ⟨xaRi rfl (by decide), xaT, xaT, trivial⟩) (fun _ _ h => yri h)
theorem xrs_open {x y : Int32} : xRs 165 282 [.int x, .int y] (fun a b => kI a ∧ kI b) := xRboth xrc_open xrm_open
theorem xrm_lost : xRm 286 [] kJ := xRmod xLE_G94 zgm1_G94 zgm2_G94 (fun n E h hE => xn_286_0 h (fun p q => (hE p q).1.1)) (by decide) (by decide) (fun _ => ⟨xaRi rfl (by decide), trivial⟩) (fun _ _ h => yrj h)
theorem xrc_lost : xRc 168 [] kJ := xRcls xLE_G9 zgc1_G9 zgc2_G9 zgc3_G9 (fun h hC => xn_168_0 h) (by decide) (fun _ => ⟨xaRi rfl (by decide), trivial⟩) (fun _ _ h => yrj h)
theorem xrs_lost : xRs 168 286 [] (fun a b => kJ a ∧ kJ b) := xRboth xrc_lost xrm_lost
theorem xrm_asks : xRm 287 [] kI := xRmod xLE_G94 zgm1_G94 zgm2_G94 (fun n E h hE => xn_287_0 h (fun p q => (hE p q).1.1)) (by decide) (by decide) (fun _ => ⟨xaRi rfl (by decide), trivial⟩) (fun _ _ h => yri h)
theorem xrc_asks : xRc 169 [] kI := xRcls xLE_G9 zgc1_G9 zgc2_G9 zgc3_G9 (fun h hC => xn_169_0 h hC) (by decide) (fun _ => ⟨xaRi rfl (by decide), trivial⟩) (fun _ _ h => yri h)
theorem xrs_asks : xRs 169 287 [] (fun a b => kI a ∧ kI b) := xRboth xrc_asks xrm_asks
theorem xrm_storm {x y z : Int32} : xRm 288 [.int x, .int y, .int z] kI := xRmod xLE_G94 zgm1_G94 zgm2_G94 (fun n E h hE => xn_288_0 h (fun p q => (hE p q).1.1)) (by decide) (by decide) (fun _ => ⟨xaRi rfl (by decide), xaT, xaT, xaT, trivial⟩) (fun _ _ h => yri h)
theorem xrc_storm {x y z : Int32} : xRc 171 [.int x, .int y, .int z] kI := xRcls xLE_G9 zgc1_G9 zgc2_G9 zgc3_G9 (fun h hC => xn_171_0 h hC) (by decide) (fun _ => ⟨xaRi rfl (by decide), xaT, xaT, xaT, trivial⟩) (fun _ _ h => yri h)
theorem xrs_storm {x y z : Int32} : xRs 171 288 [.int x, .int y, .int z] (fun a b => kI a ∧ kI b) := xRboth xrc_storm xrm_storm
theorem xrm_cock {x y : Int32} : xRm 289 [.int x, .int y] kI := xRmod xLE_G57 zgm1_G57 zgm2_G57 (fun n E h hE => xn_289_0 h) (by decide) (by decide) (fun _ => ⟨xaRi rfl (by decide), xaT, xaT, trivial⟩) (fun _ _ h => yri h)
theorem xrc_cock {x y : Int32} : xRc 172 [.int x, .int y] kI := xRcls xLE_G8 zgc1_G8 zgc2_G8 zgc3_G8 (fun h hC => xn_172_0 h) (by decide) (fun _ => ⟨xaRi rfl (by decide), xaT, xaT, trivial⟩) (fun _ _ h => yri h)
theorem xrs_cock {x y : Int32} : xRs 172 289 [.int x, .int y] (fun a b => kI a ∧ kI b) := xRboth xrc_cock xrm_cock
theorem xrm_rests {x : Int32} : xRm 293 [.int x] kI := xRmod xLE_G94 zgm1_G94 zgm2_G94 (fun n E h hE => xn_293_0 h) (by decide) (by decide) (fun _ => ⟨xaRi rfl (by decide), xaT, trivial⟩) (fun _ _ h => yri h)
theorem xrc_rests {x : Int32} : xRc 174 [.int x] kI := xRcls xLE_G9 zgc1_G9 zgc2_G9 zgc3_G9 (fun h hC => xn_174_0 h) (by decide) (fun _ => ⟨xaRi rfl (by decide), xaT, trivial⟩) (fun _ _ h => yri h)
theorem xrs_rests {x : Int32} : xRs 174 293 [.int x] (fun a b => kI a ∧ kI b) := xRboth xrc_rests xrm_rests
theorem xrm_years {x y : Int32} : xRm 295 [.int x, .int y] kI := xRmod xLE_G103 zgm1_G103 zgm2_G103 (fun n E h hE => xn_295_0 h (fun p q => (hE p q).1.1)) (by decide) (by decide) (fun _ => ⟨xaRi rfl (by decide), xaT, xaT, trivial⟩) (fun _ _ h => yri h)
theorem xrc_years {x y : Int32} : xRc 175 [.int x, .int y] kI := xRcls xLE_G54 zgc1_G54 zgc2_G54 zgc3_G54 (fun h hC => xn_175_0 h hC) (by decide) (fun _ => ⟨xaRi rfl (by decide), xaT, xaT, trivial⟩) (fun _ _ h => yri h)
theorem xrs_years {x y : Int32} : xRs 175 295 [.int x, .int y] (fun a b => kI a ∧ kI b) := xRboth xrc_years xrm_years
theorem xrm_count {x : Int32} : xRm 298 [.int x] kI := xRmod xLE_G57 zgm1_G57 zgm2_G57 (fun n E h hE => xn_298_0 h (fun p q => (hE p q).1.1)) (by decide) (by decide) (fun _ => ⟨xaRi rfl (by decide), xaT, trivial⟩) (fun _ _ h => yri h)
theorem xrc_count {x : Int32} : xRc 179 [.int x] kI := xRcls xLE_G8 zgc1_G8 zgc2_G8 zgc3_G8 (fun h hC => xn_179_0 h hC) (by decide) (fun _ => ⟨xaRi rfl (by decide), xaT, trivial⟩) (fun _ _ h => yri h)
theorem xrs_count {x : Int32} : xRs 179 298 [.int x] (fun a b => kI a ∧ kI b) := xRboth xrc_count xrm_count
theorem xrm_person {x y : Int32} : xRm 235 [.int x, .int y] kI := xRmod xLE_G57 zgm1_G57 zgm2_G57 (fun n E h hE => xn_235_0 h (fun p q => (hE p q).1.1)) (by decide) (by decide) (fun _ => ⟨xaRi rfl (by decide), xaT, xaT, trivial⟩) (fun _ _ h => yri h)
theorem xrm_thing {x y : Int32} : xRm 236 [.int x, .int y] kI := xRmod xLE_G57 zgm1_G57 zgm2_G57 (fun n E h hE => xn_236_0 h (fun p q => (hE p q).1.1) (fun p q => xINV_PG (hE p q).2)) (by decide) (by decide) (fun _ => ⟨xaRi rfl (by decide), xaT, xaT, trivial⟩) (fun _ _ h => yri h)
theorem xrm_row {x : Int32} : xRm 299 [.int x] kJ := xRmod xLE_G57 zgm1_G57 zgm2_G57 (fun n E h hE => xn_299_0 h) (by decide) (by decide) (fun _ => ⟨xaRi rfl (by decide), xaT, trivial⟩) (fun _ _ h => yrj h)
