/-! b -/
def tdB (code : ByteArray) (q : Nat × Nat × Instr × Nat) : Bool := match decode code q.1 with
  | .ok (_, n) => Nat.beq n (pm_len q.2.2.1 q.2.2.2)
  | _ => false
theorem tB_200 : kc_200.all (fun c => c.all (tdB prog_15_method_21_code)) = true := by decide +kernel
theorem tB_201 : kc_201.all (fun c => c.all (tdB prog_15_method_22_code)) = true := by decide +kernel
theorem tB_202 : kc_202.all (fun c => c.all (tdB prog_15_method_23_code)) = true := by decide +kernel
theorem tB_203 : kc_203.all (fun c => c.all (tdB prog_15_method_24_code)) = true := by decide +kernel
theorem tB_204 : kc_204.all (fun c => c.all (tdB prog_15_method_25_code)) = true := by decide +kernel
theorem tB_205 : kc_205.all (fun c => c.all (tdB prog_15_method_26_code)) = true := by decide +kernel
theorem tB_206 : kc_206.all (fun c => c.all (tdB prog_15_method_27_code)) = true := by decide +kernel
theorem tB_207 : kc_207.all (fun c => c.all (tdB prog_15_method_28_code)) = true := by decide +kernel
theorem tB_208 : kc_208.all (fun c => c.all (tdB prog_15_method_29_code)) = true := by decide +kernel
theorem tB_209 : kc_209.all (fun c => c.all (tdB prog_15_method_30_code)) = true := by decide +kernel
theorem tB_210 : kc_210.all (fun c => c.all (tdB prog_15_method_31_code)) = true := by decide +kernel
theorem tB_211 : kc_211.all (fun c => c.all (tdB prog_15_method_32_code)) = true := by decide +kernel
theorem tB_212 : kc_212.all (fun c => c.all (tdB prog_15_method_33_code)) = true := by decide +kernel
theorem tB_213 : kc_213.all (fun c => c.all (tdB prog_15_method_34_code)) = true := by decide +kernel
theorem tB_214 : kc_214.all (fun c => c.all (tdB prog_15_method_35_code)) = true := by decide +kernel
theorem tB_215 : kc_215.all (fun c => c.all (tdB prog_15_method_36_code)) = true := by decide +kernel
theorem tB_216 : kc_216.all (fun c => c.all (tdB prog_15_method_37_code)) = true := by decide +kernel
theorem tB_217 : kc_217.all (fun c => c.all (tdB prog_15_method_38_code)) = true := by decide +kernel
theorem tB_218 : kc_218.all (fun c => c.all (tdB prog_15_method_39_code)) = true := by decide +kernel
theorem tB_219 : kc_219.all (fun c => c.all (tdB prog_15_method_40_code)) = true := by decide +kernel
theorem tB_220 : kc_220.all (fun c => c.all (tdB prog_15_method_41_code)) = true := by decide +kernel
theorem tB_221 : kc_221.all (fun c => c.all (tdB prog_15_method_42_code)) = true := by decide +kernel
theorem tB_222 : kc_222.all (fun c => c.all (tdB prog_15_method_43_code)) = true := by decide +kernel
theorem tB_223 : kc_223.all (fun c => c.all (tdB prog_15_method_44_code)) = true := by decide +kernel
theorem tB_224 : kc_224.all (fun c => c.all (tdB prog_15_method_45_code)) = true := by decide +kernel
theorem tB_225 : kc_225.all (fun c => c.all (tdB prog_15_method_46_code)) = true := by decide +kernel
theorem tB_226 : kc_226.all (fun c => c.all (tdB prog_15_method_47_code)) = true := by decide +kernel
theorem tB_227 : kc_227.all (fun c => c.all (tdB prog_15_method_48_code)) = true := by decide +kernel
theorem tB_228 : kc_228.all (fun c => c.all (tdB prog_15_method_49_code)) = true := by decide +kernel
theorem tB_229 : kc_229.all (fun c => c.all (tdB prog_15_method_50_code)) = true := by decide +kernel
theorem tB_230 : kc_230.all (fun c => c.all (tdB prog_15_method_51_code)) = true := by decide +kernel
theorem tB_231 : kc_231.all (fun c => c.all (tdB prog_15_method_52_code)) = true := by decide +kernel
theorem tB_232 : kc_232.all (fun c => c.all (tdB prog_15_method_53_code)) = true := by decide +kernel
theorem tB_233 : kc_233.all (fun c => c.all (tdB prog_15_method_54_code)) = true := by decide +kernel
theorem tB_234 : kc_234.all (fun c => c.all (tdB prog_15_method_55_code)) = true := by decide +kernel
theorem tB_235 : kc_235.all (fun c => c.all (tdB prog_15_method_56_code)) = true := by decide +kernel
theorem tB_236 : kc_236.all (fun c => c.all (tdB prog_15_method_57_code)) = true := by decide +kernel
theorem tB_237 : kc_237.all (fun c => c.all (tdB prog_15_method_58_code)) = true := by decide +kernel
theorem tB_238 : kc_238.all (fun c => c.all (tdB prog_15_method_59_code)) = true := by decide +kernel
theorem tB_239 : kc_239.all (fun c => c.all (tdB prog_15_method_60_code)) = true := by decide +kernel
