/-! THE LAW'S CALLS -/
def sx (xs : Nat → Int32) (z : Int) : Int := (xs z.toNat).toInt
theorem sx_in (xs : Nat → Int32) (z : Int) : inR (sx xs z) := iz_rng _
def LX (K : VK) (b Ln : Nat) (xs : Nat → Int32) : Prop := VX K cL_law 4 (Cond.arrayClass .int :: wsL_law) RL ∧ K.1.2.2.2.1 = room_1 ∧ va_X b Ln xs K.1.2.2.2.2 K.1.2.2.2.2.heap ∧ b < K.1.2.2.2.2.heap.size ∧ ¬ K.2.2.2.1 b ∧ Ln ≤ 3584
def LawK (K : VK) (b : Nat) (i : Int) (cells slots : Nat) : Prop := ∀ (N : Nat) (sh : MS) (ad : Nat → Nat) (M L : MI) (R : MR), Inv N sh M L R → iDis N sh R → V K 4 cells slots N sh ad M L R [(3, .int (iz i)), (2, .ref (ad 53)), (1, .ref (ad 0)), (0, .ref b)] [] 984
section LawS
variable {K : VK} {b Ln cells slots N : Nat} {xs : Nat → Int32} {sh : MS} {ad : Nat → Nat} {M L : MI} {R : MR} {lv : List (Nat × Value)} {st : List Value} {pc : Nat}
theorem v_sld (Y : LX K b Ln xs) {z : Int} (h0 : 0 ≤ z) (h1 : z < Ln) (hd : decode cL_law pc = .ok (.iaload, 1)) (kk : V K 4 cells slots N sh ad M L R lv (.int (iz (sx xs z)) :: st) (pc + 1)) : V K 4 cells slots N sh ad M L R lv (.int (iz z) :: .ref b :: st) pc := fun H locs ls hW hS hL => by
  have hn := Y.2.2.2.2.2
  refine va_sld Y.1.1 Y.1.2.1 Y.2.2.1 Y.2.2.2.1 Y.2.2.2.2.1 hS (iz_in h0 h1 (by omega)) hd ?_
  have e : xs (iz z).toNatClampNeg = iz (sx xs z) := by
    rw [iz_nc ⟨by omega, by omega⟩]
    exact (iz_self _).symm
  rw [e]
  exact kk H locs ls hW hS hL
theorem v_slen (Y : LX K b Ln xs) (hd : decode cL_law pc = .ok (.arraylength, 1)) (kk : V K 4 cells slots N sh ad M L R lv (.int (iz (Ln : Int)) :: st) (pc + 1)) : V K 4 cells slots N sh ad M L R lv (.ref b :: st) pc := fun H locs ls hW hS hL => by
  refine va_slen Y.1.1 Y.1.2.1 Y.2.2.1 Y.2.2.2.1 Y.2.2.2.2.1 hS hd ?_
  rw [iz_ofNat Ln]
  exact kk H locs ls hW hS hL
set_option maxHeartbeats 1000000 in
theorem law_feed (Y : LX K b Ln xs) (h : Inv N sh M L R) (hD : iDis N sh R) {i : Int} (h0 : 0 ≤ i) (h1 : i + 7 ≤ (Ln : Int)) (hc : cells + 2 ≤ 600000) (hs : slots + 14 ≤ 7302250) (kk : LawK K b i (cells + 2) (slots + 14)) : V K 4 cells slots N sh ad M L R [(3, .int (iz i)), (2, .ref (ad 53)), (1, .ref (ad 0)), (0, .ref b)] [] 144 := by
  have X := Y.1
  have hN := h.1.1
  refine v_aload_n X 2 dL_law_144 rfl rfl ?_
  refine v_aload_n X 3 dL_law_145 rfl rfl ?_
  refine v_iload_n X 0 dL_law_146 rfl rfl ?_
  refine v_iconst X dL_law_147 ?_
  refine v_iadd X dL_law_148 ?_
  refine v_sld Y (by omega) (by omega) dL_law_149 ?_
  refine v_aload_n X 3 dL_law_150 rfl rfl ?_
  refine v_iload_n X 0 dL_law_151 rfl rfl ?_
  refine v_iconst X dL_law_152 ?_
  refine v_iadd X dL_law_153 ?_
  refine v_sld Y (by omega) (by omega) dL_law_154 ?_
  refine v_aload_n X 3 dL_law_155 rfl rfl ?_
  refine v_iload_n X 0 dL_law_156 rfl rfl ?_
  refine v_iconst X dL_law_157 ?_
  refine v_iadd X dL_law_158 ?_
  refine v_sld Y (by omega) (by omega) dL_law_159 ?_
  refine v_aload_n X 3 dL_law_160 rfl rfl ?_
  refine v_iload_n X 0 dL_law_161 rfl rfl ?_
  refine v_iconst X dL_law_162 ?_
  refine v_iadd X dL_law_163 ?_
  refine v_sld Y (by omega) (by omega) dL_law_164 ?_
  refine v_aload_n X 3 dL_law_165 rfl rfl ?_
  refine v_iload_n X 0 dL_law_166 rfl rfl ?_
  refine v_iconst X dL_law_167 ?_
  refine v_iadd X dL_law_168 ?_
  refine v_sld Y (by omega) (by omega) dL_law_169 ?_
  refine v_callV X [.int (iz (sx xs (i + 1))), .int (iz (sx xs (i + 2))), .int (iz (sx xs (i + 3))), .int (iz (sx xs (i + 4))), .int (iz (sx xs (i + 5)))] Y.2.1 (two_feed (sx_in _ _) (sx_in _ _) (sx_in _ _) (sx_in _ _) (sx_in _ _) _ _ _ _ _ _ _ _ _ h hD) (gV bw_10_11 bw_10_12 bw_10_13 bw_1_2 bw_10_14) rfl ddX11_feed ⟨Nat.le_of_ble_eq_true rfl, Nat.le_of_ble_eq_true rfl, (show cells + 0 ≤ 600000 by omega), (show slots + 0 ≤ 7302250 by omega)⟩ (Std.lt h.1 rfl) (Std.k h.1 rfl rfl) ⟨rfl, by decide⟩ (Nat.le_of_ble_eq_true rfl) dL_law_170 ?_
  rintro _ N1 sh1 ad1 M1 L1 R1 ⟨r, rfl, hr, ha, hS1, hC2⟩
  rw [← ha 0 (by omega), ← ha 53 (by omega)]
  refine v_st (st' := [.int (iz r)]) rfl ?_
  refine v_aload_n X 1 dL_law_173 rfl rfl ?_
  refine v_aload_n X 3 dL_law_174 rfl rfl ?_
  refine v_iload_n X 0 dL_law_175 rfl rfl ?_
  refine v_iconst X dL_law_176 ?_
  refine v_iadd X dL_law_177 ?_
  refine v_sld Y (by omega) (by omega) dL_law_178 ?_
  refine v_aload_n X 3 dL_law_179 rfl rfl ?_
  refine v_iload_n X 0 dL_law_180 rfl rfl ?_
  refine v_iconst X dL_law_181 ?_
  refine v_iadd X dL_law_182 ?_
  refine v_sld Y (by omega) (by omega) dL_law_183 ?_
  refine v_aload_n X 3 dL_law_184 rfl rfl ?_
  refine v_iload_n X 0 dL_law_185 rfl rfl ?_
  refine v_iconst X dL_law_186 ?_
  refine v_iadd X dL_law_187 ?_
  refine v_sld Y (by omega) (by omega) dL_law_188 ?_
  refine v_aload_n X 3 dL_law_189 rfl rfl ?_
  refine v_iload_n X 0 dL_law_190 rfl rfl ?_
  refine v_iconst X dL_law_191 ?_
  refine v_iadd X dL_law_192 ?_
  refine v_sld Y (by omega) (by omega) dL_law_193 ?_
  refine v_aload_n X 3 dL_law_194 rfl rfl ?_
  refine v_iload_n X 0 dL_law_195 rfl rfl ?_
  refine v_iconst X dL_law_196 ?_
  refine v_iadd X dL_law_197 ?_
  refine v_sld Y (by omega) (by omega) dL_law_198 ?_
  refine v_callV X [.int (iz (sx xs (i + 1))), .int (iz (sx xs (i + 2))), .int (iz (sx xs (i + 3))), .int (iz (sx xs (i + 4))), .int (iz (sx xs (i + 5)))] Y.2.1 hC2 (gV bw_11_0 bw_11_1 bw_11_2 bw_1_5 bw_11_3) rfl ddX12_feed ⟨Nat.le_of_ble_eq_true rfl, Nat.le_of_ble_eq_true rfl, (show cells + 0 + 0 ≤ 600000 by omega), (show slots + 0 + 0 ≤ 7302250 by omega)⟩ (Std.lt hS1 rfl) (Std.k hS1 rfl rfl) ⟨rfl, by decide⟩ (Nat.le_of_ble_eq_true rfl) dL_law_199 ?_
  rintro _ N2 sh2 ad2 M2 L2 R2 ⟨r2, rfl, hr2, e, rfl, h2, hD2⟩
  refine v_st (st' := [.int (iz r2), .int (iz r)]) rfl ?_
  refine v_icmp_eq X 984 dL_law_202 (by decide) hr hr2 (fun _ => ?_) (fun q => absurd e q)
  exact v_widen (show cells + 0 + 0 ≤ cells + 2 by omega) (show slots + 0 + 0 ≤ slots + 14 by omega) (kk _ _ _ _ _ _ h2 hD2)
set_option maxHeartbeats 1000000 in
theorem law_back (Y : LX K b Ln xs) (h : Inv N sh M L R) (hD : iDis N sh R) {i : Int} (h0 : 0 ≤ i) (h1 : i + 7 ≤ (Ln : Int)) (hc : cells + 2 ≤ 600000) (hs : slots + 14 ≤ 7302250) (kk : LawK K b i (cells + 2) (slots + 14)) : V K 4 cells slots N sh ad M L R [(3, .int (iz i)), (2, .ref (ad 53)), (1, .ref (ad 0)), (0, .ref b)] [] 207 := by
  have X := Y.1
  have hN := h.1.1
  refine v_aload_n X 2 dL_law_207 rfl rfl ?_
  refine v_aload_n X 3 dL_law_208 rfl rfl ?_
  refine v_iload_n X 0 dL_law_209 rfl rfl ?_
  refine v_iconst X dL_law_210 ?_
  refine v_iadd X dL_law_211 ?_
  refine v_sld Y (by omega) (by omega) dL_law_212 ?_
  refine v_callV X [.int (iz (sx xs (i + 1)))] Y.2.1 (two_back (sx_in _ _) _ _ _ _ _ _ _ _ _ h hD) (gV bw_11_9 bw_11_10 bw_11_11 bw_1_2 bw_11_12) rfl ddX11_back ⟨Nat.le_of_ble_eq_true rfl, Nat.le_of_ble_eq_true rfl, (show cells + 0 ≤ 600000 by omega), (show slots + 0 ≤ 7302250 by omega)⟩ (Std.lt h.1 rfl) (Std.k h.1 rfl rfl) ⟨rfl, by decide⟩ (Nat.le_of_ble_eq_true rfl) dL_law_213 ?_
  rintro _ N1 sh1 ad1 M1 L1 R1 ⟨r, rfl, hr, ha, hS1, hC2⟩
  rw [← ha 0 (by omega), ← ha 53 (by omega)]
  refine v_st (st' := [.int (iz r)]) rfl ?_
  refine v_aload_n X 1 dL_law_216 rfl rfl ?_
  refine v_aload_n X 3 dL_law_217 rfl rfl ?_
  refine v_iload_n X 0 dL_law_218 rfl rfl ?_
  refine v_iconst X dL_law_219 ?_
  refine v_iadd X dL_law_220 ?_
  refine v_sld Y (by omega) (by omega) dL_law_221 ?_
  refine v_callV X [.int (iz (sx xs (i + 1)))] Y.2.1 hC2 (gV bw_11_16 bw_11_17 bw_11_18 bw_1_5 bw_11_19) rfl ddX12_back ⟨Nat.le_of_ble_eq_true rfl, Nat.le_of_ble_eq_true rfl, (show cells + 0 + 0 ≤ 600000 by omega), (show slots + 0 + 0 ≤ 7302250 by omega)⟩ (Std.lt hS1 rfl) (Std.k hS1 rfl rfl) ⟨rfl, by decide⟩ (Nat.le_of_ble_eq_true rfl) dL_law_222 ?_
  rintro _ N2 sh2 ad2 M2 L2 R2 ⟨r2, rfl, hr2, e, rfl, h2, hD2⟩
  refine v_st (st' := [.int (iz r2), .int (iz r)]) rfl ?_
  refine v_icmp_eq X 984 dL_law_225 (by decide) hr hr2 (fun _ => ?_) (fun q => absurd e q)
  exact v_widen (show cells + 0 + 0 ≤ cells + 2 by omega) (show slots + 0 + 0 ≤ slots + 14 by omega) (kk _ _ _ _ _ _ h2 hD2)
set_option maxHeartbeats 1000000 in
theorem law_read (Y : LX K b Ln xs) (h : Inv N sh M L R) (hD : iDis N sh R) {i : Int} (h0 : 0 ≤ i) (h1 : i + 7 ≤ (Ln : Int)) (hc : cells + 2 ≤ 600000) (hs : slots + 14 ≤ 7302250) (kk : LawK K b i (cells + 2) (slots + 14)) : V K 4 cells slots N sh ad M L R [(3, .int (iz i)), (2, .ref (ad 53)), (1, .ref (ad 0)), (0, .ref b)] [] 230 := by
  have X := Y.1
  have hN := h.1.1
  refine v_aload_n X 2 dL_law_230 rfl rfl ?_
  refine v_callV X [] Y.2.1 (two_read  _ _ _ _ _ _ _ _ _ h hD) (gV bw_11_20 bw_11_21 bw_11_22 bw_1_2 bw_11_23) rfl ddX11_read ⟨Nat.le_of_ble_eq_true rfl, Nat.le_of_ble_eq_true rfl, (show cells + 0 ≤ 600000 by omega), (show slots + 0 ≤ 7302250 by omega)⟩ (Std.lt h.1 rfl) (Std.k h.1 rfl rfl) ⟨rfl, by decide⟩ (Nat.le_of_ble_eq_true rfl) dL_law_231 ?_
  rintro _ N1 sh1 ad1 M1 L1 R1 ⟨r, rfl, hr, ha, hS1, hC2⟩
  rw [← ha 0 (by omega), ← ha 53 (by omega)]
  refine v_st (st' := [.int (iz r)]) rfl ?_
  refine v_aload_n X 1 dL_law_234 rfl rfl ?_
  refine v_callV X [] Y.2.1 hC2 (gV bw_19_6 bw_19_7 bw_19_8 bw_1_5 bw_19_9) rfl ddX12_read ⟨Nat.le_of_ble_eq_true rfl, Nat.le_of_ble_eq_true rfl, (show cells + 0 + 0 ≤ 600000 by omega), (show slots + 0 + 0 ≤ 7302250 by omega)⟩ (Std.lt hS1 rfl) (Std.k hS1 rfl rfl) ⟨rfl, by decide⟩ (Nat.le_of_ble_eq_true rfl) dL_law_235 ?_
  rintro _ N2 sh2 ad2 M2 L2 R2 ⟨r2, rfl, hr2, e, rfl, h2, hD2⟩
  refine v_st (st' := [.int (iz r2), .int (iz r)]) rfl ?_
  refine v_icmp_eq X 984 dL_law_238 (by decide) hr hr2 (fun _ => ?_) (fun q => absurd e q)
  exact v_widen (show cells + 0 + 0 ≤ cells + 2 by omega) (show slots + 0 + 0 ≤ slots + 14 by omega) (kk _ _ _ _ _ _ h2 hD2)
set_option maxHeartbeats 1000000 in
theorem law_place (Y : LX K b Ln xs) (h : Inv N sh M L R) (hD : iDis N sh R) {i : Int} (h0 : 0 ≤ i) (h1 : i + 7 ≤ (Ln : Int)) (hc : cells + 2 ≤ 600000) (hs : slots + 14 ≤ 7302250) (kk : LawK K b i (cells + 2) (slots + 14)) : V K 4 cells slots N sh ad M L R [(3, .int (iz i)), (2, .ref (ad 53)), (1, .ref (ad 0)), (0, .ref b)] [] 243 := by
  have X := Y.1
  have hN := h.1.1
  refine v_aload_n X 2 dL_law_243 rfl rfl ?_
  refine v_callV X [] Y.2.1 (two_place  _ _ _ _ _ _ _ _ _ h hD) (gV bw_22_7 bw_22_8 bw_22_9 bw_1_2 bw_22_10) rfl ddX11_place ⟨Nat.le_of_ble_eq_true rfl, Nat.le_of_ble_eq_true rfl, (show cells + 0 ≤ 600000 by omega), (show slots + 0 ≤ 7302250 by omega)⟩ (Std.lt h.1 rfl) (Std.k h.1 rfl rfl) ⟨rfl, by decide⟩ (Nat.le_of_ble_eq_true rfl) dL_law_244 ?_
  rintro _ N1 sh1 ad1 M1 L1 R1 ⟨r, rfl, hr, ha, hS1, hC2⟩
  rw [← ha 0 (by omega), ← ha 53 (by omega)]
  refine v_st (st' := [.int (iz r)]) rfl ?_
  refine v_aload_n X 1 dL_law_247 rfl rfl ?_
  refine v_callV X [] Y.2.1 hC2 (gV bw_22_11 bw_22_12 bw_22_13 bw_1_5 bw_22_14) rfl ddX12_place ⟨Nat.le_of_ble_eq_true rfl, Nat.le_of_ble_eq_true rfl, (show cells + 0 + 0 ≤ 600000 by omega), (show slots + 0 + 0 ≤ 7302250 by omega)⟩ (Std.lt hS1 rfl) (Std.k hS1 rfl rfl) ⟨rfl, by decide⟩ (Nat.le_of_ble_eq_true rfl) dL_law_248 ?_
  rintro _ N2 sh2 ad2 M2 L2 R2 ⟨r2, rfl, hr2, e, rfl, h2, hD2⟩
  refine v_st (st' := [.int (iz r2), .int (iz r)]) rfl ?_
  refine v_icmp_eq X 984 dL_law_251 (by decide) hr hr2 (fun _ => ?_) (fun q => absurd e q)
  exact v_widen (show cells + 0 + 0 ≤ cells + 2 by omega) (show slots + 0 + 0 ≤ slots + 14 by omega) (kk _ _ _ _ _ _ h2 hD2)
set_option maxHeartbeats 1000000 in
theorem law_act (Y : LX K b Ln xs) (h : Inv N sh M L R) (hD : iDis N sh R) {i : Int} (h0 : 0 ≤ i) (h1 : i + 7 ≤ (Ln : Int)) (hc : cells + 2 ≤ 600000) (hs : slots + 14 ≤ 7302250) (kk : LawK K b i (cells + 2) (slots + 14)) : V K 4 cells slots N sh ad M L R [(3, .int (iz i)), (2, .ref (ad 53)), (1, .ref (ad 0)), (0, .ref b)] [] 256 := by
  have X := Y.1
  have hN := h.1.1
  refine v_aload_n X 2 dL_law_256 rfl rfl ?_
  refine v_aload_n X 3 dL_law_257 rfl rfl ?_
  refine v_iload_n X 0 dL_law_258 rfl rfl ?_
  refine v_iconst X dL_law_259 ?_
  refine v_iadd X dL_law_260 ?_
  refine v_sld Y (by omega) (by omega) dL_law_261 ?_
  refine v_aload_n X 3 dL_law_262 rfl rfl ?_
  refine v_iload_n X 0 dL_law_263 rfl rfl ?_
  refine v_iconst X dL_law_264 ?_
  refine v_iadd X dL_law_265 ?_
  refine v_sld Y (by omega) (by omega) dL_law_266 ?_
  refine v_aload_n X 3 dL_law_267 rfl rfl ?_
  refine v_iload_n X 0 dL_law_268 rfl rfl ?_
  refine v_iconst X dL_law_269 ?_
  refine v_iadd X dL_law_270 ?_
  refine v_sld Y (by omega) (by omega) dL_law_271 ?_
  refine v_aload_n X 3 dL_law_272 rfl rfl ?_
  refine v_iload_n X 0 dL_law_273 rfl rfl ?_
  refine v_iconst X dL_law_274 ?_
  refine v_iadd X dL_law_275 ?_
  refine v_sld Y (by omega) (by omega) dL_law_276 ?_
  refine v_aload_n X 3 dL_law_277 rfl rfl ?_
  refine v_iload_n X 0 dL_law_278 rfl rfl ?_
  refine v_iconst X dL_law_279 ?_
  refine v_iadd X dL_law_280 ?_
  refine v_sld Y (by omega) (by omega) dL_law_281 ?_
  refine v_aload_n X 3 dL_law_282 rfl rfl ?_
  refine v_iload_n X 0 dL_law_283 rfl rfl ?_
  refine v_bipush X dL_law_284 (by decide) ?_
  refine v_iadd X dL_law_286 ?_
  refine v_sld Y (by omega) (by omega) dL_law_287 ?_
  refine v_callV X [.int (iz (sx xs (i + 1))), .int (iz (sx xs (i + 2))), .int (iz (sx xs (i + 3))), .int (iz (sx xs (i + 4))), .int (iz (sx xs (i + 5))), .int (iz (sx xs (i + 6)))] Y.2.1 (two_act (sx_in _ _) (sx_in _ _) (sx_in _ _) (sx_in _ _) (sx_in _ _) (sx_in _ _) _ _ _ _ _ _ _ _ _ h hD) (gV bw_22_15 bw_22_16 bw_22_17 bw_1_2 bw_22_18) rfl ddX11_act ⟨Nat.le_of_ble_eq_true rfl, Nat.le_of_ble_eq_true rfl, (show cells + 2 ≤ 600000 by omega), (show slots + 14 ≤ 7302250 by omega)⟩ (Std.lt h.1 rfl) (Std.k h.1 rfl rfl) ⟨rfl, by decide⟩ (Nat.le_of_ble_eq_true rfl) dL_law_288 ?_
  rintro _ N1 sh1 ad1 M1 L1 R1 ⟨r, rfl, hr, ha, hS1, hC2⟩
  rw [← ha 0 (by omega), ← ha 53 (by omega)]
  refine v_st (st' := [.int (iz r)]) rfl ?_
  refine v_aload_n X 1 dL_law_291 rfl rfl ?_
  refine v_aload_n X 3 dL_law_292 rfl rfl ?_
  refine v_iload_n X 0 dL_law_293 rfl rfl ?_
  refine v_iconst X dL_law_294 ?_
  refine v_iadd X dL_law_295 ?_
  refine v_sld Y (by omega) (by omega) dL_law_296 ?_
  refine v_aload_n X 3 dL_law_297 rfl rfl ?_
  refine v_iload_n X 0 dL_law_298 rfl rfl ?_
  refine v_iconst X dL_law_299 ?_
  refine v_iadd X dL_law_300 ?_
  refine v_sld Y (by omega) (by omega) dL_law_301 ?_
  refine v_aload_n X 3 dL_law_302 rfl rfl ?_
  refine v_iload_n X 0 dL_law_303 rfl rfl ?_
  refine v_iconst X dL_law_304 ?_
  refine v_iadd X dL_law_305 ?_
  refine v_sld Y (by omega) (by omega) dL_law_306 ?_
  refine v_aload_n X 3 dL_law_307 rfl rfl ?_
  refine v_iload_n X 0 dL_law_308 rfl rfl ?_
  refine v_iconst X dL_law_309 ?_
  refine v_iadd X dL_law_310 ?_
  refine v_sld Y (by omega) (by omega) dL_law_311 ?_
  refine v_aload_n X 3 dL_law_312 rfl rfl ?_
  refine v_iload_n X 0 dL_law_313 rfl rfl ?_
  refine v_iconst X dL_law_314 ?_
  refine v_iadd X dL_law_315 ?_
  refine v_sld Y (by omega) (by omega) dL_law_316 ?_
  refine v_aload_n X 3 dL_law_317 rfl rfl ?_
  refine v_iload_n X 0 dL_law_318 rfl rfl ?_
  refine v_bipush X dL_law_319 (by decide) ?_
  refine v_iadd X dL_law_321 ?_
  refine v_sld Y (by omega) (by omega) dL_law_322 ?_
  refine v_callV X [.int (iz (sx xs (i + 1))), .int (iz (sx xs (i + 2))), .int (iz (sx xs (i + 3))), .int (iz (sx xs (i + 4))), .int (iz (sx xs (i + 5))), .int (iz (sx xs (i + 6)))] Y.2.1 hC2 (gV bw_23_16 bw_23_17 bw_23_18 bw_1_5 bw_23_19) rfl ddX12_act ⟨Nat.le_of_ble_eq_true rfl, Nat.le_of_ble_eq_true rfl, (show cells + 2 + 0 ≤ 600000 by omega), (show slots + 14 + 0 ≤ 7302250 by omega)⟩ (Std.lt hS1 rfl) (Std.k hS1 rfl rfl) ⟨rfl, by decide⟩ (Nat.le_of_ble_eq_true rfl) dL_law_323 ?_
  rintro _ N2 sh2 ad2 M2 L2 R2 ⟨r2, rfl, hr2, e, rfl, h2, hD2⟩
  refine v_st (st' := [.int (iz r2), .int (iz r)]) rfl ?_
  refine v_icmp_eq X 984 dL_law_326 (by decide) hr hr2 (fun _ => ?_) (fun q => absurd e q)
  exact v_widen (show cells + 2 + 0 ≤ cells + 2 by omega) (show slots + 14 + 0 ≤ slots + 14 by omega) (kk _ _ _ _ _ _ h2 hD2)
set_option maxHeartbeats 1000000 in
theorem law_figure (Y : LX K b Ln xs) (h : Inv N sh M L R) (hD : iDis N sh R) {i : Int} (h0 : 0 ≤ i) (h1 : i + 7 ≤ (Ln : Int)) (hc : cells + 2 ≤ 600000) (hs : slots + 14 ≤ 7302250) (kk : LawK K b i (cells + 2) (slots + 14)) : V K 4 cells slots N sh ad M L R [(3, .int (iz i)), (2, .ref (ad 53)), (1, .ref (ad 0)), (0, .ref b)] [] 331 := by
  have X := Y.1
  have hN := h.1.1
  by_cases hb0 : sx xs (i + 5) = 0
  · skip
    refine v_aload_n X 2 dL_law_331 rfl rfl ?_
    refine v_aload_n X 3 dL_law_332 rfl rfl ?_
    refine v_iload_n X 0 dL_law_333 rfl rfl ?_
    refine v_iconst X dL_law_334 ?_
    refine v_iadd X dL_law_335 ?_
    refine v_sld Y (by omega) (by omega) dL_law_336 ?_
    refine v_aload_n X 3 dL_law_337 rfl rfl ?_
    refine v_iload_n X 0 dL_law_338 rfl rfl ?_
    refine v_iconst X dL_law_339 ?_
    refine v_iadd X dL_law_340 ?_
    refine v_sld Y (by omega) (by omega) dL_law_341 ?_
    refine v_aload_n X 3 dL_law_342 rfl rfl ?_
    refine v_iload_n X 0 dL_law_343 rfl rfl ?_
    refine v_iconst X dL_law_344 ?_
    refine v_iadd X dL_law_345 ?_
    refine v_sld Y (by omega) (by omega) dL_law_346 ?_
    refine v_aload_n X 3 dL_law_347 rfl rfl ?_
    refine v_iload_n X 0 dL_law_348 rfl rfl ?_
    refine v_iconst X dL_law_349 ?_
    refine v_iadd X dL_law_350 ?_
    refine v_sld Y (by omega) (by omega) dL_law_351 ?_
    refine v_aload_n X 3 dL_law_352 rfl rfl ?_
    refine v_iload_n X 0 dL_law_353 rfl rfl ?_
    refine v_iconst X dL_law_354 ?_
    refine v_iadd X dL_law_355 ?_
    refine v_sld Y (by omega) (by omega) dL_law_356 ?_
    refine v_if_eq X 364 dL_law_357 (by decide) (sx_in _ _) (fun _ => ?_) (fun q => absurd hb0 q)
    refine v_iconst X dL_law_364 ?_
    refine v_callV X [.int (iz (sx xs (i + 1))), .int (iz (sx xs (i + 2))), .int (iz (sx xs (i + 3))), .int (iz (sx xs (i + 4))), .int (iz 0)] Y.2.1 (two_figure (sx_in _ _) (sx_in _ _) (sx_in _ _) (sx_in _ _) (by decide) _ _ _ _ _ _ _ _ _ h hD) (gV bw_23_21 bw_23_22 bw_23_23 bw_1_2 bw_24_0) rfl ddX11_figure ⟨Nat.le_of_ble_eq_true rfl, Nat.le_of_ble_eq_true rfl, (show cells + 1 ≤ 600000 by omega), (show slots + 4 ≤ 7302250 by omega)⟩ (Std.lt h.1 rfl) (Std.k h.1 rfl rfl) ⟨rfl, by decide⟩ (Nat.le_of_ble_eq_true rfl) dL_law_365 ?_
    rintro _ N1 sh1 ad1 M1 L1 R1 ⟨r, rfl, hr, ha, hS1, hC2⟩
    rw [← ha 0 (by omega), ← ha 53 (by omega)]
    refine v_st (st' := [.int (iz r)]) rfl ?_
    refine v_aload_n X 1 dL_law_368 rfl rfl ?_
    refine v_aload_n X 3 dL_law_369 rfl rfl ?_
    refine v_iload_n X 0 dL_law_370 rfl rfl ?_
    refine v_iconst X dL_law_371 ?_
    refine v_iadd X dL_law_372 ?_
    refine v_sld Y (by omega) (by omega) dL_law_373 ?_
    refine v_aload_n X 3 dL_law_374 rfl rfl ?_
    refine v_iload_n X 0 dL_law_375 rfl rfl ?_
    refine v_iconst X dL_law_376 ?_
    refine v_iadd X dL_law_377 ?_
    refine v_sld Y (by omega) (by omega) dL_law_378 ?_
    refine v_aload_n X 3 dL_law_379 rfl rfl ?_
    refine v_iload_n X 0 dL_law_380 rfl rfl ?_
    refine v_iconst X dL_law_381 ?_
    refine v_iadd X dL_law_382 ?_
    refine v_sld Y (by omega) (by omega) dL_law_383 ?_
    refine v_aload_n X 3 dL_law_384 rfl rfl ?_
    refine v_iload_n X 0 dL_law_385 rfl rfl ?_
    refine v_iconst X dL_law_386 ?_
    refine v_iadd X dL_law_387 ?_
    refine v_sld Y (by omega) (by omega) dL_law_388 ?_
    refine v_aload_n X 3 dL_law_389 rfl rfl ?_
    refine v_iload_n X 0 dL_law_390 rfl rfl ?_
    refine v_iconst X dL_law_391 ?_
    refine v_iadd X dL_law_392 ?_
    refine v_sld Y (by omega) (by omega) dL_law_393 ?_
    refine v_if_eq X 401 dL_law_394 (by decide) (sx_in _ _) (fun _ => ?_) (fun q => absurd hb0 q)
    refine v_iconst X dL_law_401 ?_
    refine v_callV X [.int (iz (sx xs (i + 1))), .int (iz (sx xs (i + 2))), .int (iz (sx xs (i + 3))), .int (iz (sx xs (i + 4))), .int (iz 0)] Y.2.1 hC2 (gV bw_24_21 bw_24_22 bw_24_23 bw_1_5 bw_25_0) rfl ddX12_figure ⟨Nat.le_of_ble_eq_true rfl, Nat.le_of_ble_eq_true rfl, (show cells + 1 + 0 ≤ 600000 by omega), (show slots + 4 + 0 ≤ 7302250 by omega)⟩ (Std.lt hS1 rfl) (Std.k hS1 rfl rfl) ⟨rfl, by decide⟩ (Nat.le_of_ble_eq_true rfl) dL_law_402 ?_
    rintro _ N2 sh2 ad2 M2 L2 R2 ⟨r2, rfl, hr2, e, rfl, h2, hD2⟩
    refine v_st (st' := [.int (iz r2), .int (iz r)]) rfl ?_
    refine v_icmp_eq X 984 dL_law_405 (by decide) hr hr2 (fun _ => ?_) (fun q => absurd e q)
    exact v_widen (show cells + 1 + 0 ≤ cells + 2 by omega) (show slots + 4 + 0 ≤ slots + 14 by omega) (kk _ _ _ _ _ _ h2 hD2)
  · skip
    refine v_aload_n X 2 dL_law_331 rfl rfl ?_
    refine v_aload_n X 3 dL_law_332 rfl rfl ?_
    refine v_iload_n X 0 dL_law_333 rfl rfl ?_
    refine v_iconst X dL_law_334 ?_
    refine v_iadd X dL_law_335 ?_
    refine v_sld Y (by omega) (by omega) dL_law_336 ?_
    refine v_aload_n X 3 dL_law_337 rfl rfl ?_
    refine v_iload_n X 0 dL_law_338 rfl rfl ?_
    refine v_iconst X dL_law_339 ?_
    refine v_iadd X dL_law_340 ?_
    refine v_sld Y (by omega) (by omega) dL_law_341 ?_
    refine v_aload_n X 3 dL_law_342 rfl rfl ?_
    refine v_iload_n X 0 dL_law_343 rfl rfl ?_
    refine v_iconst X dL_law_344 ?_
    refine v_iadd X dL_law_345 ?_
    refine v_sld Y (by omega) (by omega) dL_law_346 ?_
    refine v_aload_n X 3 dL_law_347 rfl rfl ?_
    refine v_iload_n X 0 dL_law_348 rfl rfl ?_
    refine v_iconst X dL_law_349 ?_
    refine v_iadd X dL_law_350 ?_
    refine v_sld Y (by omega) (by omega) dL_law_351 ?_
    refine v_aload_n X 3 dL_law_352 rfl rfl ?_
    refine v_iload_n X 0 dL_law_353 rfl rfl ?_
    refine v_iconst X dL_law_354 ?_
    refine v_iadd X dL_law_355 ?_
    refine v_sld Y (by omega) (by omega) dL_law_356 ?_
    refine v_if_eq X 364 dL_law_357 (by decide) (sx_in _ _) (fun q => absurd q hb0) (fun _ => ?_)
    refine v_iconst X dL_law_360 ?_
    refine v_goto X 365 dL_law_361 (by decide) ?_
    refine v_callV X [.int (iz (sx xs (i + 1))), .int (iz (sx xs (i + 2))), .int (iz (sx xs (i + 3))), .int (iz (sx xs (i + 4))), .int (iz 1)] Y.2.1 (two_figure (sx_in _ _) (sx_in _ _) (sx_in _ _) (sx_in _ _) (by decide) _ _ _ _ _ _ _ _ _ h hD) (gV bw_23_21 bw_23_22 bw_23_23 bw_1_2 bw_24_0) rfl ddX11_figure ⟨Nat.le_of_ble_eq_true rfl, Nat.le_of_ble_eq_true rfl, (show cells + 1 ≤ 600000 by omega), (show slots + 4 ≤ 7302250 by omega)⟩ (Std.lt h.1 rfl) (Std.k h.1 rfl rfl) ⟨rfl, by decide⟩ (Nat.le_of_ble_eq_true rfl) dL_law_365 ?_
    rintro _ N1 sh1 ad1 M1 L1 R1 ⟨r, rfl, hr, ha, hS1, hC2⟩
    rw [← ha 0 (by omega), ← ha 53 (by omega)]
    refine v_st (st' := [.int (iz r)]) rfl ?_
    refine v_aload_n X 1 dL_law_368 rfl rfl ?_
    refine v_aload_n X 3 dL_law_369 rfl rfl ?_
    refine v_iload_n X 0 dL_law_370 rfl rfl ?_
    refine v_iconst X dL_law_371 ?_
    refine v_iadd X dL_law_372 ?_
    refine v_sld Y (by omega) (by omega) dL_law_373 ?_
    refine v_aload_n X 3 dL_law_374 rfl rfl ?_
    refine v_iload_n X 0 dL_law_375 rfl rfl ?_
    refine v_iconst X dL_law_376 ?_
    refine v_iadd X dL_law_377 ?_
    refine v_sld Y (by omega) (by omega) dL_law_378 ?_
    refine v_aload_n X 3 dL_law_379 rfl rfl ?_
    refine v_iload_n X 0 dL_law_380 rfl rfl ?_
    refine v_iconst X dL_law_381 ?_
    refine v_iadd X dL_law_382 ?_
    refine v_sld Y (by omega) (by omega) dL_law_383 ?_
    refine v_aload_n X 3 dL_law_384 rfl rfl ?_
    refine v_iload_n X 0 dL_law_385 rfl rfl ?_
    refine v_iconst X dL_law_386 ?_
    refine v_iadd X dL_law_387 ?_
    refine v_sld Y (by omega) (by omega) dL_law_388 ?_
    refine v_aload_n X 3 dL_law_389 rfl rfl ?_
    refine v_iload_n X 0 dL_law_390 rfl rfl ?_
    refine v_iconst X dL_law_391 ?_
    refine v_iadd X dL_law_392 ?_
    refine v_sld Y (by omega) (by omega) dL_law_393 ?_
    refine v_if_eq X 401 dL_law_394 (by decide) (sx_in _ _) (fun q => absurd q hb0) (fun _ => ?_)
    refine v_iconst X dL_law_397 ?_
    refine v_goto X 402 dL_law_398 (by decide) ?_
    refine v_callV X [.int (iz (sx xs (i + 1))), .int (iz (sx xs (i + 2))), .int (iz (sx xs (i + 3))), .int (iz (sx xs (i + 4))), .int (iz 1)] Y.2.1 hC2 (gV bw_24_21 bw_24_22 bw_24_23 bw_1_5 bw_25_0) rfl ddX12_figure ⟨Nat.le_of_ble_eq_true rfl, Nat.le_of_ble_eq_true rfl, (show cells + 1 + 0 ≤ 600000 by omega), (show slots + 4 + 0 ≤ 7302250 by omega)⟩ (Std.lt hS1 rfl) (Std.k hS1 rfl rfl) ⟨rfl, by decide⟩ (Nat.le_of_ble_eq_true rfl) dL_law_402 ?_
    rintro _ N2 sh2 ad2 M2 L2 R2 ⟨r2, rfl, hr2, e, rfl, h2, hD2⟩
    refine v_st (st' := [.int (iz r2), .int (iz r)]) rfl ?_
    refine v_icmp_eq X 984 dL_law_405 (by decide) hr hr2 (fun _ => ?_) (fun q => absurd e q)
    exact v_widen (show cells + 1 + 0 ≤ cells + 2 by omega) (show slots + 4 + 0 ≤ slots + 14 by omega) (kk _ _ _ _ _ _ h2 hD2)
set_option maxHeartbeats 1000000 in
theorem law_falls (Y : LX K b Ln xs) (h : Inv N sh M L R) (hD : iDis N sh R) {i : Int} (h0 : 0 ≤ i) (h1 : i + 7 ≤ (Ln : Int)) (hc : cells + 2 ≤ 600000) (hs : slots + 14 ≤ 7302250) (kk : LawK K b i (cells + 2) (slots + 14)) : V K 4 cells slots N sh ad M L R [(3, .int (iz i)), (2, .ref (ad 53)), (1, .ref (ad 0)), (0, .ref b)] [] 410 := by
  have X := Y.1
  have hN := h.1.1
  refine v_aload_n X 2 dL_law_410 rfl rfl ?_
  refine v_aload_n X 3 dL_law_411 rfl rfl ?_
  refine v_iload_n X 0 dL_law_412 rfl rfl ?_
  refine v_iconst X dL_law_413 ?_
  refine v_iadd X dL_law_414 ?_
  refine v_sld Y (by omega) (by omega) dL_law_415 ?_
  refine v_callV X [.int (iz (sx xs (i + 1)))] Y.2.1 (two_falls (sx_in _ _) _ _ _ _ _ _ _ _ _ h hD) (gV bw_25_5 bw_25_6 bw_25_7 bw_1_2 bw_25_8) rfl ddX11_falls ⟨Nat.le_of_ble_eq_true rfl, Nat.le_of_ble_eq_true rfl, (show cells + 0 ≤ 600000 by omega), (show slots + 0 ≤ 7302250 by omega)⟩ (Std.lt h.1 rfl) (Std.k h.1 rfl rfl) ⟨rfl, by decide⟩ (Nat.le_of_ble_eq_true rfl) dL_law_416 ?_
  rintro _ N1 sh1 ad1 M1 L1 R1 ⟨r, rfl, hr, ha, hS1, hC2⟩
  rw [← ha 0 (by omega), ← ha 53 (by omega)]
  refine v_st (st' := [.int (iz r)]) rfl ?_
  refine v_aload_n X 1 dL_law_419 rfl rfl ?_
  refine v_aload_n X 3 dL_law_420 rfl rfl ?_
  refine v_iload_n X 0 dL_law_421 rfl rfl ?_
  refine v_iconst X dL_law_422 ?_
  refine v_iadd X dL_law_423 ?_
  refine v_sld Y (by omega) (by omega) dL_law_424 ?_
  refine v_callV X [.int (iz (sx xs (i + 1)))] Y.2.1 hC2 (gV bw_25_14 bw_25_15 bw_25_16 bw_1_5 bw_25_17) rfl ddX12_falls ⟨Nat.le_of_ble_eq_true rfl, Nat.le_of_ble_eq_true rfl, (show cells + 0 + 0 ≤ 600000 by omega), (show slots + 0 + 0 ≤ 7302250 by omega)⟩ (Std.lt hS1 rfl) (Std.k hS1 rfl rfl) ⟨rfl, by decide⟩ (Nat.le_of_ble_eq_true rfl) dL_law_425 ?_
  rintro _ N2 sh2 ad2 M2 L2 R2 ⟨r2, rfl, hr2, e, rfl, h2, hD2⟩
  refine v_st (st' := [.int (iz r2), .int (iz r)]) rfl ?_
  refine v_icmp_eq X 984 dL_law_428 (by decide) hr hr2 (fun _ => ?_) (fun q => absurd e q)
  exact v_widen (show cells + 0 + 0 ≤ cells + 2 by omega) (show slots + 0 + 0 ≤ slots + 14 by omega) (kk _ _ _ _ _ _ h2 hD2)
set_option maxHeartbeats 1000000 in
theorem law_cell (Y : LX K b Ln xs) (h : Inv N sh M L R) (hD : iDis N sh R) {i : Int} (h0 : 0 ≤ i) (h1 : i + 7 ≤ (Ln : Int)) (hc : cells + 2 ≤ 600000) (hs : slots + 14 ≤ 7302250) (kk : LawK K b i (cells + 2) (slots + 14)) : V K 4 cells slots N sh ad M L R [(3, .int (iz i)), (2, .ref (ad 53)), (1, .ref (ad 0)), (0, .ref b)] [] 433 := by
  have X := Y.1
  have hN := h.1.1
  refine v_aload_n X 2 dL_law_433 rfl rfl ?_
  refine v_aload_n X 3 dL_law_434 rfl rfl ?_
  refine v_iload_n X 0 dL_law_435 rfl rfl ?_
  refine v_iconst X dL_law_436 ?_
  refine v_iadd X dL_law_437 ?_
  refine v_sld Y (by omega) (by omega) dL_law_438 ?_
  refine v_aload_n X 3 dL_law_439 rfl rfl ?_
  refine v_iload_n X 0 dL_law_440 rfl rfl ?_
  refine v_iconst X dL_law_441 ?_
  refine v_iadd X dL_law_442 ?_
  refine v_sld Y (by omega) (by omega) dL_law_443 ?_
  refine v_callV X [.int (iz (sx xs (i + 1))), .int (iz (sx xs (i + 2)))] Y.2.1 (two_cell (sx_in _ _) (sx_in _ _) _ _ _ _ _ _ _ _ _ h hD) (gV bw_25_18 bw_25_19 bw_25_20 bw_1_2 bw_25_21) rfl ddX11_cell ⟨Nat.le_of_ble_eq_true rfl, Nat.le_of_ble_eq_true rfl, (show cells + 0 ≤ 600000 by omega), (show slots + 0 ≤ 7302250 by omega)⟩ (Std.lt h.1 rfl) (Std.k h.1 rfl rfl) ⟨rfl, by decide⟩ (Nat.le_of_ble_eq_true rfl) dL_law_444 ?_
  rintro _ N1 sh1 ad1 M1 L1 R1 ⟨r, rfl, hr, ha, hS1, hC2⟩
  rw [← ha 0 (by omega), ← ha 53 (by omega)]
  refine v_st (st' := [.int (iz r)]) rfl ?_
  refine v_aload_n X 1 dL_law_447 rfl rfl ?_
  refine v_aload_n X 3 dL_law_448 rfl rfl ?_
  refine v_iload_n X 0 dL_law_449 rfl rfl ?_
  refine v_iconst X dL_law_450 ?_
  refine v_iadd X dL_law_451 ?_
  refine v_sld Y (by omega) (by omega) dL_law_452 ?_
  refine v_aload_n X 3 dL_law_453 rfl rfl ?_
  refine v_iload_n X 0 dL_law_454 rfl rfl ?_
  refine v_iconst X dL_law_455 ?_
  refine v_iadd X dL_law_456 ?_
  refine v_sld Y (by omega) (by omega) dL_law_457 ?_
  refine v_callV X [.int (iz (sx xs (i + 1))), .int (iz (sx xs (i + 2)))] Y.2.1 hC2 (gV bw_26_0 bw_26_1 bw_26_2 bw_1_5 bw_26_3) rfl ddX12_cell ⟨Nat.le_of_ble_eq_true rfl, Nat.le_of_ble_eq_true rfl, (show cells + 0 + 0 ≤ 600000 by omega), (show slots + 0 + 0 ≤ 7302250 by omega)⟩ (Std.lt hS1 rfl) (Std.k hS1 rfl rfl) ⟨rfl, by decide⟩ (Nat.le_of_ble_eq_true rfl) dL_law_458 ?_
  rintro _ N2 sh2 ad2 M2 L2 R2 ⟨r2, rfl, hr2, e, rfl, h2, hD2⟩
  refine v_st (st' := [.int (iz r2), .int (iz r)]) rfl ?_
  refine v_icmp_eq X 984 dL_law_461 (by decide) hr hr2 (fun _ => ?_) (fun q => absurd e q)
  exact v_widen (show cells + 0 + 0 ≤ cells + 2 by omega) (show slots + 0 + 0 ≤ slots + 14 by omega) (kk _ _ _ _ _ _ h2 hD2)
set_option maxHeartbeats 1000000 in
theorem law_ground (Y : LX K b Ln xs) (h : Inv N sh M L R) (hD : iDis N sh R) {i : Int} (h0 : 0 ≤ i) (h1 : i + 7 ≤ (Ln : Int)) (hc : cells + 2 ≤ 600000) (hs : slots + 14 ≤ 7302250) (kk : LawK K b i (cells + 2) (slots + 14)) : V K 4 cells slots N sh ad M L R [(3, .int (iz i)), (2, .ref (ad 53)), (1, .ref (ad 0)), (0, .ref b)] [] 466 := by
  have X := Y.1
  have hN := h.1.1
  refine v_aload_n X 2 dL_law_466 rfl rfl ?_
  refine v_aload_n X 3 dL_law_467 rfl rfl ?_
  refine v_iload_n X 0 dL_law_468 rfl rfl ?_
  refine v_iconst X dL_law_469 ?_
  refine v_iadd X dL_law_470 ?_
  refine v_sld Y (by omega) (by omega) dL_law_471 ?_
  refine v_aload_n X 3 dL_law_472 rfl rfl ?_
  refine v_iload_n X 0 dL_law_473 rfl rfl ?_
  refine v_iconst X dL_law_474 ?_
  refine v_iadd X dL_law_475 ?_
  refine v_sld Y (by omega) (by omega) dL_law_476 ?_
  refine v_callV X [.int (iz (sx xs (i + 1))), .int (iz (sx xs (i + 2)))] Y.2.1 (two_ground (sx_in _ _) (sx_in _ _) _ _ _ _ _ _ _ _ _ h hD) (gV bw_26_4 bw_26_5 bw_26_6 bw_1_2 bw_26_7) rfl ddX11_ground ⟨Nat.le_of_ble_eq_true rfl, Nat.le_of_ble_eq_true rfl, (show cells + 0 ≤ 600000 by omega), (show slots + 0 ≤ 7302250 by omega)⟩ (Std.lt h.1 rfl) (Std.k h.1 rfl rfl) ⟨rfl, by decide⟩ (Nat.le_of_ble_eq_true rfl) dL_law_477 ?_
  rintro _ N1 sh1 ad1 M1 L1 R1 ⟨r, rfl, hr, ha, hS1, hC2⟩
  rw [← ha 0 (by omega), ← ha 53 (by omega)]
  refine v_st (st' := [.int (iz r)]) rfl ?_
  refine v_aload_n X 1 dL_law_480 rfl rfl ?_
  refine v_aload_n X 3 dL_law_481 rfl rfl ?_
  refine v_iload_n X 0 dL_law_482 rfl rfl ?_
  refine v_iconst X dL_law_483 ?_
  refine v_iadd X dL_law_484 ?_
  refine v_sld Y (by omega) (by omega) dL_law_485 ?_
  refine v_aload_n X 3 dL_law_486 rfl rfl ?_
  refine v_iload_n X 0 dL_law_487 rfl rfl ?_
  refine v_iconst X dL_law_488 ?_
  refine v_iadd X dL_law_489 ?_
  refine v_sld Y (by omega) (by omega) dL_law_490 ?_
  refine v_callV X [.int (iz (sx xs (i + 1))), .int (iz (sx xs (i + 2)))] Y.2.1 hC2 (gV bw_26_10 bw_26_11 bw_26_12 bw_1_5 bw_26_13) rfl ddX12_ground ⟨Nat.le_of_ble_eq_true rfl, Nat.le_of_ble_eq_true rfl, (show cells + 0 + 0 ≤ 600000 by omega), (show slots + 0 + 0 ≤ 7302250 by omega)⟩ (Std.lt hS1 rfl) (Std.k hS1 rfl rfl) ⟨rfl, by decide⟩ (Nat.le_of_ble_eq_true rfl) dL_law_491 ?_
  rintro _ N2 sh2 ad2 M2 L2 R2 ⟨r2, rfl, hr2, e, rfl, h2, hD2⟩
  refine v_st (st' := [.int (iz r2), .int (iz r)]) rfl ?_
  refine v_icmp_eq X 984 dL_law_494 (by decide) hr hr2 (fun _ => ?_) (fun q => absurd e q)
  exact v_widen (show cells + 0 + 0 ≤ cells + 2 by omega) (show slots + 0 + 0 ≤ slots + 14 by omega) (kk _ _ _ _ _ _ h2 hD2)
set_option maxHeartbeats 1000000 in
theorem law_base (Y : LX K b Ln xs) (h : Inv N sh M L R) (hD : iDis N sh R) {i : Int} (h0 : 0 ≤ i) (h1 : i + 7 ≤ (Ln : Int)) (hc : cells + 2 ≤ 600000) (hs : slots + 14 ≤ 7302250) (kk : LawK K b i (cells + 2) (slots + 14)) : V K 4 cells slots N sh ad M L R [(3, .int (iz i)), (2, .ref (ad 53)), (1, .ref (ad 0)), (0, .ref b)] [] 499 := by
  have X := Y.1
  have hN := h.1.1
  refine v_aload_n X 2 dL_law_499 rfl rfl ?_
  refine v_aload_n X 3 dL_law_500 rfl rfl ?_
  refine v_iload_n X 0 dL_law_501 rfl rfl ?_
  refine v_iconst X dL_law_502 ?_
  refine v_iadd X dL_law_503 ?_
  refine v_sld Y (by omega) (by omega) dL_law_504 ?_
  refine v_aload_n X 3 dL_law_505 rfl rfl ?_
  refine v_iload_n X 0 dL_law_506 rfl rfl ?_
  refine v_iconst X dL_law_507 ?_
  refine v_iadd X dL_law_508 ?_
  refine v_sld Y (by omega) (by omega) dL_law_509 ?_
  refine v_callV X [.int (iz (sx xs (i + 1))), .int (iz (sx xs (i + 2)))] Y.2.1 (two_base (sx_in _ _) (sx_in _ _) _ _ _ _ _ _ _ _ _ h hD) (gV bw_26_15 bw_26_16 bw_26_17 bw_1_2 bw_26_18) rfl ddX11_base ⟨Nat.le_of_ble_eq_true rfl, Nat.le_of_ble_eq_true rfl, (show cells + 0 ≤ 600000 by omega), (show slots + 0 ≤ 7302250 by omega)⟩ (Std.lt h.1 rfl) (Std.k h.1 rfl rfl) ⟨rfl, by decide⟩ (Nat.le_of_ble_eq_true rfl) dL_law_510 ?_
  rintro _ N1 sh1 ad1 M1 L1 R1 ⟨r, rfl, hr, ha, hS1, hC2⟩
  rw [← ha 0 (by omega), ← ha 53 (by omega)]
  refine v_st (st' := [.int (iz r)]) rfl ?_
  refine v_aload_n X 1 dL_law_513 rfl rfl ?_
  refine v_aload_n X 3 dL_law_514 rfl rfl ?_
  refine v_iload_n X 0 dL_law_515 rfl rfl ?_
  refine v_iconst X dL_law_516 ?_
  refine v_iadd X dL_law_517 ?_
  refine v_sld Y (by omega) (by omega) dL_law_518 ?_
  refine v_aload_n X 3 dL_law_519 rfl rfl ?_
  refine v_iload_n X 0 dL_law_520 rfl rfl ?_
  refine v_iconst X dL_law_521 ?_
  refine v_iadd X dL_law_522 ?_
  refine v_sld Y (by omega) (by omega) dL_law_523 ?_
  refine v_callV X [.int (iz (sx xs (i + 1))), .int (iz (sx xs (i + 2)))] Y.2.1 hC2 (gV bw_27_5 bw_27_6 bw_27_7 bw_1_5 bw_27_8) rfl ddX12_base ⟨Nat.le_of_ble_eq_true rfl, Nat.le_of_ble_eq_true rfl, (show cells + 0 + 0 ≤ 600000 by omega), (show slots + 0 + 0 ≤ 7302250 by omega)⟩ (Std.lt hS1 rfl) (Std.k hS1 rfl rfl) ⟨rfl, by decide⟩ (Nat.le_of_ble_eq_true rfl) dL_law_524 ?_
  rintro _ N2 sh2 ad2 M2 L2 R2 ⟨r2, rfl, hr2, e, rfl, h2, hD2⟩
  refine v_st (st' := [.int (iz r2), .int (iz r)]) rfl ?_
  refine v_icmp_eq X 984 dL_law_527 (by decide) hr hr2 (fun _ => ?_) (fun q => absurd e q)
  exact v_widen (show cells + 0 + 0 ≤ cells + 2 by omega) (show slots + 0 + 0 ≤ slots + 14 by omega) (kk _ _ _ _ _ _ h2 hD2)
set_option maxHeartbeats 1000000 in
theorem law_birds (Y : LX K b Ln xs) (h : Inv N sh M L R) (hD : iDis N sh R) {i : Int} (h0 : 0 ≤ i) (h1 : i + 7 ≤ (Ln : Int)) (hc : cells + 2 ≤ 600000) (hs : slots + 14 ≤ 7302250) (kk : LawK K b i (cells + 2) (slots + 14)) : V K 4 cells slots N sh ad M L R [(3, .int (iz i)), (2, .ref (ad 53)), (1, .ref (ad 0)), (0, .ref b)] [] 532 := by
  have X := Y.1
  have hN := h.1.1
  refine v_aload_n X 2 dL_law_532 rfl rfl ?_
  refine v_aload_n X 3 dL_law_533 rfl rfl ?_
  refine v_iload_n X 0 dL_law_534 rfl rfl ?_
  refine v_iconst X dL_law_535 ?_
  refine v_iadd X dL_law_536 ?_
  refine v_sld Y (by omega) (by omega) dL_law_537 ?_
  refine v_aload_n X 3 dL_law_538 rfl rfl ?_
  refine v_iload_n X 0 dL_law_539 rfl rfl ?_
  refine v_iconst X dL_law_540 ?_
  refine v_iadd X dL_law_541 ?_
  refine v_sld Y (by omega) (by omega) dL_law_542 ?_
  refine v_callV X [.int (iz (sx xs (i + 1))), .int (iz (sx xs (i + 2)))] Y.2.1 (two_birds (sx_in _ _) (sx_in _ _) _ _ _ _ _ _ _ _ _ h hD) (gV bw_27_17 bw_27_18 bw_27_19 bw_1_2 bw_27_20) rfl ddX11_birds ⟨Nat.le_of_ble_eq_true rfl, Nat.le_of_ble_eq_true rfl, (show cells + 0 ≤ 600000 by omega), (show slots + 0 ≤ 7302250 by omega)⟩ (Std.lt h.1 rfl) (Std.k h.1 rfl rfl) ⟨rfl, by decide⟩ (Nat.le_of_ble_eq_true rfl) dL_law_543 ?_
  rintro _ N1 sh1 ad1 M1 L1 R1 ⟨r, rfl, hr, ha, hS1, hC2⟩
  rw [← ha 0 (by omega), ← ha 53 (by omega)]
  refine v_st (st' := [.int (iz r)]) rfl ?_
  refine v_aload_n X 1 dL_law_546 rfl rfl ?_
  refine v_aload_n X 3 dL_law_547 rfl rfl ?_
  refine v_iload_n X 0 dL_law_548 rfl rfl ?_
  refine v_iconst X dL_law_549 ?_
  refine v_iadd X dL_law_550 ?_
  refine v_sld Y (by omega) (by omega) dL_law_551 ?_
  refine v_aload_n X 3 dL_law_552 rfl rfl ?_
  refine v_iload_n X 0 dL_law_553 rfl rfl ?_
  refine v_iconst X dL_law_554 ?_
  refine v_iadd X dL_law_555 ?_
  refine v_sld Y (by omega) (by omega) dL_law_556 ?_
  refine v_callV X [.int (iz (sx xs (i + 1))), .int (iz (sx xs (i + 2)))] Y.2.1 hC2 (gV bw_28_1 bw_28_2 bw_28_3 bw_1_5 bw_28_4) rfl ddX12_birds ⟨Nat.le_of_ble_eq_true rfl, Nat.le_of_ble_eq_true rfl, (show cells + 0 + 0 ≤ 600000 by omega), (show slots + 0 + 0 ≤ 7302250 by omega)⟩ (Std.lt hS1 rfl) (Std.k hS1 rfl rfl) ⟨rfl, by decide⟩ (Nat.le_of_ble_eq_true rfl) dL_law_557 ?_
  rintro _ N2 sh2 ad2 M2 L2 R2 ⟨r2, rfl, hr2, e, rfl, h2, hD2⟩
  refine v_st (st' := [.int (iz r2), .int (iz r)]) rfl ?_
  refine v_icmp_eq X 984 dL_law_560 (by decide) hr hr2 (fun _ => ?_) (fun q => absurd e q)
  exact v_widen (show cells + 0 + 0 ≤ cells + 2 by omega) (show slots + 0 + 0 ≤ slots + 14 by omega) (kk _ _ _ _ _ _ h2 hD2)
set_option maxHeartbeats 1000000 in
theorem law_ready (Y : LX K b Ln xs) (h : Inv N sh M L R) (hD : iDis N sh R) {i : Int} (h0 : 0 ≤ i) (h1 : i + 7 ≤ (Ln : Int)) (hc : cells + 2 ≤ 600000) (hs : slots + 14 ≤ 7302250) (kk : LawK K b i (cells + 2) (slots + 14)) : V K 4 cells slots N sh ad M L R [(3, .int (iz i)), (2, .ref (ad 53)), (1, .ref (ad 0)), (0, .ref b)] [] 565 := by
  have X := Y.1
  have hN := h.1.1
  refine v_aload_n X 2 dL_law_565 rfl rfl ?_
  refine v_aload_n X 3 dL_law_566 rfl rfl ?_
  refine v_iload_n X 0 dL_law_567 rfl rfl ?_
  refine v_iconst X dL_law_568 ?_
  refine v_iadd X dL_law_569 ?_
  refine v_sld Y (by omega) (by omega) dL_law_570 ?_
  refine v_aload_n X 3 dL_law_571 rfl rfl ?_
  refine v_iload_n X 0 dL_law_572 rfl rfl ?_
  refine v_iconst X dL_law_573 ?_
  refine v_iadd X dL_law_574 ?_
  refine v_sld Y (by omega) (by omega) dL_law_575 ?_
  refine v_callV X [.int (iz (sx xs (i + 1))), .int (iz (sx xs (i + 2)))] Y.2.1 (two_ready (sx_in _ _) (sx_in _ _) _ _ _ _ _ _ _ _ _ h hD) (gV bw_28_8 bw_28_9 bw_28_10 bw_1_2 bw_28_11) rfl ddX11_ready ⟨Nat.le_of_ble_eq_true rfl, Nat.le_of_ble_eq_true rfl, (show cells + 0 ≤ 600000 by omega), (show slots + 0 ≤ 7302250 by omega)⟩ (Std.lt h.1 rfl) (Std.k h.1 rfl rfl) ⟨rfl, by decide⟩ (Nat.le_of_ble_eq_true rfl) dL_law_576 ?_
  rintro _ N1 sh1 ad1 M1 L1 R1 ⟨r, rfl, hr, ha, hS1, hC2⟩
  rw [← ha 0 (by omega), ← ha 53 (by omega)]
  refine v_st (st' := [.int (iz r)]) rfl ?_
  refine v_aload_n X 1 dL_law_579 rfl rfl ?_
  refine v_aload_n X 3 dL_law_580 rfl rfl ?_
  refine v_iload_n X 0 dL_law_581 rfl rfl ?_
  refine v_iconst X dL_law_582 ?_
  refine v_iadd X dL_law_583 ?_
  refine v_sld Y (by omega) (by omega) dL_law_584 ?_
  refine v_aload_n X 3 dL_law_585 rfl rfl ?_
  refine v_iload_n X 0 dL_law_586 rfl rfl ?_
  refine v_iconst X dL_law_587 ?_
  refine v_iadd X dL_law_588 ?_
  refine v_sld Y (by omega) (by omega) dL_law_589 ?_
  refine v_callV X [.int (iz (sx xs (i + 1))), .int (iz (sx xs (i + 2)))] Y.2.1 hC2 (gV bw_28_12 bw_28_13 bw_28_14 bw_1_5 bw_28_15) rfl ddX12_ready ⟨Nat.le_of_ble_eq_true rfl, Nat.le_of_ble_eq_true rfl, (show cells + 0 + 0 ≤ 600000 by omega), (show slots + 0 + 0 ≤ 7302250 by omega)⟩ (Std.lt hS1 rfl) (Std.k hS1 rfl rfl) ⟨rfl, by decide⟩ (Nat.le_of_ble_eq_true rfl) dL_law_590 ?_
  rintro _ N2 sh2 ad2 M2 L2 R2 ⟨r2, rfl, hr2, e, rfl, h2, hD2⟩
  refine v_st (st' := [.int (iz r2), .int (iz r)]) rfl ?_
  refine v_icmp_eq X 984 dL_law_593 (by decide) hr hr2 (fun _ => ?_) (fun q => absurd e q)
  exact v_widen (show cells + 0 + 0 ≤ cells + 2 by omega) (show slots + 0 + 0 ≤ slots + 14 by omega) (kk _ _ _ _ _ _ h2 hD2)
set_option maxHeartbeats 1000000 in
theorem law_away (Y : LX K b Ln xs) (h : Inv N sh M L R) (hD : iDis N sh R) {i : Int} (h0 : 0 ≤ i) (h1 : i + 7 ≤ (Ln : Int)) (hc : cells + 2 ≤ 600000) (hs : slots + 14 ≤ 7302250) (kk : LawK K b i (cells + 2) (slots + 14)) : V K 4 cells slots N sh ad M L R [(3, .int (iz i)), (2, .ref (ad 53)), (1, .ref (ad 0)), (0, .ref b)] [] 598 := by
  have X := Y.1
  have hN := h.1.1
  refine v_aload_n X 2 dL_law_598 rfl rfl ?_
  refine v_aload_n X 3 dL_law_599 rfl rfl ?_
  refine v_iload_n X 0 dL_law_600 rfl rfl ?_
  refine v_iconst X dL_law_601 ?_
  refine v_iadd X dL_law_602 ?_
  refine v_sld Y (by omega) (by omega) dL_law_603 ?_
  refine v_aload_n X 3 dL_law_604 rfl rfl ?_
  refine v_iload_n X 0 dL_law_605 rfl rfl ?_
  refine v_iconst X dL_law_606 ?_
  refine v_iadd X dL_law_607 ?_
  refine v_sld Y (by omega) (by omega) dL_law_608 ?_
  refine v_callV X [.int (iz (sx xs (i + 1))), .int (iz (sx xs (i + 2)))] Y.2.1 (two_away (sx_in _ _) (sx_in _ _) _ _ _ _ _ _ _ _ _ h hD) (gV bw_28_16 bw_28_17 bw_28_18 bw_1_2 bw_28_19) rfl ddX11_away ⟨Nat.le_of_ble_eq_true rfl, Nat.le_of_ble_eq_true rfl, (show cells + 0 ≤ 600000 by omega), (show slots + 0 ≤ 7302250 by omega)⟩ (Std.lt h.1 rfl) (Std.k h.1 rfl rfl) ⟨rfl, by decide⟩ (Nat.le_of_ble_eq_true rfl) dL_law_609 ?_
  rintro _ N1 sh1 ad1 M1 L1 R1 ⟨r, rfl, hr, ha, hS1, hC2⟩
  rw [← ha 0 (by omega), ← ha 53 (by omega)]
  refine v_st (st' := [.int (iz r)]) rfl ?_
  refine v_aload_n X 1 dL_law_612 rfl rfl ?_
  refine v_aload_n X 3 dL_law_613 rfl rfl ?_
  refine v_iload_n X 0 dL_law_614 rfl rfl ?_
  refine v_iconst X dL_law_615 ?_
  refine v_iadd X dL_law_616 ?_
  refine v_sld Y (by omega) (by omega) dL_law_617 ?_
  refine v_aload_n X 3 dL_law_618 rfl rfl ?_
  refine v_iload_n X 0 dL_law_619 rfl rfl ?_
  refine v_iconst X dL_law_620 ?_
  refine v_iadd X dL_law_621 ?_
  refine v_sld Y (by omega) (by omega) dL_law_622 ?_
  refine v_callV X [.int (iz (sx xs (i + 1))), .int (iz (sx xs (i + 2)))] Y.2.1 hC2 (gV bw_28_20 bw_28_21 bw_28_22 bw_1_5 bw_28_23) rfl ddX12_away ⟨Nat.le_of_ble_eq_true rfl, Nat.le_of_ble_eq_true rfl, (show cells + 0 + 0 ≤ 600000 by omega), (show slots + 0 + 0 ≤ 7302250 by omega)⟩ (Std.lt hS1 rfl) (Std.k hS1 rfl rfl) ⟨rfl, by decide⟩ (Nat.le_of_ble_eq_true rfl) dL_law_623 ?_
  rintro _ N2 sh2 ad2 M2 L2 R2 ⟨r2, rfl, hr2, e, rfl, h2, hD2⟩
  refine v_st (st' := [.int (iz r2), .int (iz r)]) rfl ?_
  refine v_icmp_eq X 984 dL_law_626 (by decide) hr hr2 (fun _ => ?_) (fun q => absurd e q)
  exact v_widen (show cells + 0 + 0 ≤ cells + 2 by omega) (show slots + 0 + 0 ≤ slots + 14 by omega) (kk _ _ _ _ _ _ h2 hD2)
set_option maxHeartbeats 1000000 in
theorem law_refused (Y : LX K b Ln xs) (h : Inv N sh M L R) (hD : iDis N sh R) {i : Int} (h0 : 0 ≤ i) (h1 : i + 7 ≤ (Ln : Int)) (hc : cells + 2 ≤ 600000) (hs : slots + 14 ≤ 7302250) (kk : LawK K b i (cells + 2) (slots + 14)) : V K 4 cells slots N sh ad M L R [(3, .int (iz i)), (2, .ref (ad 53)), (1, .ref (ad 0)), (0, .ref b)] [] 631 := by
  have X := Y.1
  have hN := h.1.1
  refine v_aload_n X 2 dL_law_631 rfl rfl ?_
  refine v_aload_n X 3 dL_law_632 rfl rfl ?_
  refine v_iload_n X 0 dL_law_633 rfl rfl ?_
  refine v_iconst X dL_law_634 ?_
  refine v_iadd X dL_law_635 ?_
  refine v_sld Y (by omega) (by omega) dL_law_636 ?_
  refine v_aload_n X 3 dL_law_637 rfl rfl ?_
  refine v_iload_n X 0 dL_law_638 rfl rfl ?_
  refine v_iconst X dL_law_639 ?_
  refine v_iadd X dL_law_640 ?_
  refine v_sld Y (by omega) (by omega) dL_law_641 ?_
  refine v_callV X [.int (iz (sx xs (i + 1))), .int (iz (sx xs (i + 2)))] Y.2.1 (two_refused (sx_in _ _) (sx_in _ _) _ _ _ _ _ _ _ _ _ h hD) (gV bw_29_0 bw_29_1 bw_29_2 bw_1_2 bw_29_3) rfl ddX11_refused ⟨Nat.le_of_ble_eq_true rfl, Nat.le_of_ble_eq_true rfl, (show cells + 0 ≤ 600000 by omega), (show slots + 0 ≤ 7302250 by omega)⟩ (Std.lt h.1 rfl) (Std.k h.1 rfl rfl) ⟨rfl, by decide⟩ (Nat.le_of_ble_eq_true rfl) dL_law_642 ?_
  rintro _ N1 sh1 ad1 M1 L1 R1 ⟨r, rfl, hr, ha, hS1, hC2⟩
  rw [← ha 0 (by omega), ← ha 53 (by omega)]
  refine v_st (st' := [.int (iz r)]) rfl ?_
  refine v_aload_n X 1 dL_law_645 rfl rfl ?_
  refine v_aload_n X 3 dL_law_646 rfl rfl ?_
  refine v_iload_n X 0 dL_law_647 rfl rfl ?_
  refine v_iconst X dL_law_648 ?_
  refine v_iadd X dL_law_649 ?_
  refine v_sld Y (by omega) (by omega) dL_law_650 ?_
  refine v_aload_n X 3 dL_law_651 rfl rfl ?_
  refine v_iload_n X 0 dL_law_652 rfl rfl ?_
  refine v_iconst X dL_law_653 ?_
  refine v_iadd X dL_law_654 ?_
  refine v_sld Y (by omega) (by omega) dL_law_655 ?_
  refine v_callV X [.int (iz (sx xs (i + 1))), .int (iz (sx xs (i + 2)))] Y.2.1 hC2 (gV bw_29_14 bw_29_15 bw_29_16 bw_1_5 bw_29_17) rfl ddX12_refused ⟨Nat.le_of_ble_eq_true rfl, Nat.le_of_ble_eq_true rfl, (show cells + 0 + 0 ≤ 600000 by omega), (show slots + 0 + 0 ≤ 7302250 by omega)⟩ (Std.lt hS1 rfl) (Std.k hS1 rfl rfl) ⟨rfl, by decide⟩ (Nat.le_of_ble_eq_true rfl) dL_law_656 ?_
  rintro _ N2 sh2 ad2 M2 L2 R2 ⟨r2, rfl, hr2, e, rfl, h2, hD2⟩
  refine v_st (st' := [.int (iz r2), .int (iz r)]) rfl ?_
  refine v_icmp_eq X 984 dL_law_659 (by decide) hr hr2 (fun _ => ?_) (fun q => absurd e q)
  exact v_widen (show cells + 0 + 0 ≤ cells + 2 by omega) (show slots + 0 + 0 ≤ slots + 14 by omega) (kk _ _ _ _ _ _ h2 hD2)
set_option maxHeartbeats 1000000 in
theorem law_length (Y : LX K b Ln xs) (h : Inv N sh M L R) (hD : iDis N sh R) {i : Int} (h0 : 0 ≤ i) (h1 : i + 7 ≤ (Ln : Int)) (hc : cells + 2 ≤ 600000) (hs : slots + 14 ≤ 7302250) (kk : LawK K b i (cells + 2) (slots + 14)) : V K 4 cells slots N sh ad M L R [(3, .int (iz i)), (2, .ref (ad 53)), (1, .ref (ad 0)), (0, .ref b)] [] 664 := by
  have X := Y.1
  have hN := h.1.1
  refine v_aload_n X 2 dL_law_664 rfl rfl ?_
  refine v_aload_n X 3 dL_law_665 rfl rfl ?_
  refine v_iload_n X 0 dL_law_666 rfl rfl ?_
  refine v_iconst X dL_law_667 ?_
  refine v_iadd X dL_law_668 ?_
  refine v_sld Y (by omega) (by omega) dL_law_669 ?_
  refine v_aload_n X 3 dL_law_670 rfl rfl ?_
  refine v_iload_n X 0 dL_law_671 rfl rfl ?_
  refine v_iconst X dL_law_672 ?_
  refine v_iadd X dL_law_673 ?_
  refine v_sld Y (by omega) (by omega) dL_law_674 ?_
  refine v_callV X [.int (iz (sx xs (i + 1))), .int (iz (sx xs (i + 2)))] Y.2.1 (two_length (sx_in _ _) (sx_in _ _) _ _ _ _ _ _ _ _ _ h hD) (gV bw_29_22 bw_29_23 bw_30_0 bw_1_2 bw_30_1) rfl ddX11_length ⟨Nat.le_of_ble_eq_true rfl, Nat.le_of_ble_eq_true rfl, (show cells + 0 ≤ 600000 by omega), (show slots + 0 ≤ 7302250 by omega)⟩ (Std.lt h.1 rfl) (Std.k h.1 rfl rfl) ⟨rfl, by decide⟩ (Nat.le_of_ble_eq_true rfl) dL_law_675 ?_
  rintro _ N1 sh1 ad1 M1 L1 R1 ⟨r, rfl, hr, ha, hS1, hC2⟩
  rw [← ha 0 (by omega), ← ha 53 (by omega)]
  refine v_st (st' := [.int (iz r)]) rfl ?_
  refine v_aload_n X 1 dL_law_678 rfl rfl ?_
  refine v_aload_n X 3 dL_law_679 rfl rfl ?_
  refine v_iload_n X 0 dL_law_680 rfl rfl ?_
  refine v_iconst X dL_law_681 ?_
  refine v_iadd X dL_law_682 ?_
  refine v_sld Y (by omega) (by omega) dL_law_683 ?_
  refine v_aload_n X 3 dL_law_684 rfl rfl ?_
  refine v_iload_n X 0 dL_law_685 rfl rfl ?_
  refine v_iconst X dL_law_686 ?_
  refine v_iadd X dL_law_687 ?_
  refine v_sld Y (by omega) (by omega) dL_law_688 ?_
  refine v_callV X [.int (iz (sx xs (i + 1))), .int (iz (sx xs (i + 2)))] Y.2.1 hC2 (gV bw_30_15 bw_30_16 bw_30_17 bw_1_5 bw_30_18) rfl ddX12_length ⟨Nat.le_of_ble_eq_true rfl, Nat.le_of_ble_eq_true rfl, (show cells + 0 + 0 ≤ 600000 by omega), (show slots + 0 + 0 ≤ 7302250 by omega)⟩ (Std.lt hS1 rfl) (Std.k hS1 rfl rfl) ⟨rfl, by decide⟩ (Nat.le_of_ble_eq_true rfl) dL_law_689 ?_
  rintro _ N2 sh2 ad2 M2 L2 R2 ⟨r2, rfl, hr2, e, rfl, h2, hD2⟩
  refine v_st (st' := [.int (iz r2), .int (iz r)]) rfl ?_
  refine v_icmp_eq X 984 dL_law_692 (by decide) hr hr2 (fun _ => ?_) (fun q => absurd e q)
  exact v_widen (show cells + 0 + 0 ≤ cells + 2 by omega) (show slots + 0 + 0 ≤ slots + 14 by omega) (kk _ _ _ _ _ _ h2 hD2)
set_option maxHeartbeats 1000000 in
theorem law_baseIn (Y : LX K b Ln xs) (h : Inv N sh M L R) (hD : iDis N sh R) {i : Int} (h0 : 0 ≤ i) (h1 : i + 7 ≤ (Ln : Int)) (hc : cells + 2 ≤ 600000) (hs : slots + 14 ≤ 7302250) (kk : LawK K b i (cells + 2) (slots + 14)) : V K 4 cells slots N sh ad M L R [(3, .int (iz i)), (2, .ref (ad 53)), (1, .ref (ad 0)), (0, .ref b)] [] 697 := by
  have X := Y.1
  have hN := h.1.1
  refine v_aload_n X 2 dL_law_697 rfl rfl ?_
  refine v_aload_n X 3 dL_law_698 rfl rfl ?_
  refine v_iload_n X 0 dL_law_699 rfl rfl ?_
  refine v_iconst X dL_law_700 ?_
  refine v_iadd X dL_law_701 ?_
  refine v_sld Y (by omega) (by omega) dL_law_702 ?_
  refine v_aload_n X 3 dL_law_703 rfl rfl ?_
  refine v_iload_n X 0 dL_law_704 rfl rfl ?_
  refine v_iconst X dL_law_705 ?_
  refine v_iadd X dL_law_706 ?_
  refine v_sld Y (by omega) (by omega) dL_law_707 ?_
  refine v_callV X [.int (iz (sx xs (i + 1))), .int (iz (sx xs (i + 2)))] Y.2.1 (two_baseIn (sx_in _ _) (sx_in _ _) _ _ _ _ _ _ _ _ _ h hD) (gV bw_30_23 bw_31_0 bw_31_1 bw_1_2 bw_31_2) rfl ddX11_baseIn ⟨Nat.le_of_ble_eq_true rfl, Nat.le_of_ble_eq_true rfl, (show cells + 0 ≤ 600000 by omega), (show slots + 0 ≤ 7302250 by omega)⟩ (Std.lt h.1 rfl) (Std.k h.1 rfl rfl) ⟨rfl, by decide⟩ (Nat.le_of_ble_eq_true rfl) dL_law_708 ?_
  rintro _ N1 sh1 ad1 M1 L1 R1 ⟨r, rfl, hr, ha, hS1, hC2⟩
  rw [← ha 0 (by omega), ← ha 53 (by omega)]
  refine v_st (st' := [.int (iz r)]) rfl ?_
  refine v_aload_n X 1 dL_law_711 rfl rfl ?_
  refine v_aload_n X 3 dL_law_712 rfl rfl ?_
  refine v_iload_n X 0 dL_law_713 rfl rfl ?_
  refine v_iconst X dL_law_714 ?_
  refine v_iadd X dL_law_715 ?_
  refine v_sld Y (by omega) (by omega) dL_law_716 ?_
  refine v_aload_n X 3 dL_law_717 rfl rfl ?_
  refine v_iload_n X 0 dL_law_718 rfl rfl ?_
  refine v_iconst X dL_law_719 ?_
  refine v_iadd X dL_law_720 ?_
  refine v_sld Y (by omega) (by omega) dL_law_721 ?_
  refine v_callV X [.int (iz (sx xs (i + 1))), .int (iz (sx xs (i + 2)))] Y.2.1 hC2 (gV bw_32_6 bw_32_7 bw_32_8 bw_1_5 bw_32_9) rfl ddX12_baseIn ⟨Nat.le_of_ble_eq_true rfl, Nat.le_of_ble_eq_true rfl, (show cells + 0 + 0 ≤ 600000 by omega), (show slots + 0 + 0 ≤ 7302250 by omega)⟩ (Std.lt hS1 rfl) (Std.k hS1 rfl rfl) ⟨rfl, by decide⟩ (Nat.le_of_ble_eq_true rfl) dL_law_722 ?_
  rintro _ N2 sh2 ad2 M2 L2 R2 ⟨r2, rfl, hr2, e, rfl, h2, hD2⟩
  refine v_st (st' := [.int (iz r2), .int (iz r)]) rfl ?_
  refine v_icmp_eq X 984 dL_law_725 (by decide) hr hr2 (fun _ => ?_) (fun q => absurd e q)
  exact v_widen (show cells + 0 + 0 ≤ cells + 2 by omega) (show slots + 0 + 0 ≤ slots + 14 by omega) (kk _ _ _ _ _ _ h2 hD2)
set_option maxHeartbeats 1000000 in
theorem law_plan (Y : LX K b Ln xs) (h : Inv N sh M L R) (hD : iDis N sh R) {i : Int} (h0 : 0 ≤ i) (h1 : i + 7 ≤ (Ln : Int)) (hc : cells + 2 ≤ 600000) (hs : slots + 14 ≤ 7302250) (kk : LawK K b i (cells + 2) (slots + 14)) : V K 4 cells slots N sh ad M L R [(3, .int (iz i)), (2, .ref (ad 53)), (1, .ref (ad 0)), (0, .ref b)] [] 730 := by
  have X := Y.1
  have hN := h.1.1
  refine v_aload_n X 2 dL_law_730 rfl rfl ?_
  refine v_aload_n X 3 dL_law_731 rfl rfl ?_
  refine v_iload_n X 0 dL_law_732 rfl rfl ?_
  refine v_iconst X dL_law_733 ?_
  refine v_iadd X dL_law_734 ?_
  refine v_sld Y (by omega) (by omega) dL_law_735 ?_
  refine v_callV X [.int (iz (sx xs (i + 1)))] Y.2.1 (two_plan (sx_in _ _) _ _ _ _ _ _ _ _ _ h hD) (gV bw_32_18 bw_32_19 bw_32_20 bw_1_2 bw_32_21) rfl ddX11_plan ⟨Nat.le_of_ble_eq_true rfl, Nat.le_of_ble_eq_true rfl, (show cells + 0 ≤ 600000 by omega), (show slots + 0 ≤ 7302250 by omega)⟩ (Std.lt h.1 rfl) (Std.k h.1 rfl rfl) ⟨rfl, by decide⟩ (Nat.le_of_ble_eq_true rfl) dL_law_736 ?_
  rintro _ N1 sh1 ad1 M1 L1 R1 ⟨r, rfl, hr, ha, hS1, hC2⟩
  rw [← ha 0 (by omega), ← ha 53 (by omega)]
  refine v_st (st' := [.int (iz r)]) rfl ?_
  refine v_aload_n X 1 dL_law_739 rfl rfl ?_
  refine v_aload_n X 3 dL_law_740 rfl rfl ?_
  refine v_iload_n X 0 dL_law_741 rfl rfl ?_
  refine v_iconst X dL_law_742 ?_
  refine v_iadd X dL_law_743 ?_
  refine v_sld Y (by omega) (by omega) dL_law_744 ?_
  refine v_callV X [.int (iz (sx xs (i + 1)))] Y.2.1 hC2 (gV bw_38_15 bw_38_16 bw_38_17 bw_1_5 bw_38_18) rfl ddX12_plan ⟨Nat.le_of_ble_eq_true rfl, Nat.le_of_ble_eq_true rfl, (show cells + 0 + 0 ≤ 600000 by omega), (show slots + 0 + 0 ≤ 7302250 by omega)⟩ (Std.lt hS1 rfl) (Std.k hS1 rfl rfl) ⟨rfl, by decide⟩ (Nat.le_of_ble_eq_true rfl) dL_law_745 ?_
  rintro _ N2 sh2 ad2 M2 L2 R2 ⟨r2, rfl, hr2, e, rfl, h2, hD2⟩
  refine v_st (st' := [.int (iz r2), .int (iz r)]) rfl ?_
  refine v_icmp_eq X 984 dL_law_748 (by decide) hr hr2 (fun _ => ?_) (fun q => absurd e q)
  exact v_widen (show cells + 0 + 0 ≤ cells + 2 by omega) (show slots + 0 + 0 ≤ slots + 14 by omega) (kk _ _ _ _ _ _ h2 hD2)
set_option maxHeartbeats 1000000 in
theorem law_mend (Y : LX K b Ln xs) (h : Inv N sh M L R) (hD : iDis N sh R) {i : Int} (h0 : 0 ≤ i) (h1 : i + 7 ≤ (Ln : Int)) (hc : cells + 2 ≤ 600000) (hs : slots + 14 ≤ 7302250) (kk : LawK K b i (cells + 2) (slots + 14)) : V K 4 cells slots N sh ad M L R [(3, .int (iz i)), (2, .ref (ad 53)), (1, .ref (ad 0)), (0, .ref b)] [] 753 := by
  have X := Y.1
  have hN := h.1.1
  refine v_aload_n X 2 dL_law_753 rfl rfl ?_
  refine v_aload_n X 3 dL_law_754 rfl rfl ?_
  refine v_iload_n X 0 dL_law_755 rfl rfl ?_
  refine v_iconst X dL_law_756 ?_
  refine v_iadd X dL_law_757 ?_
  refine v_sld Y (by omega) (by omega) dL_law_758 ?_
  refine v_callV X [.int (iz (sx xs (i + 1)))] Y.2.1 (two_mend (sx_in _ _) _ _ _ _ _ _ _ _ _ h hD) (gV bw_40_18 bw_40_19 bw_40_20 bw_1_2 bw_40_21) rfl ddX11_mend ⟨Nat.le_of_ble_eq_true rfl, Nat.le_of_ble_eq_true rfl, (show cells + 0 ≤ 600000 by omega), (show slots + 0 ≤ 7302250 by omega)⟩ (Std.lt h.1 rfl) (Std.k h.1 rfl rfl) ⟨rfl, by decide⟩ (Nat.le_of_ble_eq_true rfl) dL_law_759 ?_
  rintro _ N1 sh1 ad1 M1 L1 R1 ⟨r, rfl, hr, ha, hS1, hC2⟩
  rw [← ha 0 (by omega), ← ha 53 (by omega)]
  refine v_st (st' := [.int (iz r)]) rfl ?_
  refine v_aload_n X 1 dL_law_762 rfl rfl ?_
  refine v_aload_n X 3 dL_law_763 rfl rfl ?_
  refine v_iload_n X 0 dL_law_764 rfl rfl ?_
  refine v_iconst X dL_law_765 ?_
  refine v_iadd X dL_law_766 ?_
  refine v_sld Y (by omega) (by omega) dL_law_767 ?_
  refine v_callV X [.int (iz (sx xs (i + 1)))] Y.2.1 hC2 (gV bw_40_22 bw_40_23 bw_41_0 bw_1_5 bw_41_1) rfl ddX12_mend ⟨Nat.le_of_ble_eq_true rfl, Nat.le_of_ble_eq_true rfl, (show cells + 0 + 0 ≤ 600000 by omega), (show slots + 0 + 0 ≤ 7302250 by omega)⟩ (Std.lt hS1 rfl) (Std.k hS1 rfl rfl) ⟨rfl, by decide⟩ (Nat.le_of_ble_eq_true rfl) dL_law_768 ?_
  rintro _ N2 sh2 ad2 M2 L2 R2 ⟨r2, rfl, hr2, e, rfl, h2, hD2⟩
  refine v_st (st' := [.int (iz r2), .int (iz r)]) rfl ?_
  refine v_icmp_eq X 984 dL_law_771 (by decide) hr hr2 (fun _ => ?_) (fun q => absurd e q)
  exact v_widen (show cells + 0 + 0 ≤ cells + 2 by omega) (show slots + 0 + 0 ≤ slots + 14 by omega) (kk _ _ _ _ _ _ h2 hD2)
set_option maxHeartbeats 1000000 in
theorem law_order (Y : LX K b Ln xs) (h : Inv N sh M L R) (hD : iDis N sh R) {i : Int} (h0 : 0 ≤ i) (h1 : i + 7 ≤ (Ln : Int)) (hc : cells + 2 ≤ 600000) (hs : slots + 14 ≤ 7302250) (kk : LawK K b i (cells + 2) (slots + 14)) : V K 4 cells slots N sh ad M L R [(3, .int (iz i)), (2, .ref (ad 53)), (1, .ref (ad 0)), (0, .ref b)] [] 776 := by
  have X := Y.1
  have hN := h.1.1
  refine v_aload_n X 2 dL_law_776 rfl rfl ?_
  refine v_aload_n X 3 dL_law_777 rfl rfl ?_
  refine v_iload_n X 0 dL_law_778 rfl rfl ?_
  refine v_iconst X dL_law_779 ?_
  refine v_iadd X dL_law_780 ?_
  refine v_sld Y (by omega) (by omega) dL_law_781 ?_
  refine v_callV X [.int (iz (sx xs (i + 1)))] Y.2.1 (two_order (sx_in _ _) _ _ _ _ _ _ _ _ _ h hD) (gV bw_41_2 bw_41_3 bw_41_4 bw_1_2 bw_41_5) rfl ddX11_order ⟨Nat.le_of_ble_eq_true rfl, Nat.le_of_ble_eq_true rfl, (show cells + 0 ≤ 600000 by omega), (show slots + 0 ≤ 7302250 by omega)⟩ (Std.lt h.1 rfl) (Std.k h.1 rfl rfl) ⟨rfl, by decide⟩ (Nat.le_of_ble_eq_true rfl) dL_law_782 ?_
  rintro _ N1 sh1 ad1 M1 L1 R1 ⟨r, rfl, hr, ha, hS1, hC2⟩
  rw [← ha 0 (by omega), ← ha 53 (by omega)]
  refine v_st (st' := [.int (iz r)]) rfl ?_
  refine v_aload_n X 1 dL_law_785 rfl rfl ?_
  refine v_aload_n X 3 dL_law_786 rfl rfl ?_
  refine v_iload_n X 0 dL_law_787 rfl rfl ?_
  refine v_iconst X dL_law_788 ?_
  refine v_iadd X dL_law_789 ?_
  refine v_sld Y (by omega) (by omega) dL_law_790 ?_
  refine v_callV X [.int (iz (sx xs (i + 1)))] Y.2.1 hC2 (gV bw_41_8 bw_41_9 bw_41_10 bw_1_5 bw_41_11) rfl ddX12_order ⟨Nat.le_of_ble_eq_true rfl, Nat.le_of_ble_eq_true rfl, (show cells + 0 + 0 ≤ 600000 by omega), (show slots + 0 + 0 ≤ 7302250 by omega)⟩ (Std.lt hS1 rfl) (Std.k hS1 rfl rfl) ⟨rfl, by decide⟩ (Nat.le_of_ble_eq_true rfl) dL_law_791 ?_
  rintro _ N2 sh2 ad2 M2 L2 R2 ⟨r2, rfl, hr2, e, rfl, h2, hD2⟩
  refine v_st (st' := [.int (iz r2), .int (iz r)]) rfl ?_
  refine v_icmp_eq X 984 dL_law_794 (by decide) hr hr2 (fun _ => ?_) (fun q => absurd e q)
  exact v_widen (show cells + 0 + 0 ≤ cells + 2 by omega) (show slots + 0 + 0 ≤ slots + 14 by omega) (kk _ _ _ _ _ _ h2 hD2)
set_option maxHeartbeats 1000000 in
theorem law_told (Y : LX K b Ln xs) (h : Inv N sh M L R) (hD : iDis N sh R) {i : Int} (h0 : 0 ≤ i) (h1 : i + 7 ≤ (Ln : Int)) (hc : cells + 2 ≤ 600000) (hs : slots + 14 ≤ 7302250) (kk : LawK K b i (cells + 2) (slots + 14)) : V K 4 cells slots N sh ad M L R [(3, .int (iz i)), (2, .ref (ad 53)), (1, .ref (ad 0)), (0, .ref b)] [] 799 := by
  have X := Y.1
  have hN := h.1.1
  refine v_aload_n X 2 dL_law_799 rfl rfl ?_
  refine v_aload_n X 3 dL_law_800 rfl rfl ?_
  refine v_iload_n X 0 dL_law_801 rfl rfl ?_
  refine v_iconst X dL_law_802 ?_
  refine v_iadd X dL_law_803 ?_
  refine v_sld Y (by omega) (by omega) dL_law_804 ?_
  refine v_aload_n X 3 dL_law_805 rfl rfl ?_
  refine v_iload_n X 0 dL_law_806 rfl rfl ?_
  refine v_iconst X dL_law_807 ?_
  refine v_iadd X dL_law_808 ?_
  refine v_sld Y (by omega) (by omega) dL_law_809 ?_
  refine v_callV X [.int (iz (sx xs (i + 1))), .int (iz (sx xs (i + 2)))] Y.2.1 (two_told (sx_in _ _) (sx_in _ _) _ _ _ _ _ _ _ _ _ h hD) (gV bw_41_12 bw_41_13 bw_41_14 bw_1_2 bw_41_15) rfl ddX11_told ⟨Nat.le_of_ble_eq_true rfl, Nat.le_of_ble_eq_true rfl, (show cells + 0 ≤ 600000 by omega), (show slots + 0 ≤ 7302250 by omega)⟩ (Std.lt h.1 rfl) (Std.k h.1 rfl rfl) ⟨rfl, by decide⟩ (Nat.le_of_ble_eq_true rfl) dL_law_810 ?_
  rintro _ N1 sh1 ad1 M1 L1 R1 ⟨r, rfl, hr, ha, hS1, hC2⟩
  rw [← ha 0 (by omega), ← ha 53 (by omega)]
  refine v_st (st' := [.int (iz r)]) rfl ?_
  refine v_aload_n X 1 dL_law_813 rfl rfl ?_
  refine v_aload_n X 3 dL_law_814 rfl rfl ?_
  refine v_iload_n X 0 dL_law_815 rfl rfl ?_
  refine v_iconst X dL_law_816 ?_
  refine v_iadd X dL_law_817 ?_
  refine v_sld Y (by omega) (by omega) dL_law_818 ?_
  refine v_aload_n X 3 dL_law_819 rfl rfl ?_
  refine v_iload_n X 0 dL_law_820 rfl rfl ?_
  refine v_iconst X dL_law_821 ?_
  refine v_iadd X dL_law_822 ?_
  refine v_sld Y (by omega) (by omega) dL_law_823 ?_
  refine v_callV X [.int (iz (sx xs (i + 1))), .int (iz (sx xs (i + 2)))] Y.2.1 hC2 (gV bw_41_21 bw_41_22 bw_41_23 bw_1_5 bw_42_0) rfl ddX12_told ⟨Nat.le_of_ble_eq_true rfl, Nat.le_of_ble_eq_true rfl, (show cells + 0 + 0 ≤ 600000 by omega), (show slots + 0 + 0 ≤ 7302250 by omega)⟩ (Std.lt hS1 rfl) (Std.k hS1 rfl rfl) ⟨rfl, by decide⟩ (Nat.le_of_ble_eq_true rfl) dL_law_824 ?_
  rintro _ N2 sh2 ad2 M2 L2 R2 ⟨r2, rfl, hr2, e, rfl, h2, hD2⟩
  refine v_st (st' := [.int (iz r2), .int (iz r)]) rfl ?_
  refine v_icmp_eq X 984 dL_law_827 (by decide) hr hr2 (fun _ => ?_) (fun q => absurd e q)
  exact v_widen (show cells + 0 + 0 ≤ cells + 2 by omega) (show slots + 0 + 0 ≤ slots + 14 by omega) (kk _ _ _ _ _ _ h2 hD2)
set_option maxHeartbeats 1000000 in
theorem law_out (Y : LX K b Ln xs) (h : Inv N sh M L R) (hD : iDis N sh R) {i : Int} (h0 : 0 ≤ i) (h1 : i + 7 ≤ (Ln : Int)) (hc : cells + 2 ≤ 600000) (hs : slots + 14 ≤ 7302250) (kk : LawK K b i (cells + 2) (slots + 14)) : V K 4 cells slots N sh ad M L R [(3, .int (iz i)), (2, .ref (ad 53)), (1, .ref (ad 0)), (0, .ref b)] [] 832 := by
  have X := Y.1
  have hN := h.1.1
  refine v_aload_n X 2 dL_law_832 rfl rfl ?_
  refine v_aload_n X 3 dL_law_833 rfl rfl ?_
  refine v_iload_n X 0 dL_law_834 rfl rfl ?_
  refine v_iconst X dL_law_835 ?_
  refine v_iadd X dL_law_836 ?_
  refine v_sld Y (by omega) (by omega) dL_law_837 ?_
  refine v_aload_n X 3 dL_law_838 rfl rfl ?_
  refine v_iload_n X 0 dL_law_839 rfl rfl ?_
  refine v_iconst X dL_law_840 ?_
  refine v_iadd X dL_law_841 ?_
  refine v_sld Y (by omega) (by omega) dL_law_842 ?_
  refine v_aload_n X 3 dL_law_843 rfl rfl ?_
  refine v_iload_n X 0 dL_law_844 rfl rfl ?_
  refine v_iconst X dL_law_845 ?_
  refine v_iadd X dL_law_846 ?_
  refine v_sld Y (by omega) (by omega) dL_law_847 ?_
  refine v_callV X [.int (iz (sx xs (i + 1))), .int (iz (sx xs (i + 2))), .int (iz (sx xs (i + 3)))] Y.2.1 (two_out (sx_in _ _) (sx_in _ _) (sx_in _ _) _ _ _ _ _ _ _ _ _ h hD) (gV bw_42_5 bw_42_6 bw_42_7 bw_1_2 bw_42_8) rfl ddX11_out ⟨Nat.le_of_ble_eq_true rfl, Nat.le_of_ble_eq_true rfl, (show cells + 0 ≤ 600000 by omega), (show slots + 0 ≤ 7302250 by omega)⟩ (Std.lt h.1 rfl) (Std.k h.1 rfl rfl) ⟨rfl, by decide⟩ (Nat.le_of_ble_eq_true rfl) dL_law_848 ?_
  rintro _ N1 sh1 ad1 M1 L1 R1 ⟨r, rfl, hr, ha, hS1, hC2⟩
  rw [← ha 0 (by omega), ← ha 53 (by omega)]
  refine v_st (st' := [.int (iz r)]) rfl ?_
  refine v_aload_n X 1 dL_law_851 rfl rfl ?_
  refine v_aload_n X 3 dL_law_852 rfl rfl ?_
  refine v_iload_n X 0 dL_law_853 rfl rfl ?_
  refine v_iconst X dL_law_854 ?_
  refine v_iadd X dL_law_855 ?_
  refine v_sld Y (by omega) (by omega) dL_law_856 ?_
  refine v_aload_n X 3 dL_law_857 rfl rfl ?_
  refine v_iload_n X 0 dL_law_858 rfl rfl ?_
  refine v_iconst X dL_law_859 ?_
  refine v_iadd X dL_law_860 ?_
  refine v_sld Y (by omega) (by omega) dL_law_861 ?_
  refine v_aload_n X 3 dL_law_862 rfl rfl ?_
  refine v_iload_n X 0 dL_law_863 rfl rfl ?_
  refine v_iconst X dL_law_864 ?_
  refine v_iadd X dL_law_865 ?_
  refine v_sld Y (by omega) (by omega) dL_law_866 ?_
  refine v_callV X [.int (iz (sx xs (i + 1))), .int (iz (sx xs (i + 2))), .int (iz (sx xs (i + 3)))] Y.2.1 hC2 (gV bw_42_13 bw_42_14 bw_42_15 bw_1_5 bw_42_16) rfl ddX12_out ⟨Nat.le_of_ble_eq_true rfl, Nat.le_of_ble_eq_true rfl, (show cells + 0 + 0 ≤ 600000 by omega), (show slots + 0 + 0 ≤ 7302250 by omega)⟩ (Std.lt hS1 rfl) (Std.k hS1 rfl rfl) ⟨rfl, by decide⟩ (Nat.le_of_ble_eq_true rfl) dL_law_867 ?_
  rintro _ N2 sh2 ad2 M2 L2 R2 ⟨r2, rfl, hr2, e, rfl, h2, hD2⟩
  refine v_st (st' := [.int (iz r2), .int (iz r)]) rfl ?_
  refine v_icmp_eq X 984 dL_law_870 (by decide) hr hr2 (fun _ => ?_) (fun q => absurd e q)
  exact v_widen (show cells + 0 + 0 ≤ cells + 2 by omega) (show slots + 0 + 0 ≤ slots + 14 by omega) (kk _ _ _ _ _ _ h2 hD2)
set_option maxHeartbeats 1000000 in
theorem law_can (Y : LX K b Ln xs) (h : Inv N sh M L R) (hD : iDis N sh R) {i : Int} (h0 : 0 ≤ i) (h1 : i + 7 ≤ (Ln : Int)) (hc : cells + 2 ≤ 600000) (hs : slots + 14 ≤ 7302250) (kk : LawK K b i (cells + 2) (slots + 14)) : V K 4 cells slots N sh ad M L R [(3, .int (iz i)), (2, .ref (ad 53)), (1, .ref (ad 0)), (0, .ref b)] [] 875 := by
  have X := Y.1
  have hN := h.1.1
  refine v_aload_n X 2 dL_law_875 rfl rfl ?_
  refine v_aload_n X 3 dL_law_876 rfl rfl ?_
  refine v_iload_n X 0 dL_law_877 rfl rfl ?_
  refine v_iconst X dL_law_878 ?_
  refine v_iadd X dL_law_879 ?_
  refine v_sld Y (by omega) (by omega) dL_law_880 ?_
  refine v_aload_n X 3 dL_law_881 rfl rfl ?_
  refine v_iload_n X 0 dL_law_882 rfl rfl ?_
  refine v_iconst X dL_law_883 ?_
  refine v_iadd X dL_law_884 ?_
  refine v_sld Y (by omega) (by omega) dL_law_885 ?_
  refine v_aload_n X 3 dL_law_886 rfl rfl ?_
  refine v_iload_n X 0 dL_law_887 rfl rfl ?_
  refine v_iconst X dL_law_888 ?_
  refine v_iadd X dL_law_889 ?_
  refine v_sld Y (by omega) (by omega) dL_law_890 ?_
  refine v_aload_n X 3 dL_law_891 rfl rfl ?_
  refine v_iload_n X 0 dL_law_892 rfl rfl ?_
  refine v_iconst X dL_law_893 ?_
  refine v_iadd X dL_law_894 ?_
  refine v_sld Y (by omega) (by omega) dL_law_895 ?_
  refine v_aload_n X 3 dL_law_896 rfl rfl ?_
  refine v_iload_n X 0 dL_law_897 rfl rfl ?_
  refine v_iconst X dL_law_898 ?_
  refine v_iadd X dL_law_899 ?_
  refine v_sld Y (by omega) (by omega) dL_law_900 ?_
  refine v_callV X [.int (iz (sx xs (i + 1))), .int (iz (sx xs (i + 2))), .int (iz (sx xs (i + 3))), .int (iz (sx xs (i + 4))), .int (iz (sx xs (i + 5)))] Y.2.1 (two_can (sx_in _ _) (sx_in _ _) (sx_in _ _) (sx_in _ _) (sx_in _ _) _ _ _ _ _ _ _ _ _ h hD) (gV bw_42_17 bw_42_18 bw_42_19 bw_1_2 bw_42_20) rfl ddX11_can ⟨Nat.le_of_ble_eq_true rfl, Nat.le_of_ble_eq_true rfl, (show cells + 0 ≤ 600000 by omega), (show slots + 0 ≤ 7302250 by omega)⟩ (Std.lt h.1 rfl) (Std.k h.1 rfl rfl) ⟨rfl, by decide⟩ (Nat.le_of_ble_eq_true rfl) dL_law_901 ?_
  rintro _ N1 sh1 ad1 M1 L1 R1 ⟨r, rfl, hr, ha, hS1, hC2⟩
  rw [← ha 0 (by omega), ← ha 53 (by omega)]
  refine v_st (st' := [.int (iz r)]) rfl ?_
  refine v_aload_n X 1 dL_law_904 rfl rfl ?_
  refine v_aload_n X 3 dL_law_905 rfl rfl ?_
  refine v_iload_n X 0 dL_law_906 rfl rfl ?_
  refine v_iconst X dL_law_907 ?_
  refine v_iadd X dL_law_908 ?_
  refine v_sld Y (by omega) (by omega) dL_law_909 ?_
  refine v_aload_n X 3 dL_law_910 rfl rfl ?_
  refine v_iload_n X 0 dL_law_911 rfl rfl ?_
  refine v_iconst X dL_law_912 ?_
  refine v_iadd X dL_law_913 ?_
  refine v_sld Y (by omega) (by omega) dL_law_914 ?_
  refine v_aload_n X 3 dL_law_915 rfl rfl ?_
  refine v_iload_n X 0 dL_law_916 rfl rfl ?_
  refine v_iconst X dL_law_917 ?_
  refine v_iadd X dL_law_918 ?_
  refine v_sld Y (by omega) (by omega) dL_law_919 ?_
  refine v_aload_n X 3 dL_law_920 rfl rfl ?_
  refine v_iload_n X 0 dL_law_921 rfl rfl ?_
  refine v_iconst X dL_law_922 ?_
  refine v_iadd X dL_law_923 ?_
  refine v_sld Y (by omega) (by omega) dL_law_924 ?_
  refine v_aload_n X 3 dL_law_925 rfl rfl ?_
  refine v_iload_n X 0 dL_law_926 rfl rfl ?_
  refine v_iconst X dL_law_927 ?_
  refine v_iadd X dL_law_928 ?_
  refine v_sld Y (by omega) (by omega) dL_law_929 ?_
  refine v_callV X [.int (iz (sx xs (i + 1))), .int (iz (sx xs (i + 2))), .int (iz (sx xs (i + 3))), .int (iz (sx xs (i + 4))), .int (iz (sx xs (i + 5)))] Y.2.1 hC2 (gV bw_43_11 bw_43_12 bw_43_13 bw_1_5 bw_43_14) rfl ddX12_can ⟨Nat.le_of_ble_eq_true rfl, Nat.le_of_ble_eq_true rfl, (show cells + 0 + 0 ≤ 600000 by omega), (show slots + 0 + 0 ≤ 7302250 by omega)⟩ (Std.lt hS1 rfl) (Std.k hS1 rfl rfl) ⟨rfl, by decide⟩ (Nat.le_of_ble_eq_true rfl) dL_law_930 ?_
  rintro _ N2 sh2 ad2 M2 L2 R2 ⟨r2, rfl, hr2, e, rfl, h2, hD2⟩
  refine v_st (st' := [.int (iz r2), .int (iz r)]) rfl ?_
  refine v_icmp_eq X 984 dL_law_933 (by decide) hr hr2 (fun _ => ?_) (fun q => absurd e q)
  exact v_widen (show cells + 0 + 0 ≤ cells + 2 by omega) (show slots + 0 + 0 ≤ slots + 14 by omega) (kk _ _ _ _ _ _ h2 hD2)
set_option maxHeartbeats 1000000 in
theorem law_runway (Y : LX K b Ln xs) (h : Inv N sh M L R) (hD : iDis N sh R) {i : Int} (h0 : 0 ≤ i) (h1 : i + 7 ≤ (Ln : Int)) (hc : cells + 2 ≤ 600000) (hs : slots + 14 ≤ 7302250) (kk : LawK K b i (cells + 2) (slots + 14)) : V K 4 cells slots N sh ad M L R [(3, .int (iz i)), (2, .ref (ad 53)), (1, .ref (ad 0)), (0, .ref b)] [] 938 := by
  have X := Y.1
  have hN := h.1.1
  refine v_aload_n X 2 dL_law_938 rfl rfl ?_
  refine v_aload_n X 3 dL_law_939 rfl rfl ?_
  refine v_iload_n X 0 dL_law_940 rfl rfl ?_
  refine v_iconst X dL_law_941 ?_
  refine v_iadd X dL_law_942 ?_
  refine v_sld Y (by omega) (by omega) dL_law_943 ?_
  refine v_callV X [.int (iz (sx xs (i + 1)))] Y.2.1 (two_runway (sx_in _ _) _ _ _ _ _ _ _ _ _ h hD) (gV bw_43_15 bw_43_16 bw_43_17 bw_1_2 bw_43_18) rfl ddX11_runway ⟨Nat.le_of_ble_eq_true rfl, Nat.le_of_ble_eq_true rfl, (show cells + 0 ≤ 600000 by omega), (show slots + 0 ≤ 7302250 by omega)⟩ (Std.lt h.1 rfl) (Std.k h.1 rfl rfl) ⟨rfl, by decide⟩ (Nat.le_of_ble_eq_true rfl) dL_law_944 ?_
  rintro _ N1 sh1 ad1 M1 L1 R1 ⟨r, rfl, hr, ha, hS1, hC2⟩
  rw [← ha 0 (by omega), ← ha 53 (by omega)]
  refine v_st (st' := [.int (iz r)]) rfl ?_
  refine v_aload_n X 1 dL_law_947 rfl rfl ?_
  refine v_aload_n X 3 dL_law_948 rfl rfl ?_
  refine v_iload_n X 0 dL_law_949 rfl rfl ?_
  refine v_iconst X dL_law_950 ?_
  refine v_iadd X dL_law_951 ?_
  refine v_sld Y (by omega) (by omega) dL_law_952 ?_
  refine v_callV X [.int (iz (sx xs (i + 1)))] Y.2.1 hC2 (gV bw_43_19 bw_43_20 bw_43_21 bw_1_5 bw_43_22) rfl ddX12_runway ⟨Nat.le_of_ble_eq_true rfl, Nat.le_of_ble_eq_true rfl, (show cells + 0 + 0 ≤ 600000 by omega), (show slots + 0 + 0 ≤ 7302250 by omega)⟩ (Std.lt hS1 rfl) (Std.k hS1 rfl rfl) ⟨rfl, by decide⟩ (Nat.le_of_ble_eq_true rfl) dL_law_953 ?_
  rintro _ N2 sh2 ad2 M2 L2 R2 ⟨r2, rfl, hr2, e, rfl, h2, hD2⟩
  refine v_st (st' := [.int (iz r2), .int (iz r)]) rfl ?_
  refine v_icmp_eq X 984 dL_law_956 (by decide) hr hr2 (fun _ => ?_) (fun q => absurd e q)
  exact v_widen (show cells + 0 + 0 ≤ cells + 2 by omega) (show slots + 0 + 0 ≤ slots + 14 by omega) (kk _ _ _ _ _ _ h2 hD2)
set_option maxHeartbeats 1000000 in
theorem law_count (Y : LX K b Ln xs) (h : Inv N sh M L R) (hD : iDis N sh R) {i : Int} (h0 : 0 ≤ i) (h1 : i + 7 ≤ (Ln : Int)) (hc : cells + 2 ≤ 600000) (hs : slots + 14 ≤ 7302250) (kk : LawK K b i (cells + 2) (slots + 14)) : V K 4 cells slots N sh ad M L R [(3, .int (iz i)), (2, .ref (ad 53)), (1, .ref (ad 0)), (0, .ref b)] [] 961 := by
  have X := Y.1
  have hN := h.1.1
  refine v_aload_n X 2 dL_law_961 rfl rfl ?_
  refine v_aload_n X 3 dL_law_962 rfl rfl ?_
  refine v_iload_n X 0 dL_law_963 rfl rfl ?_
  refine v_iconst X dL_law_964 ?_
  refine v_iadd X dL_law_965 ?_
  refine v_sld Y (by omega) (by omega) dL_law_966 ?_
  refine v_callV X [.int (iz (sx xs (i + 1)))] Y.2.1 (two_count (sx_in _ _) _ _ _ _ _ _ _ _ _ h hD) (gV bw_43_23 bw_44_0 bw_44_1 bw_1_2 bw_44_2) rfl ddX11_count ⟨Nat.le_of_ble_eq_true rfl, Nat.le_of_ble_eq_true rfl, (show cells + 0 ≤ 600000 by omega), (show slots + 0 ≤ 7302250 by omega)⟩ (Std.lt h.1 rfl) (Std.k h.1 rfl rfl) ⟨rfl, by decide⟩ (Nat.le_of_ble_eq_true rfl) dL_law_967 ?_
  rintro _ N1 sh1 ad1 M1 L1 R1 ⟨r, rfl, hr, ha, hS1, hC2⟩
  rw [← ha 0 (by omega), ← ha 53 (by omega)]
  refine v_st (st' := [.int (iz r)]) rfl ?_
  refine v_aload_n X 1 dL_law_970 rfl rfl ?_
  refine v_aload_n X 3 dL_law_971 rfl rfl ?_
  refine v_iload_n X 0 dL_law_972 rfl rfl ?_
  refine v_iconst X dL_law_973 ?_
  refine v_iadd X dL_law_974 ?_
  refine v_sld Y (by omega) (by omega) dL_law_975 ?_
  refine v_callV X [.int (iz (sx xs (i + 1)))] Y.2.1 hC2 (gV bw_44_6 bw_44_7 bw_44_8 bw_1_5 bw_44_9) rfl ddX12_count ⟨Nat.le_of_ble_eq_true rfl, Nat.le_of_ble_eq_true rfl, (show cells + 0 + 0 ≤ 600000 by omega), (show slots + 0 + 0 ≤ 7302250 by omega)⟩ (Std.lt hS1 rfl) (Std.k hS1 rfl rfl) ⟨rfl, by decide⟩ (Nat.le_of_ble_eq_true rfl) dL_law_976 ?_
  rintro _ N2 sh2 ad2 M2 L2 R2 ⟨r2, rfl, hr2, e, rfl, h2, hD2⟩
  refine v_st (st' := [.int (iz r2), .int (iz r)]) rfl ?_
  refine v_icmp_eq X 984 dL_law_979 (by decide) hr hr2 (fun _ => ?_) (fun q => absurd e q)
  exact v_widen (show cells + 0 + 0 ≤ cells + 2 by omega) (show slots + 0 + 0 ≤ slots + 14 by omega) (kk _ _ _ _ _ _ h2 hD2)
end LawS
