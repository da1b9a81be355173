/-! THE STRING CONSTANT: it stands outside the world -/
section RowsS
variable {K : VK} {cc : ByteArray} {nL cells slots N : Nat} {Ts : List Cond} {own : String} {sh : MS} {ad : Nat → Nat} {M L : MI} {R : MR} {lv lv' : List (Nat × Value)} {st : List Value} {pc : Nat}
theorem v_pop (X : VX K cc nL Ts own) {va : Value} (hd : decode cc pc = .ok (.pop, 1)) (hv : va.category = 1) (kk : V K nL cells slots N sh ad M L R lv st (pc + 1)) : V K nL cells slots N sh ad M L R lv (va :: st) pc := fun H locs ls hW hS hL => lv_pop X.1 X.2.1 hd hv (kk H locs ls hW hS hL)
theorem v_i2c (X : VX K cc nL Ts own) {x : Int32} (z : Int) (hd : decode cc pc = .ok (.i2c, 1)) (hz : (x.toUInt32 % 65536).toInt32 = iz z) (kk : V K nL cells slots N sh ad M L R lv (.int (iz z) :: st) (pc + 1)) : V K nL cells slots N sh ad M L R lv (.int x :: st) pc := fun H locs ls hW hS hL => lv_i2c X.1 X.2.1 hd hz (kk H locs ls hW hS hL)
theorem v_ldcW (X : VX K cc nL Ts RX6) (hd : decode cc pc = .ok (.ldc 61, 2)) (kk : V K nL cells slots N sh ad M L R lv (.ref (K.2.2.2.2.2 100) :: st) (pc + 2)) : V K nL cells slots N sh ad M L R lv st pc := fun H locs ls hW hS hL => va_ldcS X.1 X.2.1 X.2.2.2.1 X.2.2.2.2.2.2.2.2.1 hd (kk H locs ls hW hS hL)
theorem v_getSV (X : VX K cc nL Ts own) {index : Nat} (hl : Cond.fieldLink own index "java/lang/String" "value" "[B" ∈ Ts) (hd : decode cc pc = .ok (.getfield index, 3)) (kk : V K nL cells slots N sh ad M L R lv (.ref (K.2.2.2.2.2 101) :: st) (pc + 3)) : V K nL cells slots N sh ad M L R lv (.ref (K.2.2.2.2.2 100) :: st) pc := fun H locs ls hW hS hL => vk_getf X.1 X.2.1 (X.2.2.2.2.2.2.2.1.1 0 (by decide)).2.2.1 hS X.2.2.2.1 (X.2.2.2.2.1 _ hl) (fun _ h => h) hd (kk H locs ls hW hS hL)
theorem v_getSC (X : VX K cc nL Ts own) {index : Nat} (hl : Cond.fieldLink own index "java/lang/String" "coder" "B" ∈ Ts) (hd : decode cc pc = .ok (.getfield index, 3)) (kk : V K nL cells slots N sh ad M L R lv (.int (iz 0) :: st) (pc + 3)) : V K nL cells slots N sh ad M L R lv (.ref (K.2.2.2.2.2 100) :: st) pc := fun H locs ls hW hS hL => vk_getf X.1 X.2.1 (X.2.2.2.2.2.2.2.1.1 0 (by decide)).2.1 hS X.2.2.2.1 (X.2.2.2.2.1 _ hl) (fun _ h => h) hd (kk H locs ls hW hS hL)
theorem v_getCS (X : VX K cc nL Ts own) {index : Nat} (hl : Cond.fieldLink own index "java/lang/String" "COMPACT_STRINGS" "Z" ∈ Ts) (hd : decode cc pc = .ok (.getstatic index, 3)) (kk : V K nL cells slots N sh ad M L R lv (.int (iz 1) :: st) (pc + 3)) : V K nL cells slots N sh ad M L R lv st pc := fun H locs ls hW hS hL => va_gets X.1 X.2.1 X.2.2.2.2.2.2.2.2.2.1 hS X.2.2.2.1 (X.2.2.2.2.1 _ hl) (fun _ h => h) hd (kk H locs ls hW hS hL)
theorem v_getSF (X : VX K cc nL Ts own) {index : Nat} (hl : Cond.fieldLink own index "jdk/internal/util/Preconditions" "SIOOBE_FORMATTER" "Ljava/util/function/BiFunction;" ∈ Ts) (hd : decode cc pc = .ok (.getstatic index, 3)) (kk : V K nL cells slots N sh ad M L R lv (va_rf (if K.2.2.2.2.2 102 = 0 then none else some (K.2.2.2.2.2 103)) :: st) (pc + 3)) : V K nL cells slots N sh ad M L R lv st pc := fun H locs ls hW hS hL => va_gets X.1 X.2.1 X.2.2.2.2.2.2.2.2.2.2.1 hS X.2.2.2.1 (X.2.2.2.2.1 _ hl) (fun _ h => h) hd (kk H locs ls hW hS hL)
theorem v_alenS (X : VX K cc nL Ts own) (hd : decode cc pc = .ok (.arraylength, 1)) (kk : V K nL cells slots N sh ad M L R lv (.int (iz 120) :: st) (pc + 1)) : V K nL cells slots N sh ad M L R lv (.ref (K.2.2.2.2.2 101) :: st) pc := fun H locs ls hW hS hL => va_tlen X.1 X.2.1 (X.2.2.2.2.2.2.2.1.1 0 (by decide)).2.2.2 hS (v := iz 120) (by decide) hd (kk H locs ls hW hS hL)
def wch (k : Int) : Int := (bytW.getD k.toNat 0).toInt
theorem v_baldS (X : VX K cc nL Ts own) {z : Int} (h0 : 0 ≤ z) (h1 : z < 120) (hd : decode cc pc = .ok (.baload, 1)) (kk : V K nL cells slots N sh ad M L R lv (.int (iz (wch z)) :: st) (pc + 1)) : V K nL cells slots N sh ad M L R lv (.int (iz z) :: .ref (K.2.2.2.2.2 101) :: st) pc := fun H locs ls hW hS hL => va_tb X.1 X.2.1 (X.2.2.2.2.2.2.2.1.1 0 (by decide)).2.2.2 hS (i := iz z) (iz_in h0 (by show z < ((120 : Nat) : Int); omega) (by decide)) (v := .int (iz (wch z))) (by
  show Value.int (bytW.getD (iz z).toNatClampNeg 0) = _
  rw [iz_nc ⟨by omega, by omega⟩, wch, iz_self]) hd (kk H locs ls hW hS hL)
theorem v_callT (X : VX K cc nL Ts own) {y : MethodName} {ws ws' : List Cond} {rm rmC : Room} {index maxL : Nat} {bytes : ByteArray} {ret : Option FieldType} {rest : List Value} (As : List Value) {post : PostT}
    (hRm : K.1.2.2.2.1 = rmC) (hC : Ctr K.1.2.1 K.2.2.2.2.1 K.2.2.2.2.2 y ws rm N sh ad M L R (.ref (K.2.2.2.2.2 100) :: As) post) (hG : GoodIn Ts (wsV own index RJ0 y ws)) (hw : ws = Cond.code y bytes maxL ret :: ws')
    (hdd : y.cls = RJ0 ∧ y.cls ≠ "java/lang/invoke/MethodHandle" ∧ y.cls ≠ "java/lang/invoke/VarHandle" ∧ (parseMethodDescriptor y.desc).map (fun d => d.parameters.length) = some As.length)
    (hroom : rm.frames + 1 ≤ rmC.frames ∧ 8 + (maxL + 11) + rm.locals ≤ rmC.locals ∧ cells + rm.cells ≤ rmC.cells ∧ slots + rm.slots ≤ rmC.slots)
    (hrest : (rest.map fun v => v.category).sum ≤ 8) (hd : decode cc pc = .ok (.invokevirtual index, 3))
    (kk : ∀ (rv : Option Value) (N' : Nat) (sh' : MS) (ad' : Nat → Nat) (M' L' : MI) (R' : MR), post rv N' sh' ad' M' L' R' → V K nL (cells + rm.cells) (slots + rm.slots) N' sh' ad' M' L' R' lv (rv.toList ++ rest) (pc + 3)) : V K nL cells slots N sh ad M L R lv (As.reverse ++ .ref (K.2.2.2.2.2 100) :: rest) pc := by
  subst hRm
  refine v_after (rm := rm) (rest := rest) (post := post) (av := .ref (K.2.2.2.2.2 100) :: As) (y := y) (ws := ws) X (fun H locs ls hW hS hL => ?_) kk
  exact va_runV (As := As) (rest := rest) ⟨X.1, X.2.1, X.2.2.1, X.2.2.2.1, X.2.2.2.2.1⟩ (hC H.size) (cwV As.length X.2.2.2.2.1 hG hw rfl rfl hdd ⟨hroom.1, hroom.2.1⟩)
    ⟨pre_blind, vk_recv (i := 0) X.2.2.2.2.2.2.2.1 (by decide) hS, fun U hU hWm => ⟨rfl, by rw [hU], by rw [hU]; exact ⟨hW.1, hW.2.1.weaken (fun _ _ _ _ => trivial), hW.2.2⟩, va_K.moved hWm.alike X.2.2.2.2.2.1, X.2.2.2.2.2.2.2.go hS hU hWm (v_sub X hW hS)⟩⟩ rfl rfl hL.1 rfl (lv_room hrest) hd hroom.2.2
end RowsS
theorem wch_all : ∀ k : Fin 120, (((bytW.getD k 0) &&& iz 255).toUInt32 % 65536).toInt32 = bytW.getD k 0 ∧ narrow .char (.int (bytW.getD k 0)) = .int (bytW.getD k 0) ∧ 0 ≤ (bytW.getD k 0).toInt ∧ (bytW.getD k 0).toInt < 128 ∧ (bytW.getD k 0) &&& iz 255 = bytW.getD k 0 := by decide +kernel
theorem wch_b {k : Int} (h0 : 0 ≤ k) (h1 : k < 120) : 0 ≤ wch k ∧ wch k < 128 := by
  have h := wch_all ⟨k.toNat, by omega⟩
  exact ⟨h.2.2.1, h.2.2.2.1⟩

-- J0_coder_7d493
set_option maxHeartbeats 4000000 in
set_option maxRecDepth 100000 in
theorem c_J0_coder_7d493 (l : Launch) (D : va_G) (cy : Nat → ClassId) {N : Nat} {sh : MS} {ad : Nat → Nat} {M L : MI} {R : MR} : Ctr l D cy yJ0_coder_7d493 wsJ0_coder_7d493 ({ frames := 0, cells := 0, slots := 0, locals := 0 } : Room) N sh ad M L R [.ref (cy 100)] (pI N sh ad M L R (fun r => r = 0)) := by
  refine Ctr.ofB (by decide) rfl (Nat.le_of_ble_eq_true rfl) ?_
  intro K hKl hKd hRm hnm X hret
  have hcy : K.2.2.2.2.2 = cy := by rw [hKd]
  subst hcy
  have X : VX K cJ0_coder_7d493 1 wsJ0_coder_7d493 RJ0 := X
  show V K 1 0 0 N sh ad M L R [(0, .ref (K.2.2.2.2.2 100))] [] 0
  refine v_getCS X (List.mem_cons_of_mem _ bw_13_23) dJ0_coder_7d493_0 ?_
  refine v_if_eq X 13 dJ0_coder_7d493_3 (by decide) ⟨by decide, by decide⟩ (fun q => absurd q (by decide)) (fun _ => ?_)
  refine v_aload_n X 0 dJ0_coder_7d493_6 rfl rfl ?_
  refine v_getSC X (List.mem_cons_of_mem _ bw_14_0) dJ0_coder_7d493_7 ?_
  refine v_goto X 14 dJ0_coder_7d493_10 (by decide) ?_
  refine hret _ _ _ _ _ _ _ _ _ _ _ (some (.int (iz 0))) dJ0_coder_7d493_14 ⟨rfl, iz 0, by decide, rfl⟩ (by decide) (by decide) (fun hmok => ?_)
  exact ⟨rfl, rfl, rfl, rfl, rfl, rfl, 0, rfl, ⟨by decide, by decide⟩, rfl⟩

-- J0_isLatin1_aae02
set_option maxHeartbeats 4000000 in
set_option maxRecDepth 100000 in
theorem c_J0_isLatin1_aae02 (l : Launch) (D : va_G) (cy : Nat → ClassId) {N : Nat} {sh : MS} {ad : Nat → Nat} {M L : MI} {R : MR} : Ctr l D cy yJ0_isLatin1_aae02 wsJ0_isLatin1_aae02 ({ frames := 0, cells := 0, slots := 0, locals := 0 } : Room) N sh ad M L R [.ref (cy 100)] (pI N sh ad M L R (fun r => r = 1)) := by
  refine Ctr.ofZ (by decide) rfl (Nat.le_of_ble_eq_true rfl) ?_
  intro K hKl hKd hRm hnm X hret
  have hcy : K.2.2.2.2.2 = cy := by rw [hKd]
  subst hcy
  have X : VX K cJ0_isLatin1_aae02 1 wsJ0_isLatin1_aae02 RJ0 := X
  show V K 1 0 0 N sh ad M L R [(0, .ref (K.2.2.2.2.2 100))] [] 0
  refine v_getCS X (List.mem_cons_of_mem _ bw_13_23) dJ0_isLatin1_aae02_0 ?_
  refine v_if_eq X 17 dJ0_isLatin1_aae02_3 (by decide) ⟨by decide, by decide⟩ (fun q => absurd q (by decide)) (fun _ => ?_)
  refine v_aload_n X 0 dJ0_isLatin1_aae02_6 rfl rfl ?_
  refine v_getSC X (List.mem_cons_of_mem _ bw_14_0) dJ0_isLatin1_aae02_7 ?_
  refine v_if_ne X 17 dJ0_isLatin1_aae02_10 (by decide) ⟨by decide, by decide⟩ (fun q => absurd q (by decide)) (fun _ => ?_)
  refine v_iconst X dJ0_isLatin1_aae02_13 ?_
  refine v_goto X 18 dJ0_isLatin1_aae02_14 (by decide) ?_
  refine hret _ _ _ _ _ _ _ _ _ _ _ (some (.int (iz 1))) dJ0_isLatin1_aae02_18 ⟨rfl, 1, ⟨by omega, by omega⟩, rfl⟩ (by decide) (by decide) (fun hmok => ?_)
  exact ⟨rfl, rfl, rfl, rfl, rfl, rfl, 1, rfl, ⟨by decide, by decide⟩, rfl⟩

-- J0_length_8abf5
set_option maxHeartbeats 4000000 in
set_option maxRecDepth 100000 in
theorem c_J0_length_8abf5 (l : Launch) (D : va_G) (cy : Nat → ClassId) {N : Nat} {sh : MS} {ad : Nat → Nat} {M L : MI} {R : MR} : Ctr l D cy yJ0_length_8abf5 wsJ0_length_8abf5 ({ frames := 1, cells := 0, slots := 0, locals := 20 } : Room) N sh ad M L R [.ref (cy 100)] (pI N sh ad M L R (fun r => r = 120)) := by
  refine Ctr.ofI (by decide) rfl (Nat.le_of_ble_eq_true rfl) ?_
  intro K hKl hKd hRm hnm X hret
  have hcy : K.2.2.2.2.2 = cy := by rw [hKd]
  subst hcy
  have X : VX K cJ0_length_8abf5 1 wsJ0_length_8abf5 RJ0 := X
  show V K 1 0 0 N sh ad M L R [(0, .ref (K.2.2.2.2.2 100))] [] 0
  refine v_aload_n X 0 dJ0_length_8abf5_0 rfl rfl ?_
  refine v_getSV X (List.mem_cons_of_mem _ bw_13_18) dJ0_length_8abf5_1 ?_
  refine v_alenS X dJ0_length_8abf5_4 ?_
  refine v_aload_n X 0 dJ0_length_8abf5_5 rfl rfl ?_
  refine v_callT X [] hRm (c_J0_coder_7d493 _ _ _) (gV bw_13_19 bw_13_20 bw_13_21 bw_13_16 bw_13_22) rfl ddJ0_coder_7d493 (by decide) (Nat.le_of_ble_eq_true rfl) dJ0_length_8abf5_6 (k_pI (fun r hr e => ?_))
  subst e
  refine v_ishr X 120 dJ0_length_8abf5_9 (by decide) ?_
  refine hret _ _ _ _ _ _ _ _ _ _ _ (some (.int (iz 120))) dJ0_length_8abf5_10 ⟨rfl, _, rfl⟩ (by decide) (by decide) (fun hmok => ?_)
  exact ⟨rfl, rfl, rfl, rfl, rfl, rfl, 120, rfl, ⟨by decide, by decide⟩, rfl⟩

-- J3_checkIndex_8e157
set_option maxHeartbeats 4000000 in
set_option maxRecDepth 100000 in
theorem c_J3_checkIndex_8e157 (l : Launch) (D : va_G) (cy : Nat → ClassId) {N : Nat} {sh : MS} {ad : Nat → Nat} {M L : MI} {R : MR} (a b : Int) (o : Option Nat) (h0 : 0 ≤ a) (h1 : a < b) (h2 : b ≤ 1000) : Ctr l D cy yJ3_checkIndex_8e157 wsJ3_checkIndex_8e157 ({ frames := 0, cells := 0, slots := 0, locals := 0 } : Room) N sh ad M L R [.int (iz a), .int (iz b), va_rf o] (pI N sh ad M L R (fun r => r = a)) := by
  refine Ctr.ofI (by decide) rfl (by cases o <;> exact Nat.le_of_ble_eq_true rfl) ?_
  intro K hKl hKd hRm hnm X hret
  have hcy : K.2.2.2.2.2 = cy := by rw [hKd]
  subst hcy
  have X : VX K cJ3_checkIndex_8e157 3 wsJ3_checkIndex_8e157 RJ3 := X
  have hlv : lv_args 0 [.int (iz a), .int (iz b), va_rf o] = [(0, .int (iz a)), (1, .int (iz b)), (2, va_rf o)] := by cases o <;> rfl
  rw [hlv]
  show V K 3 0 0 N sh ad M L R [(0, .int (iz a)), (1, .int (iz b)), (2, va_rf o)] [] 0
  refine v_iload_n X 0 dJ3_checkIndex_8e157_0 rfl rfl ?_
  refine v_if_lt X 9 dJ3_checkIndex_8e157_1 (by decide) ⟨by omega, by omega⟩ (fun q => absurd q (by omega)) (fun _ => ?_)
  refine v_iload_n X 0 dJ3_checkIndex_8e157_4 rfl rfl ?_
  refine v_iload_n X 1 dJ3_checkIndex_8e157_5 rfl rfl ?_
  refine v_icmp_lt X 16 dJ3_checkIndex_8e157_6 (by decide) ⟨by omega, by omega⟩ ⟨by omega, by omega⟩ (fun _ => ?_) (fun q => absurd h1 q)
  refine v_iload_n X 0 dJ3_checkIndex_8e157_16 rfl rfl ?_
  refine hret _ _ _ _ _ _ _ _ _ _ _ (some (.int (iz a))) dJ3_checkIndex_8e157_17 ⟨rfl, _, rfl⟩ (by decide) (by decide) (fun hmok => ?_)
  exact ⟨rfl, rfl, rfl, rfl, rfl, rfl, a, rfl, ⟨by omega, by omega⟩, rfl⟩

-- J0_checkIndex_df160
set_option maxHeartbeats 4000000 in
set_option maxRecDepth 100000 in
theorem c_J0_checkIndex_df160 (l : Launch) (D : va_G) (cy : Nat → ClassId) {N : Nat} {sh : MS} {ad : Nat → Nat} {M L : MI} {R : MR} (a b : Int) (h0 : 0 ≤ a) (h1 : a < b) (h2 : b ≤ 1000) : Ctr l D cy yJ0_checkIndex_df160 wsJ0_checkIndex_df160 ({ frames := 1, cells := 0, slots := 0, locals := 22 } : Room) N sh ad M L R [.int (iz a), .int (iz b)] (eV N sh ad L R (fun M' => M' = M)) := by
  refine Ctr.ofV (by decide) rfl (Nat.le_of_ble_eq_true rfl) ?_
  intro K hKl hKd hRm hnm X hret
  have hcy : K.2.2.2.2.2 = cy := by rw [hKd]
  subst hcy
  have X : VX K cJ0_checkIndex_df160 2 wsJ0_checkIndex_df160 RJ0 := X
  show V K 2 0 0 N sh ad M L R [(0, .int (iz a)), (1, .int (iz b))] [] 0
  refine v_iload_n X 0 dJ0_checkIndex_df160_0 rfl rfl ?_
  refine v_iload_n X 1 dJ0_checkIndex_df160_1 rfl rfl ?_
  refine v_getSF X (List.mem_cons_of_mem _ bw_14_16) dJ0_checkIndex_df160_2 ?_
  refine v_callSO X [.int (iz a), .int (iz b), va_rf (if K.2.2.2.2.2 102 = 0 then none else some (K.2.2.2.2.2 103))] hRm (c_J3_checkIndex_8e157 _ _ _ a b _ h0 h1 h2) (gSO bw_14_17 bw_14_18 bw_14_19 bw_14_20) rfl ddJ3_checkIndex_8e157.2 (by decide) (Nat.le_of_ble_eq_true rfl) dJ0_checkIndex_df160_5 (k_pI (fun r hr e => ?_))
  refine v_pop X dJ0_checkIndex_df160_8 rfl ?_
  refine hret _ _ _ _ _ _ _ _ _ _ _ none dJ0_checkIndex_df160_9 ⟨rfl, rfl⟩ (by decide) (by decide) (fun hmok => ?_)
  exact ⟨rfl, rfl, rfl, rfl, rfl, rfl, rfl⟩

-- J1_charAt_3b067
set_option maxHeartbeats 4000000 in
set_option maxRecDepth 100000 in
theorem c_J1_charAt_3b067 (l : Launch) (D : va_G) (cy : Nat → ClassId) {N : Nat} {sh : MS} {ad : Nat → Nat} {M L : MI} {R : MR} (a : Int) (h0 : 0 ≤ a) (h1 : a < 120) : Ctr l D cy yJ1_charAt_3b067 wsJ1_charAt_3b067 ({ frames := 2, cells := 0, slots := 0, locals := 43 } : Room) N sh ad M L R [.ref (cy 101), .int (iz a)] (pI N sh ad M L R (fun r => r = wch a)) := by
  refine Ctr.ofC (by decide) rfl (Nat.le_of_ble_eq_true rfl) ?_
  intro K hKl hKd hRm hnm X hret
  have hcy : K.2.2.2.2.2 = cy := by rw [hKd]
  subst hcy
  have X : VX K cJ1_charAt_3b067 2 wsJ1_charAt_3b067 RJ1 := X
  show V K 2 0 0 N sh ad M L R [(0, .ref (K.2.2.2.2.2 101)), (1, .int (iz a))] [] 0
  have hb := wch_b h0 h1
  have hw := wch_all ⟨a.toNat, by omega⟩
  refine v_iload_n X 1 dJ1_charAt_3b067_0 rfl rfl ?_
  refine v_aload_n X 0 dJ1_charAt_3b067_1 rfl rfl ?_
  refine v_alenS X dJ1_charAt_3b067_2 ?_
  refine v_callSO X [.int (iz a), .int (iz 120)] hRm (c_J0_checkIndex_df160 _ _ _ a 120 h0 h1 (by decide)) (gSO bw_14_13 bw_14_14 bw_13_16 bw_14_15) rfl ddJ0_checkIndex_df160.2 (by decide) (Nat.le_of_ble_eq_true rfl) dJ1_charAt_3b067_3 (k_eV (fun M1 e => ?_))
  subst e
  refine v_aload_n X 0 dJ1_charAt_3b067_6 rfl rfl ?_
  refine v_iload_n X 1 dJ1_charAt_3b067_7 rfl rfl ?_
  refine v_baldS X h0 h1 dJ1_charAt_3b067_8 ?_
  refine v_sipush X dJ1_charAt_3b067_9 (by decide) ?_
  refine v_iand X (wch a) dJ1_charAt_3b067_12 (by rw [wch, iz_self]; exact hw.2.2.2.2) ?_
  refine v_i2c X (wch a) dJ1_charAt_3b067_13 (by
    have h := hw.1
    rw [hw.2.2.2.2] at h
    rw [wch, iz_self]
    exact h) ?_
  refine hret _ _ _ _ _ _ _ _ _ _ _ (some (.int (iz (wch a)))) dJ1_charAt_3b067_14 ⟨rfl, iz (wch a), by rw [wch, iz_self]; exact hw.2.1, rfl⟩ (by decide) (by decide) (fun hmok => ?_)
  exact ⟨rfl, rfl, rfl, rfl, rfl, rfl, wch a, rfl, ⟨by omega, by omega⟩, rfl⟩

-- J0_charAt_5068e
set_option maxHeartbeats 4000000 in
set_option maxRecDepth 100000 in
theorem c_J0_charAt_5068e (l : Launch) (D : va_G) (cy : Nat → ClassId) {N : Nat} {sh : MS} {ad : Nat → Nat} {M L : MI} {R : MR} (a : Int) (h0 : 0 ≤ a) (h1 : a < 120) : Ctr l D cy yJ0_charAt_5068e wsJ0_charAt_5068e ({ frames := 3, cells := 0, slots := 0, locals := 64 } : Room) N sh ad M L R [.ref (cy 100), .int (iz a)] (pI N sh ad M L R (fun r => r = wch a)) := by
  refine Ctr.ofC (by decide) rfl (Nat.le_of_ble_eq_true rfl) ?_
  intro K hKl hKd hRm hnm X hret
  have hcy : K.2.2.2.2.2 = cy := by rw [hKd]
  subst hcy
  have X : VX K cJ0_charAt_5068e 2 wsJ0_charAt_5068e RJ0 := X
  show V K 2 0 0 N sh ad M L R [(0, .ref (K.2.2.2.2.2 100)), (1, .int (iz a))] [] 0
  have hb := wch_b h0 h1
  have hw := wch_all ⟨a.toNat, by omega⟩
  refine v_aload_n X 0 dJ0_charAt_5068e_0 rfl rfl ?_
  refine v_callT X [] hRm (c_J0_isLatin1_aae02 _ _ _) (gV bw_14_5 bw_14_6 bw_14_7 bw_13_16 bw_14_8) rfl ddJ0_isLatin1_aae02 (by decide) (Nat.le_of_ble_eq_true rfl) dJ0_charAt_5068e_1 (k_pI (fun r hr e => ?_))
  subst e
  refine v_if_eq X 16 dJ0_charAt_5068e_4 (by decide) ⟨by decide, by decide⟩ (fun q => absurd q (by decide)) (fun _ => ?_)
  refine v_aload_n X 0 dJ0_charAt_5068e_7 rfl rfl ?_
  refine v_getSV X (List.mem_cons_of_mem _ bw_13_18) dJ0_charAt_5068e_8 ?_
  refine v_iload_n X 1 dJ0_charAt_5068e_11 rfl rfl ?_
  refine v_callSO X [.ref (K.2.2.2.2.2 101), .int (iz a)] hRm (c_J1_charAt_3b067 _ _ _ a h0 h1) (gSO bw_14_9 bw_14_10 bw_14_11 bw_14_12) rfl ddJ1_charAt_3b067.2 (by decide) (Nat.le_of_ble_eq_true rfl) dJ0_charAt_5068e_12 (k_pI (fun r hr e => ?_))
  subst e
  refine hret _ _ _ _ _ _ _ _ _ _ _ (some (.int (iz (wch a)))) dJ0_charAt_5068e_15 ⟨rfl, iz (wch a), by rw [wch, iz_self]; exact hw.2.1, rfl⟩ (by decide) (by decide) (fun hmok => ?_)
  exact ⟨rfl, rfl, rfl, rfl, rfl, rfl, wch a, rfl, ⟨by omega, by omega⟩, rfl⟩

