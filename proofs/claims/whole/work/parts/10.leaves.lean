-- Tape.hasRoomFor
set_option maxHeartbeats 4000000 in
set_option maxRecDepth 100000 in
theorem c_X9_hasRoomFor (l : Launch) (D : va_G) (cy : Nat → ClassId) {N : Nat} {sh : MS} {ad : Nat → Nat} {M L : MI} {R : MR} (hS : Std N sh R) (a : Int) (ha : 0 ≤ a ∧ a ≤ 20) (hz : 0 ≤ M 1 1 ∧ M 1 1 ≤ 2000) : Ctr l D cy yX9_hasRoomFor wsX9_hasRoomFor ({ frames := 0, cells := 0, slots := 0, locals := 0 } : Room) N sh ad M L R [.ref (ad 1), .int (iz a)] (pB N sh ad M L R (M 1 1 + a ≤ 2000)) := by
  refine Ctr.ofZ (by decide) rfl (Nat.le_of_ble_eq_true rfl) ?_
  intro K hKl hKd hRm hnm X hret
  have X : VX K cX9_hasRoomFor 2 wsX9_hasRoomFor RX9 := X
  show V K 2 0 0 N sh ad M L R [(0, .ref (ad 1)), (1, .int (iz a))] [] 0
  refine v_aload_n X 0 dX9_hasRoomFor_0 rfl rfl ?_
  refine gt_X9_size X iwX9 (Std.lt hS rfl) (Std.k hS rfl rfl) (List.mem_cons_of_mem _ bw_3_5) dX9_hasRoomFor_1 (M 1 1) rfl (fun hr1 => ?_)
  refine v_iload_n X 1 dX9_hasRoomFor_4 rfl rfl ?_
  refine v_iadd X dX9_hasRoomFor_5 ?_
  refine v_sipush X dX9_hasRoomFor_6 (by decide) ?_
  refine v_icmp_gt X 16 dX9_hasRoomFor_9 (by decide) ⟨by omega, by omega⟩ ⟨by decide, by decide⟩ (fun u2 => ?_) (fun u2 => ?_)
  · skip
    refine v_iconst X dX9_hasRoomFor_16 ?_
    refine hret _ _ _ _ _ _ _ _ _ _ _ (some (.int (iz 0))) dX9_hasRoomFor_17 ⟨rfl, 0, ⟨by omega, by omega⟩, rfl⟩ (by decide) (by decide) (fun hmok => ?_)
    refine ⟨rfl, rfl, rfl, rfl, rfl, rfl, 0, rfl, Or.inr ⟨rfl, ?_⟩⟩
    omega
  · skip
    refine v_iconst X dX9_hasRoomFor_12 ?_
    refine v_goto X 17 dX9_hasRoomFor_13 (by decide) ?_
    refine hret _ _ _ _ _ _ _ _ _ _ _ (some (.int (iz 1))) dX9_hasRoomFor_17 ⟨rfl, 1, ⟨by omega, by omega⟩, rfl⟩ (by decide) (by decide) (fun hmok => ?_)
    refine ⟨rfl, rfl, rfl, rfl, rfl, rfl, 1, rfl, Or.inl ⟨rfl, ?_⟩⟩
    omega

-- Tape.byteAt
set_option maxHeartbeats 4000000 in
set_option maxRecDepth 100000 in
theorem c_X9_byteAt (l : Launch) (D : va_G) (cy : Nat → ClassId) {N : Nat} {sh : MS} {ad : Nat → Nat} {M L : MI} {R : MR} (hS : Std N sh R) (a : Int) (ha : inR a) : Ctr l D cy yX9_byteAt wsX9_byteAt ({ frames := 0, cells := 0, slots := 0, locals := 0 } : Room) N sh ad M L R [.ref (ad 1), .int (iz a)] (pI N sh ad M L R (fun r => r = if 0 ≤ a ∧ a < M 1 1 ∧ a < 2000 then M 2 a else 0)) := by
  refine Ctr.ofI (by decide) rfl (Nat.le_of_ble_eq_true rfl) ?_
  intro K hKl hKd hRm hnm X hret
  have X : VX K cX9_byteAt 2 wsX9_byteAt RX9 := X
  show V K 2 0 0 N sh ad M L R [(0, .ref (ad 1)), (1, .int (iz a))] [] 0
  refine v_iload_n X 1 dX9_byteAt_0 rfl rfl ?_
  refine v_if_lt X 28 dX9_byteAt_1 (by decide) ⟨by omega, by omega⟩ (fun u1 => ?_) (fun u1 => ?_)
  · skip
    refine v_iconst X dX9_byteAt_28 ?_
    refine hret _ _ _ _ _ _ _ _ _ _ _ (some (.int (iz 0))) dX9_byteAt_29 ⟨rfl, _, rfl⟩ (by decide) (by decide) (fun hmok => ?_)
    refine ⟨rfl, rfl, rfl, rfl, rfl, rfl, 0, rfl, ⟨by decide, by decide⟩, ?_⟩
    try dsimp only
    split <;> omega
  · skip
    refine v_iload_n X 1 dX9_byteAt_4 rfl rfl ?_
    refine v_aload_n X 0 dX9_byteAt_5 rfl rfl ?_
    refine gt_X9_size X iwX9 (Std.lt hS rfl) (Std.k hS rfl rfl) (List.mem_cons_of_mem _ bw_3_5) dX9_byteAt_6 (M 1 1) rfl (fun hr2 => ?_)
    refine v_icmp_ge X 28 dX9_byteAt_9 (by decide) ⟨by omega, by omega⟩ ⟨by omega, by omega⟩ (fun u3 => ?_) (fun u3 => ?_)
    · skip
      refine v_iconst X dX9_byteAt_28 ?_
      refine hret _ _ _ _ _ _ _ _ _ _ _ (some (.int (iz 0))) dX9_byteAt_29 ⟨rfl, _, rfl⟩ (by decide) (by decide) (fun hmok => ?_)
      refine ⟨rfl, rfl, rfl, rfl, rfl, rfl, 0, rfl, ⟨by decide, by decide⟩, ?_⟩
      try dsimp only
      split <;> omega
    · skip
      refine v_iload_n X 1 dX9_byteAt_12 rfl rfl ?_
      refine v_sipush X dX9_byteAt_13 (by decide) ?_
      refine v_icmp_ge X 28 dX9_byteAt_16 (by decide) ⟨by omega, by omega⟩ ⟨by decide, by decide⟩ (fun u4 => ?_) (fun u4 => ?_)
      · skip
        refine v_iconst X dX9_byteAt_28 ?_
        refine hret _ _ _ _ _ _ _ _ _ _ _ (some (.int (iz 0))) dX9_byteAt_29 ⟨rfl, _, rfl⟩ (by decide) (by decide) (fun hmok => ?_)
        refine ⟨rfl, rfl, rfl, rfl, rfl, rfl, 0, rfl, ⟨by decide, by decide⟩, ?_⟩
        try dsimp only
        split <;> omega
      · skip
        refine v_aload_n X 0 dX9_byteAt_19 rfl rfl ?_
        refine gt_X9_bytes X iwX9 (Std.lt hS rfl) (Std.k hS rfl rfl) (List.mem_cons_of_mem _ bw_3_4) dX9_byteAt_20 2 (Std.r hS 0 rfl) ?_
        refine v_iload_n X 1 dX9_byteAt_23 rfl rfl ?_
        refine v_bald X (M 2 a) (Std.lt hS rfl) (Std.at hS rfl rfl) (by omega) (by omega) dX9_byteAt_24 rfl (fun hr5 => ?_)
        refine v_goto X 29 dX9_byteAt_25 (by decide) ?_
        refine hret _ _ _ _ _ _ _ _ _ _ _ (some (.int (iz (M 2 a)))) dX9_byteAt_29 ⟨rfl, _, rfl⟩ (by decide) (by decide) (fun hmok => ?_)
        refine ⟨rfl, rfl, rfl, rfl, rfl, rfl, (M 2 a), rfl, ⟨by omega, by omega⟩, ?_⟩
        try dsimp only
        split <;> omega

-- isDigit
set_option maxHeartbeats 4000000 in
set_option maxRecDepth 100000 in
theorem c_X12_isDigit (l : Launch) (D : va_G) (cy : Nat → ClassId) {N : Nat} {sh : MS} {ad : Nat → Nat} {M L : MI} {R : MR} (a : Int) (ha : inR a) : Ctr l D cy yX12_isDigit wsX12_isDigit ({ frames := 0, cells := 0, slots := 0, locals := 0 } : Room) N sh ad M L R [.int (iz a)] (pB N sh ad M L R (48 ≤ a ∧ a ≤ 57)) := by
  refine Ctr.ofZ (by decide) rfl (Nat.le_of_ble_eq_true rfl) ?_
  intro K hKl hKd hRm hnm X hret
  have X : VX K cX12_isDigit 1 wsX12_isDigit RX12 := X
  show V K 1 0 0 N sh ad M L R [(0, .int (iz a))] [] 0
  refine v_iload_n X 0 dX12_isDigit_0 rfl rfl ?_
  refine v_bipush X dX12_isDigit_1 (by decide) ?_
  refine v_icmp_lt X 16 dX12_isDigit_3 (by decide) ⟨by omega, by omega⟩ ⟨by decide, by decide⟩ (fun u1 => ?_) (fun u1 => ?_)
  · skip
    refine v_iconst X dX12_isDigit_16 ?_
    refine hret _ _ _ _ _ _ _ _ _ _ _ (some (.int (iz 0))) dX12_isDigit_17 ⟨rfl, 0, ⟨by omega, by omega⟩, rfl⟩ (by decide) (by decide) (fun hmok => ?_)
    refine ⟨rfl, rfl, rfl, rfl, rfl, rfl, 0, rfl, Or.inr ⟨rfl, ?_⟩⟩
    omega
  · skip
    refine v_iload_n X 0 dX12_isDigit_6 rfl rfl ?_
    refine v_bipush X dX12_isDigit_7 (by decide) ?_
    refine v_icmp_gt X 16 dX12_isDigit_9 (by decide) ⟨by omega, by omega⟩ ⟨by decide, by decide⟩ (fun u2 => ?_) (fun u2 => ?_)
    · skip
      refine v_iconst X dX12_isDigit_16 ?_
      refine hret _ _ _ _ _ _ _ _ _ _ _ (some (.int (iz 0))) dX12_isDigit_17 ⟨rfl, 0, ⟨by omega, by omega⟩, rfl⟩ (by decide) (by decide) (fun hmok => ?_)
      refine ⟨rfl, rfl, rfl, rfl, rfl, rfl, 0, rfl, Or.inr ⟨rfl, ?_⟩⟩
      omega
    · skip
      refine v_iconst X dX12_isDigit_12 ?_
      refine v_goto X 17 dX12_isDigit_13 (by decide) ?_
      refine hret _ _ _ _ _ _ _ _ _ _ _ (some (.int (iz 1))) dX12_isDigit_17 ⟨rfl, 1, ⟨by omega, by omega⟩, rfl⟩ (by decide) (by decide) (fun hmok => ?_)
      refine ⟨rfl, rfl, rfl, rfl, rfl, rfl, 1, rfl, Or.inl ⟨rfl, ?_⟩⟩
      omega

-- isLetter
set_option maxHeartbeats 4000000 in
set_option maxRecDepth 100000 in
theorem c_X12_isLetter (l : Launch) (D : va_G) (cy : Nat → ClassId) {N : Nat} {sh : MS} {ad : Nat → Nat} {M L : MI} {R : MR} (a : Int) (ha : inR a) : Ctr l D cy yX12_isLetter wsX12_isLetter ({ frames := 0, cells := 0, slots := 0, locals := 0 } : Room) N sh ad M L R [.int (iz a)] (pB N sh ad M L R (97 ≤ a ∧ a ≤ 122)) := by
  refine Ctr.ofZ (by decide) rfl (Nat.le_of_ble_eq_true rfl) ?_
  intro K hKl hKd hRm hnm X hret
  have X : VX K cX12_isLetter 1 wsX12_isLetter RX12 := X
  show V K 1 0 0 N sh ad M L R [(0, .int (iz a))] [] 0
  refine v_iload_n X 0 dX12_isLetter_0 rfl rfl ?_
  refine v_bipush X dX12_isLetter_1 (by decide) ?_
  refine v_icmp_lt X 16 dX12_isLetter_3 (by decide) ⟨by omega, by omega⟩ ⟨by decide, by decide⟩ (fun u1 => ?_) (fun u1 => ?_)
  · skip
    refine v_iconst X dX12_isLetter_16 ?_
    refine hret _ _ _ _ _ _ _ _ _ _ _ (some (.int (iz 0))) dX12_isLetter_17 ⟨rfl, 0, ⟨by omega, by omega⟩, rfl⟩ (by decide) (by decide) (fun hmok => ?_)
    refine ⟨rfl, rfl, rfl, rfl, rfl, rfl, 0, rfl, Or.inr ⟨rfl, ?_⟩⟩
    omega
  · skip
    refine v_iload_n X 0 dX12_isLetter_6 rfl rfl ?_
    refine v_bipush X dX12_isLetter_7 (by decide) ?_
    refine v_icmp_gt X 16 dX12_isLetter_9 (by decide) ⟨by omega, by omega⟩ ⟨by decide, by decide⟩ (fun u2 => ?_) (fun u2 => ?_)
    · skip
      refine v_iconst X dX12_isLetter_16 ?_
      refine hret _ _ _ _ _ _ _ _ _ _ _ (some (.int (iz 0))) dX12_isLetter_17 ⟨rfl, 0, ⟨by omega, by omega⟩, rfl⟩ (by decide) (by decide) (fun hmok => ?_)
      refine ⟨rfl, rfl, rfl, rfl, rfl, rfl, 0, rfl, Or.inr ⟨rfl, ?_⟩⟩
      omega
    · skip
      refine v_iconst X dX12_isLetter_12 ?_
      refine v_goto X 17 dX12_isLetter_13 (by decide) ?_
      refine hret _ _ _ _ _ _ _ _ _ _ _ (some (.int (iz 1))) dX12_isLetter_17 ⟨rfl, 1, ⟨by omega, by omega⟩, rfl⟩ (by decide) (by decide) (fun hmok => ?_)
      refine ⟨rfl, rfl, rfl, rfl, rfl, rfl, 1, rfl, Or.inl ⟨rfl, ?_⟩⟩
      omega

-- isMinute
set_option maxHeartbeats 4000000 in
set_option maxRecDepth 100000 in
theorem c_X12_isMinute (l : Launch) (D : va_G) (cy : Nat → ClassId) {N : Nat} {sh : MS} {ad : Nat → Nat} {M L : MI} {R : MR} (a : Int) (ha : inR a) : Ctr l D cy yX12_isMinute wsX12_isMinute ({ frames := 0, cells := 0, slots := 0, locals := 0 } : Room) N sh ad M L R [.int (iz a)] (pB N sh ad M L R (0 ≤ a ∧ a < 240)) := by
  refine Ctr.ofZ (by decide) rfl (Nat.le_of_ble_eq_true rfl) ?_
  intro K hKl hKd hRm hnm X hret
  have X : VX K cX12_isMinute 1 wsX12_isMinute RX12 := X
  show V K 1 0 0 N sh ad M L R [(0, .int (iz a))] [] 0
  refine v_iload_n X 0 dX12_isMinute_0 rfl rfl ?_
  refine v_if_lt X 15 dX12_isMinute_1 (by decide) ⟨by omega, by omega⟩ (fun u1 => ?_) (fun u1 => ?_)
  · skip
    refine v_iconst X dX12_isMinute_15 ?_
    refine hret _ _ _ _ _ _ _ _ _ _ _ (some (.int (iz 0))) dX12_isMinute_16 ⟨rfl, 0, ⟨by omega, by omega⟩, rfl⟩ (by decide) (by decide) (fun hmok => ?_)
    refine ⟨rfl, rfl, rfl, rfl, rfl, rfl, 0, rfl, Or.inr ⟨rfl, ?_⟩⟩
    omega
  · skip
    refine v_iload_n X 0 dX12_isMinute_4 rfl rfl ?_
    refine v_sipush X dX12_isMinute_5 (by decide) ?_
    refine v_icmp_ge X 15 dX12_isMinute_8 (by decide) ⟨by omega, by omega⟩ ⟨by decide, by decide⟩ (fun u2 => ?_) (fun u2 => ?_)
    · skip
      refine v_iconst X dX12_isMinute_15 ?_
      refine hret _ _ _ _ _ _ _ _ _ _ _ (some (.int (iz 0))) dX12_isMinute_16 ⟨rfl, 0, ⟨by omega, by omega⟩, rfl⟩ (by decide) (by decide) (fun hmok => ?_)
      refine ⟨rfl, rfl, rfl, rfl, rfl, rfl, 0, rfl, Or.inr ⟨rfl, ?_⟩⟩
      omega
    · skip
      refine v_iconst X dX12_isMinute_11 ?_
      refine v_goto X 16 dX12_isMinute_12 (by decide) ?_
      refine hret _ _ _ _ _ _ _ _ _ _ _ (some (.int (iz 1))) dX12_isMinute_16 ⟨rfl, 1, ⟨by omega, by omega⟩, rfl⟩ (by decide) (by decide) (fun hmok => ?_)
      refine ⟨rfl, rfl, rfl, rfl, rfl, rfl, 1, rfl, Or.inl ⟨rfl, ?_⟩⟩
      omega

-- isSpan
set_option maxHeartbeats 4000000 in
set_option maxRecDepth 100000 in
theorem c_X12_isSpan (l : Launch) (D : va_G) (cy : Nat → ClassId) {N : Nat} {sh : MS} {ad : Nat → Nat} {M L : MI} {R : MR} (a b : Int) (ha : inR a) (hb : inR b) : Ctr l D cy yX12_isSpan wsX12_isSpan ({ frames := 0, cells := 0, slots := 0, locals := 0 } : Room) N sh ad M L R [.int (iz a), .int (iz b)] (pB N sh ad M L R (0 ≤ a ∧ a < b ∧ b ≤ 240)) := by
  refine Ctr.ofZ (by decide) rfl (Nat.le_of_ble_eq_true rfl) ?_
  intro K hKl hKd hRm hnm X hret
  have X : VX K cX12_isSpan 2 wsX12_isSpan RX12 := X
  show V K 2 0 0 N sh ad M L R [(0, .int (iz a)), (1, .int (iz b))] [] 0
  refine v_iload_n X 0 dX12_isSpan_0 rfl rfl ?_
  refine v_if_lt X 20 dX12_isSpan_1 (by decide) ⟨by omega, by omega⟩ (fun u1 => ?_) (fun u1 => ?_)
  · skip
    refine v_iconst X dX12_isSpan_20 ?_
    refine hret _ _ _ _ _ _ _ _ _ _ _ (some (.int (iz 0))) dX12_isSpan_21 ⟨rfl, 0, ⟨by omega, by omega⟩, rfl⟩ (by decide) (by decide) (fun hmok => ?_)
    refine ⟨rfl, rfl, rfl, rfl, rfl, rfl, 0, rfl, Or.inr ⟨rfl, ?_⟩⟩
    omega
  · skip
    refine v_iload_n X 0 dX12_isSpan_4 rfl rfl ?_
    refine v_iload_n X 1 dX12_isSpan_5 rfl rfl ?_
    refine v_icmp_ge X 20 dX12_isSpan_6 (by decide) ⟨by omega, by omega⟩ ⟨by omega, by omega⟩ (fun u2 => ?_) (fun u2 => ?_)
    · skip
      refine v_iconst X dX12_isSpan_20 ?_
      refine hret _ _ _ _ _ _ _ _ _ _ _ (some (.int (iz 0))) dX12_isSpan_21 ⟨rfl, 0, ⟨by omega, by omega⟩, rfl⟩ (by decide) (by decide) (fun hmok => ?_)
      refine ⟨rfl, rfl, rfl, rfl, rfl, rfl, 0, rfl, Or.inr ⟨rfl, ?_⟩⟩
      omega
    · skip
      refine v_iload_n X 1 dX12_isSpan_9 rfl rfl ?_
      refine v_sipush X dX12_isSpan_10 (by decide) ?_
      refine v_icmp_gt X 20 dX12_isSpan_13 (by decide) ⟨by omega, by omega⟩ ⟨by decide, by decide⟩ (fun u3 => ?_) (fun u3 => ?_)
      · skip
        refine v_iconst X dX12_isSpan_20 ?_
        refine hret _ _ _ _ _ _ _ _ _ _ _ (some (.int (iz 0))) dX12_isSpan_21 ⟨rfl, 0, ⟨by omega, by omega⟩, rfl⟩ (by decide) (by decide) (fun hmok => ?_)
        refine ⟨rfl, rfl, rfl, rfl, rfl, rfl, 0, rfl, Or.inr ⟨rfl, ?_⟩⟩
        omega
      · skip
        refine v_iconst X dX12_isSpan_16 ?_
        refine v_goto X 21 dX12_isSpan_17 (by decide) ?_
        refine hret _ _ _ _ _ _ _ _ _ _ _ (some (.int (iz 1))) dX12_isSpan_21 ⟨rfl, 1, ⟨by omega, by omega⟩, rfl⟩ (by decide) (by decide) (fun hmok => ?_)
        refine ⟨rfl, rfl, rfl, rfl, rfl, rfl, 1, rfl, Or.inl ⟨rfl, ?_⟩⟩
        omega

-- isAct
set_option maxHeartbeats 4000000 in
set_option maxRecDepth 100000 in
theorem c_X12_isAct (l : Launch) (D : va_G) (cy : Nat → ClassId) {N : Nat} {sh : MS} {ad : Nat → Nat} {M L : MI} {R : MR} (hS : Std N sh R) (a : Int) (ha : inR a) : Ctr l D cy yX12_isAct wsX12_isAct ({ frames := 0, cells := 0, slots := 0, locals := 0 } : Room) N sh ad M L R [.ref (ad 53), .int (iz a)] (pB N sh ad M L R (0 ≤ a ∧ a < M 53 37)) := by
  refine Ctr.ofZ (by decide) rfl (Nat.le_of_ble_eq_true rfl) ?_
  intro K hKl hKd hRm hnm X hret
  have X : VX K cX12_isAct 2 wsX12_isAct RX12 := X
  show V K 2 0 0 N sh ad M L R [(0, .ref (ad 53)), (1, .int (iz a))] [] 0
  refine v_iload_n X 1 dX12_isAct_0 rfl rfl ?_
  refine v_if_lt X 16 dX12_isAct_1 (by decide) ⟨by omega, by omega⟩ (fun u1 => ?_) (fun u1 => ?_)
  · skip
    refine v_iconst X dX12_isAct_16 ?_
    refine hret _ _ _ _ _ _ _ _ _ _ _ (some (.int (iz 0))) dX12_isAct_17 ⟨rfl, 0, ⟨by omega, by omega⟩, rfl⟩ (by decide) (by decide) (fun hmok => ?_)
    refine ⟨rfl, rfl, rfl, rfl, rfl, rfl, 0, rfl, Or.inr ⟨rfl, ?_⟩⟩
    omega
  · skip
    refine v_iload_n X 1 dX12_isAct_4 rfl rfl ?_
    refine v_aload_n X 0 dX12_isAct_5 rfl rfl ?_
    refine gt_X12_acts X iwX12 (Std.lt hS rfl) (Std.k hS rfl rfl) (List.mem_cons_of_mem _ bw_23_20) dX12_isAct_6 (M 53 37) rfl (fun hr2 => ?_)
    refine v_icmp_ge X 16 dX12_isAct_9 (by decide) ⟨by omega, by omega⟩ ⟨by omega, by omega⟩ (fun u3 => ?_) (fun u3 => ?_)
    · skip
      refine v_iconst X dX12_isAct_16 ?_
      refine hret _ _ _ _ _ _ _ _ _ _ _ (some (.int (iz 0))) dX12_isAct_17 ⟨rfl, 0, ⟨by omega, by omega⟩, rfl⟩ (by decide) (by decide) (fun hmok => ?_)
      refine ⟨rfl, rfl, rfl, rfl, rfl, rfl, 0, rfl, Or.inr ⟨rfl, ?_⟩⟩
      omega
    · skip
      refine v_iconst X dX12_isAct_12 ?_
      refine v_goto X 17 dX12_isAct_13 (by decide) ?_
      refine hret _ _ _ _ _ _ _ _ _ _ _ (some (.int (iz 1))) dX12_isAct_17 ⟨rfl, 1, ⟨by omega, by omega⟩, rfl⟩ (by decide) (by decide) (fun hmok => ?_)
      refine ⟨rfl, rfl, rfl, rfl, rfl, rfl, 1, rfl, Or.inl ⟨rfl, ?_⟩⟩
      omega

-- isKnown
set_option maxHeartbeats 4000000 in
set_option maxRecDepth 100000 in
theorem c_X12_isKnown (l : Launch) (D : va_G) (cy : Nat → ClassId) {N : Nat} {sh : MS} {ad : Nat → Nat} {M L : MI} {R : MR} (hS : Std N sh R) (a : Int) (ha : inR a) : Ctr l D cy yX12_isKnown wsX12_isKnown ({ frames := 0, cells := 0, slots := 0, locals := 0 } : Room) N sh ad M L R [.ref (ad 53), .int (iz a)] (pB N sh ad M L R (0 ≤ a ∧ a ≤ M 53 53)) := by
  refine Ctr.ofZ (by decide) rfl (Nat.le_of_ble_eq_true rfl) ?_
  intro K hKl hKd hRm hnm X hret
  have X : VX K cX12_isKnown 2 wsX12_isKnown RX12 := X
  show V K 2 0 0 N sh ad M L R [(0, .ref (ad 53)), (1, .int (iz a))] [] 0
  refine v_iload_n X 1 dX12_isKnown_0 rfl rfl ?_
  refine v_if_lt X 16 dX12_isKnown_1 (by decide) ⟨by omega, by omega⟩ (fun u1 => ?_) (fun u1 => ?_)
  · skip
    refine v_iconst X dX12_isKnown_16 ?_
    refine hret _ _ _ _ _ _ _ _ _ _ _ (some (.int (iz 0))) dX12_isKnown_17 ⟨rfl, 0, ⟨by omega, by omega⟩, rfl⟩ (by decide) (by decide) (fun hmok => ?_)
    refine ⟨rfl, rfl, rfl, rfl, rfl, rfl, 0, rfl, Or.inr ⟨rfl, ?_⟩⟩
    omega
  · skip
    refine v_iload_n X 1 dX12_isKnown_4 rfl rfl ?_
    refine v_aload_n X 0 dX12_isKnown_5 rfl rfl ?_
    refine gt_X12_facts X iwX12 (Std.lt hS rfl) (Std.k hS rfl rfl) (List.mem_cons_of_mem _ bw_27_9) dX12_isKnown_6 (M 53 53) rfl (fun hr2 => ?_)
    refine v_icmp_gt X 16 dX12_isKnown_9 (by decide) ⟨by omega, by omega⟩ ⟨by omega, by omega⟩ (fun u3 => ?_) (fun u3 => ?_)
    · skip
      refine v_iconst X dX12_isKnown_16 ?_
      refine hret _ _ _ _ _ _ _ _ _ _ _ (some (.int (iz 0))) dX12_isKnown_17 ⟨rfl, 0, ⟨by omega, by omega⟩, rfl⟩ (by decide) (by decide) (fun hmok => ?_)
      refine ⟨rfl, rfl, rfl, rfl, rfl, rfl, 0, rfl, Or.inr ⟨rfl, ?_⟩⟩
      omega
    · skip
      refine v_iconst X dX12_isKnown_12 ?_
      refine v_goto X 17 dX12_isKnown_13 (by decide) ?_
      refine hret _ _ _ _ _ _ _ _ _ _ _ (some (.int (iz 1))) dX12_isKnown_17 ⟨rfl, 1, ⟨by omega, by omega⟩, rfl⟩ (by decide) (by decide) (fun hmok => ?_)
      refine ⟨rfl, rfl, rfl, rfl, rfl, rfl, 1, rfl, Or.inl ⟨rfl, ?_⟩⟩
      omega

-- back
set_option maxHeartbeats 4000000 in
set_option maxRecDepth 100000 in
theorem c_X12_back (l : Launch) (D : va_G) (cy : Nat → ClassId) {N : Nat} {sh : MS} {ad : Nat → Nat} {M L : MI} {R : MR} (hS : Std N sh R) (a : Int) (ha : inR a) : Ctr l D cy yX12_back wsX12_back ({ frames := 0, cells := 0, slots := 0, locals := 0 } : Room) N sh ad M L R [.ref (ad 53), .int (iz a)] (eI N sh ad L R (fun r M' => if 0 ≤ a ∧ a ≤ M 53 2 then r = M 53 2 - a ∧ M' = mu M 53 2 (M 53 2 - a) else r = -1 ∧ M' = M)) := by
  refine Ctr.ofI (by decide) rfl (Nat.le_of_ble_eq_true rfl) ?_
  intro K hKl hKd hRm hnm X hret
  have X : VX K cX12_back 2 wsX12_back RX12 := X
  show V K 2 0 0 N sh ad M L R [(0, .ref (ad 53)), (1, .int (iz a))] [] 0
  refine v_iload_n X 1 dX12_back_0 rfl rfl ?_
  refine v_if_lt X 12 dX12_back_1 (by decide) ⟨by omega, by omega⟩ (fun u1 => ?_) (fun u1 => ?_)
  · skip
    refine v_iconst X dX12_back_12 ?_
    refine hret _ _ _ _ _ _ _ _ _ _ _ (some (.int (iz (-1)))) dX12_back_13 ⟨rfl, _, rfl⟩ (by decide) (by decide) (fun hmok => ?_)
    refine ⟨rfl, rfl, rfl, rfl, rfl, (-1), rfl, ⟨by decide, by decide⟩, ?_⟩
    try dsimp only
    first | (rw [if_neg (by omega)]; exact ⟨rfl, rfl⟩) | (rw [if_pos (by omega)]; exact ⟨rfl, rfl⟩)
  · skip
    refine v_iload_n X 1 dX12_back_4 rfl rfl ?_
    refine v_aload_n X 0 dX12_back_5 rfl rfl ?_
    refine gt_X12_taped X iwX12 (Std.lt hS rfl) (Std.k hS rfl rfl) (List.mem_cons_of_mem _ bw_11_4) dX12_back_6 (M 53 2) rfl (fun hr2 => ?_)
    refine v_icmp_le X 14 dX12_back_9 (by decide) ⟨by omega, by omega⟩ ⟨by omega, by omega⟩ (fun u3 => ?_) (fun u3 => ?_)
    · skip
      refine v_aload_n X 0 dX12_back_14 rfl rfl ?_
      refine v_dup X dX12_back_15 rfl ?_
      refine gt_X12_taped X iwX12 (Std.lt hS rfl) (Std.k hS rfl rfl) (List.mem_cons_of_mem _ bw_11_4) dX12_back_16 (M 53 2) rfl (fun hr4 => ?_)
      refine v_iload_n X 1 dX12_back_19 rfl rfl ?_
      refine v_isub X dX12_back_20 ?_
      refine pt_X12_taped X iwX12 (Std.lt hS rfl) (Std.k hS rfl rfl) (List.mem_cons_of_mem _ bw_11_4) ⟨by omega, by omega⟩ dX12_back_21 ?_
      refine v_aload_n X 0 dX12_back_24 rfl rfl ?_
      refine gt_X12_taped X iwX12 (Std.lt hS rfl) (Std.k hS rfl rfl) (List.mem_cons_of_mem _ bw_11_4) dX12_back_25 ((M 53 2) - a) rfl (fun hr5 => ?_)
      refine hret _ _ _ _ _ _ _ _ _ _ _ (some (.int (iz ((M 53 2) - a)))) dX12_back_28 ⟨rfl, _, rfl⟩ (by decide) (by decide) (fun hmok => ?_)
      refine ⟨rfl, rfl, rfl, rfl, rfl, ((M 53 2) - a), rfl, ⟨by omega, by omega⟩, ?_⟩
      try dsimp only
      first | (rw [if_neg (by omega)]; exact ⟨rfl, rfl⟩) | (rw [if_pos (by omega)]; exact ⟨rfl, rfl⟩)
    · skip
      refine v_iconst X dX12_back_12 ?_
      refine hret _ _ _ _ _ _ _ _ _ _ _ (some (.int (iz (-1)))) dX12_back_13 ⟨rfl, _, rfl⟩ (by decide) (by decide) (fun hmok => ?_)
      refine ⟨rfl, rfl, rfl, rfl, rfl, (-1), rfl, ⟨by decide, by decide⟩, ?_⟩
      try dsimp only
      first | (rw [if_neg (by omega)]; exact ⟨rfl, rfl⟩) | (rw [if_pos (by omega)]; exact ⟨rfl, rfl⟩)

-- isTwice
set_option maxHeartbeats 4000000 in
set_option maxRecDepth 100000 in
theorem c_X11_isTwice (l : Launch) (D : va_G) (cy : Nat → ClassId) {N : Nat} {sh : MS} {ad : Nat → Nat} {M L : MI} {R : MR} (a b : Int) (ha : inR a) (hb : inR b) : Ctr l D cy yX11_isTwice wsX11_isTwice ({ frames := 0, cells := 0, slots := 0, locals := 0 } : Room) N sh ad M L R [.int (iz a), .int (iz b)] (pB N sh ad M L R (a = b ∧ a ≠ -1)) := by
  refine Ctr.ofZ (by decide) rfl (Nat.le_of_ble_eq_true rfl) ?_
  intro K hKl hKd hRm hnm X hret
  have X : VX K cX11_isTwice 2 wsX11_isTwice RX11 := X
  show V K 2 0 0 N sh ad M L R [(0, .int (iz a)), (1, .int (iz b))] [] 0
  refine v_iload_n X 0 dX11_isTwice_0 rfl rfl ?_
  refine v_iload_n X 1 dX11_isTwice_1 rfl rfl ?_
  refine v_icmp_ne X 14 dX11_isTwice_2 (by decide) ⟨by omega, by omega⟩ ⟨by omega, by omega⟩ (fun u1 => ?_) (fun u1 => ?_)
  · skip
    refine v_iconst X dX11_isTwice_14 ?_
    refine hret _ _ _ _ _ _ _ _ _ _ _ (some (.int (iz 0))) dX11_isTwice_15 ⟨rfl, 0, ⟨by omega, by omega⟩, rfl⟩ (by decide) (by decide) (fun hmok => ?_)
    refine ⟨rfl, rfl, rfl, rfl, rfl, rfl, 0, rfl, Or.inr ⟨rfl, ?_⟩⟩
    omega
  · skip
    refine v_iload_n X 0 dX11_isTwice_5 rfl rfl ?_
    refine v_iconst X dX11_isTwice_6 ?_
    refine v_icmp_eq X 14 dX11_isTwice_7 (by decide) ⟨by omega, by omega⟩ ⟨by decide, by decide⟩ (fun u2 => ?_) (fun u2 => ?_)
    · skip
      refine v_iconst X dX11_isTwice_14 ?_
      refine hret _ _ _ _ _ _ _ _ _ _ _ (some (.int (iz 0))) dX11_isTwice_15 ⟨rfl, 0, ⟨by omega, by omega⟩, rfl⟩ (by decide) (by decide) (fun hmok => ?_)
      refine ⟨rfl, rfl, rfl, rfl, rfl, rfl, 0, rfl, Or.inr ⟨rfl, ?_⟩⟩
      omega
    · skip
      refine v_iconst X dX11_isTwice_10 ?_
      refine v_goto X 15 dX11_isTwice_11 (by decide) ?_
      refine hret _ _ _ _ _ _ _ _ _ _ _ (some (.int (iz 1))) dX11_isTwice_15 ⟨rfl, 1, ⟨by omega, by omega⟩, rfl⟩ (by decide) (by decide) (fun hmok => ?_)
      refine ⟨rfl, rfl, rfl, rfl, rfl, rfl, 1, rfl, Or.inl ⟨rfl, ?_⟩⟩
      omega

-- isWithin
set_option maxHeartbeats 4000000 in
set_option maxRecDepth 100000 in
theorem c_X11_isWithin (l : Launch) (D : va_G) (cy : Nat → ClassId) {N : Nat} {sh : MS} {ad : Nat → Nat} {M L : MI} {R : MR} (a b c : Int) (ha : inR a) (hb : inR b) (hc : inR c) : Ctr l D cy yX11_isWithin wsX11_isWithin ({ frames := 0, cells := 0, slots := 0, locals := 0 } : Room) N sh ad M L R [.int (iz a), .int (iz b), .int (iz c)] (pB N sh ad M L R (b ≤ a ∧ a ≤ c)) := by
  refine Ctr.ofZ (by decide) rfl (Nat.le_of_ble_eq_true rfl) ?_
  intro K hKl hKd hRm hnm X hret
  have X : VX K cX11_isWithin 3 wsX11_isWithin RX11 := X
  show V K 3 0 0 N sh ad M L R [(0, .int (iz a)), (1, .int (iz b)), (2, .int (iz c))] [] 0
  refine v_iload_n X 0 dX11_isWithin_0 rfl rfl ?_
  refine v_iload_n X 1 dX11_isWithin_1 rfl rfl ?_
  refine v_icmp_lt X 14 dX11_isWithin_2 (by decide) ⟨by omega, by omega⟩ ⟨by omega, by omega⟩ (fun u1 => ?_) (fun u1 => ?_)
  · skip
    refine v_iconst X dX11_isWithin_14 ?_
    refine hret _ _ _ _ _ _ _ _ _ _ _ (some (.int (iz 0))) dX11_isWithin_15 ⟨rfl, 0, ⟨by omega, by omega⟩, rfl⟩ (by decide) (by decide) (fun hmok => ?_)
    refine ⟨rfl, rfl, rfl, rfl, rfl, rfl, 0, rfl, Or.inr ⟨rfl, ?_⟩⟩
    omega
  · skip
    refine v_iload_n X 0 dX11_isWithin_5 rfl rfl ?_
    refine v_iload_n X 2 dX11_isWithin_6 rfl rfl ?_
    refine v_icmp_gt X 14 dX11_isWithin_7 (by decide) ⟨by omega, by omega⟩ ⟨by omega, by omega⟩ (fun u2 => ?_) (fun u2 => ?_)
    · skip
      refine v_iconst X dX11_isWithin_14 ?_
      refine hret _ _ _ _ _ _ _ _ _ _ _ (some (.int (iz 0))) dX11_isWithin_15 ⟨rfl, 0, ⟨by omega, by omega⟩, rfl⟩ (by decide) (by decide) (fun hmok => ?_)
      refine ⟨rfl, rfl, rfl, rfl, rfl, rfl, 0, rfl, Or.inr ⟨rfl, ?_⟩⟩
      omega
    · skip
      refine v_iconst X dX11_isWithin_10 ?_
      refine v_goto X 15 dX11_isWithin_11 (by decide) ?_
      refine hret _ _ _ _ _ _ _ _ _ _ _ (some (.int (iz 1))) dX11_isWithin_15 ⟨rfl, 1, ⟨by omega, by omega⟩, rfl⟩ (by decide) (by decide) (fun hmok => ?_)
      refine ⟨rfl, rfl, rfl, rfl, rfl, rfl, 1, rfl, Or.inl ⟨rfl, ?_⟩⟩
      omega

-- isMinute
set_option maxHeartbeats 4000000 in
set_option maxRecDepth 100000 in
theorem c_X11_isMinute (l : Launch) (D : va_G) (cy : Nat → ClassId) {N : Nat} {sh : MS} {ad : Nat → Nat} {M L : MI} {R : MR} (a : Int) (ha : inR a) : Ctr l D cy yX11_isMinute wsX11_isMinute ({ frames := 1, cells := 0, slots := 0, locals := 22 } : Room) N sh ad M L R [.int (iz a)] (pB N sh ad M L R (0 ≤ a ∧ a ≤ 239)) := by
  refine Ctr.ofZ (by decide) rfl (Nat.le_of_ble_eq_true rfl) ?_
  intro K hKl hKd hRm hnm X hret
  have X : VX K cX11_isMinute 1 wsX11_isMinute RX11 := X
  show V K 1 0 0 N sh ad M L R [(0, .int (iz a))] [] 0
  refine v_iload_n X 0 dX11_isMinute_0 rfl rfl ?_
  refine v_iconst X dX11_isMinute_1 ?_
  refine v_sipush X dX11_isMinute_2 (by decide) ?_
  refine v_callS X [.int (iz a), .int (iz 0), .int (iz 239)] hRm (c_X11_isWithin _ _ _ a 0 239 ⟨by omega, by omega⟩ ⟨by omega, by omega⟩ ⟨by omega, by omega⟩) (gS bw_11_13 bw_11_14 bw_1_2 bw_11_15) rfl ddX11_isWithin (by decide) (Nat.le_of_ble_eq_true rfl) dX11_isMinute_5 (k_pB (fun b1 => ?_) (fun b1 => ?_))
  · skip
    refine hret _ _ _ _ _ _ _ _ _ _ _ (some (.int (iz 1))) dX11_isMinute_8 ⟨rfl, 1, ⟨by omega, by omega⟩, rfl⟩ (by decide) (by decide) (fun hmok => ?_)
    refine ⟨rfl, rfl, rfl, rfl, rfl, rfl, 1, rfl, Or.inl ⟨rfl, ?_⟩⟩
    omega
  · skip
    refine hret _ _ _ _ _ _ _ _ _ _ _ (some (.int (iz 0))) dX11_isMinute_8 ⟨rfl, 0, ⟨by omega, by omega⟩, rfl⟩ (by decide) (by decide) (fun hmok => ?_)
    refine ⟨rfl, rfl, rfl, rfl, rfl, rfl, 0, rfl, Or.inr ⟨rfl, ?_⟩⟩
    omega

-- isBase
set_option maxHeartbeats 4000000 in
set_option maxRecDepth 100000 in
theorem c_X11_isBase (l : Launch) (D : va_G) (cy : Nat → ClassId) {N : Nat} {sh : MS} {ad : Nat → Nat} {M L : MI} {R : MR} (a : Int) (ha : inR a) : Ctr l D cy yX11_isBase wsX11_isBase ({ frames := 1, cells := 0, slots := 0, locals := 22 } : Room) N sh ad M L R [.int (iz a)] (pB N sh ad M L R (0 ≤ a ∧ a ≤ 9)) := by
  refine Ctr.ofZ (by decide) rfl (Nat.le_of_ble_eq_true rfl) ?_
  intro K hKl hKd hRm hnm X hret
  have X : VX K cX11_isBase 1 wsX11_isBase RX11 := X
  show V K 1 0 0 N sh ad M L R [(0, .int (iz a))] [] 0
  refine v_iload_n X 0 dX11_isBase_0 rfl rfl ?_
  refine v_iconst X dX11_isBase_1 ?_
  refine v_bipush X dX11_isBase_2 (by decide) ?_
  refine v_callS X [.int (iz a), .int (iz 0), .int (iz 9)] hRm (c_X11_isWithin _ _ _ a 0 9 ⟨by omega, by omega⟩ ⟨by omega, by omega⟩ ⟨by omega, by omega⟩) (gS bw_11_13 bw_11_14 bw_1_2 bw_11_15) rfl ddX11_isWithin (by decide) (Nat.le_of_ble_eq_true rfl) dX11_isBase_4 (k_pB (fun b1 => ?_) (fun b1 => ?_))
  · skip
    refine hret _ _ _ _ _ _ _ _ _ _ _ (some (.int (iz 1))) dX11_isBase_7 ⟨rfl, 1, ⟨by omega, by omega⟩, rfl⟩ (by decide) (by decide) (fun hmok => ?_)
    refine ⟨rfl, rfl, rfl, rfl, rfl, rfl, 1, rfl, Or.inl ⟨rfl, ?_⟩⟩
    omega
  · skip
    refine hret _ _ _ _ _ _ _ _ _ _ _ (some (.int (iz 0))) dX11_isBase_7 ⟨rfl, 0, ⟨by omega, by omega⟩, rfl⟩ (by decide) (by decide) (fun hmok => ?_)
    refine ⟨rfl, rfl, rfl, rfl, rfl, rfl, 0, rfl, Or.inr ⟨rfl, ?_⟩⟩
    omega

-- back
set_option maxHeartbeats 4000000 in
set_option maxRecDepth 100000 in
theorem c_X11_back (l : Launch) (D : va_G) (cy : Nat → ClassId) {N : Nat} {sh : MS} {ad : Nat → Nat} {M L : MI} {R : MR} (hS : Std N sh R) (a : Int) (ha : inR a) : Ctr l D cy yX11_back wsX11_back ({ frames := 1, cells := 0, slots := 0, locals := 22 } : Room) N sh ad M L R [.ref (ad 0), .int (iz a)] (eI N sh ad L R (fun r M' => if 0 ≤ a ∧ a ≤ M 1 1 then r = M 1 1 - a ∧ M' = mu M 1 1 (M 1 1 - a) else r = -1 ∧ M' = M)) := by
  refine Ctr.ofI (by decide) rfl (Nat.le_of_ble_eq_true rfl) ?_
  intro K hKl hKd hRm hnm X hret
  have X : VX K cX11_back 2 wsX11_back RX11 := X
  show V K 2 0 0 N sh ad M L R [(0, .ref (ad 0)), (1, .int (iz a))] [] 0
  refine v_iload_n X 1 dX11_back_0 rfl rfl ?_
  refine v_iconst X dX11_back_1 ?_
  refine v_aload_n X 0 dX11_back_2 rfl rfl ?_
  refine gt_X11_tape X iwX11 (Std.lt hS rfl) (Std.k hS rfl rfl) (List.mem_cons_of_mem _ bw_1_15) dX11_back_3 1 (Std.r hS 0 rfl) ?_
  refine gt_X9_size X iwX9 (Std.lt hS rfl) (Std.k hS rfl rfl) (List.mem_cons_of_mem _ bw_10_15) dX11_back_6 (M 1 1) rfl (fun hr1 => ?_)
  refine v_callS X [.int (iz a), .int (iz 0), .int (iz (M 1 1))] hRm (c_X11_isWithin _ _ _ a 0 (M 1 1) ⟨by omega, by omega⟩ ⟨by omega, by omega⟩ ⟨by omega, by omega⟩) (gS bw_11_13 bw_11_14 bw_1_2 bw_11_15) rfl ddX11_isWithin (by decide) (Nat.le_of_ble_eq_true rfl) dX11_back_9 (k_pB (fun b2 => ?_) (fun b2 => ?_))
  · skip
    refine v_if_ne X 17 dX11_back_12 (by decide) ⟨by decide, by decide⟩ (fun _ => ?_) (fun q => absurd (by decide) q)
    refine v_aload_n X 0 dX11_back_17 rfl rfl ?_
    refine gt_X11_tape X iwX11 (Std.lt hS rfl) (Std.k hS rfl rfl) (List.mem_cons_of_mem _ bw_1_15) dX11_back_18 1 (Std.r hS 0 rfl) ?_
    refine v_dup X dX11_back_21 rfl ?_
    refine gt_X9_size X iwX9 (Std.lt hS rfl) (Std.k hS rfl rfl) (List.mem_cons_of_mem _ bw_10_15) dX11_back_22 (M 1 1) rfl (fun hr3 => ?_)
    refine v_iload_n X 1 dX11_back_25 rfl rfl ?_
    refine v_isub X dX11_back_26 ?_
    refine pt_X9_size X iwX9 (Std.lt hS rfl) (Std.k hS rfl rfl) (List.mem_cons_of_mem _ bw_10_15) ⟨by omega, by omega⟩ dX11_back_27 ?_
    refine v_aload_n X 0 dX11_back_30 rfl rfl ?_
    refine gt_X11_tape X iwX11 (Std.lt hS rfl) (Std.k hS rfl rfl) (List.mem_cons_of_mem _ bw_1_15) dX11_back_31 1 (Std.r hS 0 rfl) ?_
    refine gt_X9_size X iwX9 (Std.lt hS rfl) (Std.k hS rfl rfl) (List.mem_cons_of_mem _ bw_10_15) dX11_back_34 ((M 1 1) - a) rfl (fun hr4 => ?_)
    refine hret _ _ _ _ _ _ _ _ _ _ _ (some (.int (iz ((M 1 1) - a)))) dX11_back_37 ⟨rfl, _, rfl⟩ (by decide) (by decide) (fun hmok => ?_)
    refine ⟨rfl, rfl, rfl, rfl, rfl, ((M 1 1) - a), rfl, ⟨by omega, by omega⟩, ?_⟩
    try dsimp only
    first | (rw [if_neg (by omega)]; exact ⟨rfl, rfl⟩) | (rw [if_pos (by omega)]; exact ⟨rfl, rfl⟩)
  · skip
    refine v_if_ne X 17 dX11_back_12 (by decide) ⟨by decide, by decide⟩ (fun q => absurd q (by decide)) (fun _ => ?_)
    refine v_iconst X dX11_back_15 ?_
    refine hret _ _ _ _ _ _ _ _ _ _ _ (some (.int (iz (-1)))) dX11_back_16 ⟨rfl, _, rfl⟩ (by decide) (by decide) (fun hmok => ?_)
    refine ⟨rfl, rfl, rfl, rfl, rfl, (-1), rfl, ⟨by decide, by decide⟩, ?_⟩
    try dsimp only
    first | (rw [if_neg (by omega)]; exact ⟨rfl, rfl⟩) | (rw [if_pos (by omega)]; exact ⟨rfl, rfl⟩)

