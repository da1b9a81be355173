/-! THE MODEL: bounds that always hold, its plain methods -/
def mBnd (M : MI) : Prop := (0 ≤ M 53 37 ∧ M 53 37 ≤ 6) ∧ (M 53 49 = -1 ∨ M 53 49 = 10) ∧ (0 ≤ M 53 51 ∧ M 53 51 ≤ 50) ∧ (0 ≤ M 53 52 ∧ M 53 52 ≤ 300) ∧ (0 ≤ M 53 53 ∧ M 53 53 ≤ 100) ∧ (∀ k, 0 ≤ M 87 k ∧ M 87 k ≤ 99) ∧ (∀ k, 0 ≤ M 84 k ∧ M 84 k ≤ 20) ∧ (∀ k, 0 ≤ M 85 k ∧ M 85 k ≤ 9) ∧ (∀ k, 0 ≤ M 83 k ∧ M 83 k ≤ 9) ∧ (∀ k, 0 ≤ M 82 k ∧ M 82 k ≤ 6)
theorem mul_b {a b : Int} (ha : 0 ≤ a ∧ a ≤ 20) (hb : 0 ≤ b ∧ b ≤ 99) : 0 ≤ a * b ∧ a * b ≤ 1980 := by
  refine ⟨Int.mul_nonneg ha.1 hb.1, ?_⟩
  have := Int.mul_le_mul ha.2 hb.2 hb.1 (by omega : (0 : Int) ≤ 20)
  omega
def mFar (M : MI) (i : Int) : Int := M 84 i * (if M 53 49 = -1 then 20 else M 87 (M 85 i)) / 10 + M 53 51
theorem mFar_b {M : MI} (h : mBnd M) (i : Int) : 0 ≤ mFar M i ∧ mFar M i ≤ 250 := by
  have h1 := h.2.2.2.2.2.2.1 i
  have h2 : 0 ≤ (if M 53 49 = -1 then 20 else M 87 (M 85 i)) ∧ (if M 53 49 = -1 then 20 else M 87 (M 85 i)) ≤ 99 := by
    have := h.2.2.2.2.2.1 (M 85 i)
    split <;> omega
  have h3 := mul_b h1 h2
  have h4 := h.2.2.1
  unfold mFar
  omega

-- is
set_option maxHeartbeats 4000000 in
set_option maxRecDepth 100000 in
theorem c_X12_is (l : Launch) (D : va_G) (cy : Nat → ClassId) {N : Nat} {sh : MS} {ad : Nat → Nat} {M L : MI} {R : MR} (hS : Std N sh R) (a : Int) (ha : inR a) (ht : 0 ≤ M 53 11 ∧ M 53 11 < 403) : Ctr l D cy yX12_is wsX12_is ({ frames := 0, cells := 0, slots := 0, locals := 0 } : Room) N sh ad M L R [.ref (ad 53), .int (iz a)] (pB N sh ad M L R (M 53 13 = 0 ∧ M 56 (M 53 11) = a)) := by
  refine Ctr.ofZ (by decide) rfl (Nat.le_of_ble_eq_true rfl) ?_
  intro K hKl hKd hRm hnm X hret
  have X : VX K cX12_is 2 wsX12_is RX12 := X
  show V K 2 0 0 N sh ad M L R [(0, .ref (ad 53)), (1, .int (iz a))] [] 0
  refine v_aload_n X 0 dX12_is_0 rfl rfl ?_
  refine gt_X12_fault X iwX12 (Std.lt hS rfl) (Std.k hS rfl rfl) (List.mem_cons_of_mem _ bw_19_13) dX12_is_1 (M 53 13) rfl (fun hr1 => ?_)
  refine v_if_ne X 24 dX12_is_4 (by decide) ⟨by omega, by omega⟩ (fun u2 => ?_) (fun u2 => ?_)
  · skip
    refine v_iconst X dX12_is_24 ?_
    refine hret _ _ _ _ _ _ _ _ _ _ _ (some (.int (iz 0))) dX12_is_25 ⟨rfl, 0, ⟨by omega, by omega⟩, rfl⟩ (by decide) (by decide) (fun hmok => ?_)
    refine ⟨rfl, rfl, rfl, rfl, rfl, rfl, 0, rfl, Or.inr ⟨rfl, ?_⟩⟩
    omega
  · skip
    refine v_aload_n X 0 dX12_is_7 rfl rfl ?_
    refine gt_X12_tKind X iwX12 (Std.lt hS rfl) (Std.k hS rfl rfl) (List.mem_cons_of_mem _ bw_7_16) dX12_is_8 56 (Std.r hS 5 rfl) ?_
    refine v_aload_n X 0 dX12_is_11 rfl rfl ?_
    refine gt_X12_t X iwX12 (Std.lt hS rfl) (Std.k hS rfl rfl) (List.mem_cons_of_mem _ bw_19_11) dX12_is_12 (M 53 11) rfl (fun hr3 => ?_)
    refine v_iald X (M 56 (M 53 11)) (Std.lt hS rfl) (Std.at hS rfl rfl) (by omega) (by omega) dX12_is_15 rfl (fun hr4 => ?_)
    refine v_iload_n X 1 dX12_is_16 rfl rfl ?_
    refine v_icmp_ne X 24 dX12_is_17 (by decide) ⟨by omega, by omega⟩ ⟨by omega, by omega⟩ (fun u5 => ?_) (fun u5 => ?_)
    · skip
      refine v_iconst X dX12_is_24 ?_
      refine hret _ _ _ _ _ _ _ _ _ _ _ (some (.int (iz 0))) dX12_is_25 ⟨rfl, 0, ⟨by omega, by omega⟩, rfl⟩ (by decide) (by decide) (fun hmok => ?_)
      refine ⟨rfl, rfl, rfl, rfl, rfl, rfl, 0, rfl, Or.inr ⟨rfl, ?_⟩⟩
      omega
    · skip
      refine v_iconst X dX12_is_20 ?_
      refine v_goto X 25 dX12_is_21 (by decide) ?_
      refine hret _ _ _ _ _ _ _ _ _ _ _ (some (.int (iz 1))) dX12_is_25 ⟨rfl, 1, ⟨by omega, by omega⟩, rfl⟩ (by decide) (by decide) (fun hmok => ?_)
      refine ⟨rfl, rfl, rfl, rfl, rfl, rfl, 1, rfl, Or.inl ⟨rfl, ?_⟩⟩
      omega

-- fail
set_option maxHeartbeats 4000000 in
set_option maxRecDepth 100000 in
theorem c_X12_fail (l : Launch) (D : va_G) (cy : Nat → ClassId) {N : Nat} {sh : MS} {ad : Nat → Nat} {M L : MI} {R : MR} (hS : Std N sh R) (a : Int) (ha : inR a) (ht : 0 ≤ M 53 11 ∧ M 53 11 < 403) : Ctr l D cy yX12_fail wsX12_fail ({ frames := 0, cells := 0, slots := 0, locals := 0 } : Room) N sh ad M L R [.ref (ad 53), .int (iz a)] (eV N sh ad L R (fun M' => M' = if 0 < M 53 13 then M else mu (mu M 53 13 a) 53 14 (M 57 (M 53 11)))) := by
  refine Ctr.ofV (by decide) rfl (Nat.le_of_ble_eq_true rfl) ?_
  intro K hKl hKd hRm hnm X hret
  have X : VX K cX12_fail 2 wsX12_fail RX12 := X
  show V K 2 0 0 N sh ad M L R [(0, .ref (ad 53)), (1, .int (iz a))] [] 0
  refine v_aload_n X 0 dX12_fail_0 rfl rfl ?_
  refine gt_X12_fault X iwX12 (Std.lt hS rfl) (Std.k hS rfl rfl) (List.mem_cons_of_mem _ bw_19_13) dX12_fail_1 (M 53 13) rfl (fun hr1 => ?_)
  refine v_if_le X 8 dX12_fail_4 (by decide) ⟨by omega, by omega⟩ (fun u2 => ?_) (fun u2 => ?_)
  · skip
    refine v_aload_n X 0 dX12_fail_8 rfl rfl ?_
    refine v_iload_n X 1 dX12_fail_9 rfl rfl ?_
    refine pt_X12_fault X iwX12 (Std.lt hS rfl) (Std.k hS rfl rfl) (List.mem_cons_of_mem _ bw_19_13) ⟨by omega, by omega⟩ dX12_fail_10 ?_
    refine v_aload_n X 0 dX12_fail_13 rfl rfl ?_
    refine v_aload_n X 0 dX12_fail_14 rfl rfl ?_
    refine gt_X12_tPlace X iwX12 (Std.lt hS rfl) (Std.k hS rfl rfl) (List.mem_cons_of_mem _ bw_7_17) dX12_fail_15 57 (Std.r hS 6 rfl) ?_
    refine v_aload_n X 0 dX12_fail_18 rfl rfl ?_
    refine gt_X12_t X iwX12 (Std.lt hS rfl) (Std.k hS rfl rfl) (List.mem_cons_of_mem _ bw_19_11) dX12_fail_19 (M 53 11) rfl (fun hr3 => ?_)
    refine v_iald X (M 57 (M 53 11)) (Std.lt hS rfl) (Std.at hS rfl rfl) (by omega) (by omega) dX12_fail_22 rfl (fun hr4 => ?_)
    refine pt_X12_faultPlace X iwX12 (Std.lt hS rfl) (Std.k hS rfl rfl) (List.mem_cons_of_mem _ bw_19_18) ⟨by omega, by omega⟩ dX12_fail_23 ?_
    refine hret _ _ _ _ _ _ _ _ _ _ _ none dX12_fail_26 ⟨rfl, rfl⟩ (by decide) (by decide) (fun hmok => ?_)
    refine ⟨rfl, rfl, rfl, rfl, rfl, rfl, ?_⟩
    try dsimp only
    first | rw [if_pos (by omega)] | rw [if_neg (by omega)]
  · skip
    refine hret _ _ _ _ _ _ _ _ _ _ _ none dX12_fail_7 ⟨rfl, rfl⟩ (by decide) (by decide) (fun hmok => ?_)
    refine ⟨rfl, rfl, rfl, rfl, rfl, rfl, ?_⟩
    try dsimp only
    first | rw [if_pos (by omega)] | rw [if_neg (by omega)]

-- place
set_option maxHeartbeats 4000000 in
set_option maxRecDepth 100000 in
theorem c_X12_place (l : Launch) (D : va_G) (cy : Nat → ClassId) {N : Nat} {sh : MS} {ad : Nat → Nat} {M L : MI} {R : MR} (hS : Std N sh R) : Ctr l D cy yX12_place wsX12_place ({ frames := 0, cells := 0, slots := 0, locals := 0 } : Room) N sh ad M L R [.ref (ad 53)] (pI N sh ad M L R (fun r => r = M 53 17)) := by
  refine Ctr.ofI (by decide) rfl (Nat.le_of_ble_eq_true rfl) ?_
  intro K hKl hKd hRm hnm X hret
  have X : VX K cX12_place 1 wsX12_place RX12 := X
  show V K 1 0 0 N sh ad M L R [(0, .ref (ad 53))] [] 0
  refine v_aload_n X 0 dX12_place_0 rfl rfl ?_
  refine gt_X12_place X iwX12 (Std.lt hS rfl) (Std.k hS rfl rfl) (List.mem_cons_of_mem _ bw_7_22) dX12_place_1 (M 53 17) rfl (fun hr1 => ?_)
  refine hret _ _ _ _ _ _ _ _ _ _ _ (some (.int (iz (M 53 17)))) dX12_place_4 ⟨rfl, _, rfl⟩ (by decide) (by decide) (fun hmok => ?_)
  refine ⟨rfl, rfl, rfl, rfl, rfl, rfl, (M 53 17), rfl, ⟨by omega, by omega⟩, ?_⟩
  try dsimp only
  all_goals rfl

-- falls
set_option maxHeartbeats 4000000 in
set_option maxRecDepth 100000 in
theorem c_X12_falls (l : Launch) (D : va_G) (cy : Nat → ClassId) {N : Nat} {sh : MS} {ad : Nat → Nat} {M L : MI} {R : MR} (hS : Std N sh R) (a : Int) (ha : inR a) : Ctr l D cy yX12_falls wsX12_falls ({ frames := 0, cells := 0, slots := 0, locals := 0 } : Room) N sh ad M L R [.ref (ad 53), .int (iz a)] (eI N sh ad L R (fun r M' => if a = 10 ∨ a = -1 then r = 1 ∧ M' = mrow (mu M 53 49 a) 87 (filz (M 87) 10 0) else r = 0 ∧ M' = M)) := by
  refine Ctr.ofZ (by decide) rfl (Nat.le_of_ble_eq_true rfl) ?_
  intro K hKl hKd hRm hnm X hret
  have X : VX K cX12_falls 3 wsX12_falls RX12 := X
  show V K 3 0 0 N sh ad M L R [(0, .ref (ad 53)), (1, .int (iz a))] [] 0
  refine v_iload_n X 1 dX12_falls_0 rfl rfl ?_
  refine v_bipush X dX12_falls_1 (by decide) ?_
  refine v_icmp_eq X 13 dX12_falls_3 (by decide) ⟨by omega, by omega⟩ ⟨by decide, by decide⟩ (fun u1 => ?_) (fun u1 => ?_)
  · skip
    refine v_aload_n X 0 dX12_falls_13 rfl rfl ?_
    refine v_iload_n X 1 dX12_falls_14 rfl rfl ?_
    refine pt_X12_falls X iwX12 (Std.lt hS rfl) (Std.k hS rfl rfl) (List.mem_cons_of_mem _ bw_10_3) ⟨by omega, by omega⟩ dX12_falls_15 ?_
    refine v_iconst X dX12_falls_18 ?_
    refine v_istore_n X [(2, .int (iz 0)), (0, .ref (ad 53)), (1, .int (iz a))] dX12_falls_19 rfl (by decide) rfl ?_
    have hl2 : ∀ (n4 : Nat) (i : Int), (0 ≤ i ∧ i ≤ 10) → (10 - i).toNat < n4 → V K 3 0 0 N sh ad (mrow (mu M 53 49 a) 87 (filz (M 87) i 0)) L R [(0, .ref (ad 53)), (1, .int (iz a)), (2, .int (iz i))] [] 20 := by
      intro n4
      induction n4 with
      | zero => intro i hi hn5; exact absurd hn5 (Nat.not_lt_zero _)
      | succ n4 ih3 =>
        intro i hi hn5
        refine v_iload_n X 2 dX12_falls_20 rfl rfl ?_
        refine v_bipush X dX12_falls_21 (by decide) ?_
        refine v_icmp_ge X 39 dX12_falls_23 (by decide) ⟨by omega, by omega⟩ ⟨by decide, by decide⟩ (fun u6 => ?_) (fun u6 => ?_)
        · skip
          refine v_iconst X dX12_falls_39 ?_
          refine hret _ _ _ _ _ _ _ _ _ _ _ (some (.int (iz 1))) dX12_falls_40 ⟨rfl, 1, ⟨by omega, by omega⟩, rfl⟩ (by decide) (by decide) (fun hmok => ?_)
          refine ⟨rfl, rfl, rfl, rfl, rfl, 1, rfl, ⟨by decide, by decide⟩, ?_⟩
          try dsimp only
          rw [if_pos (by omega)]
          refine ⟨rfl, ?_⟩
          have e : i = 10 := by omega
          rw [e]
        · skip
          refine v_aload_n X 0 dX12_falls_26 rfl rfl ?_
          refine gt_X12_cell X iwX12 (Std.lt hS rfl) (Std.k hS rfl rfl) (List.mem_cons_of_mem _ bw_9_1) dX12_falls_27 87 (Std.r hS 50 rfl) ?_
          refine v_iload_n X 2 dX12_falls_30 rfl rfl ?_
          refine v_iconst X dX12_falls_31 ?_
          refine v_iast X (Std.lt hS rfl) (Std.at hS rfl rfl) (by omega) (by omega) ⟨by decide, by decide⟩ dX12_falls_32 ?_
          refine v_iinc X 2 [(2, .int (iz (i + 1))), (0, .ref (ad 53)), (1, .int (iz a))] dX12_falls_33 rfl (by decide) rfl ?_
          refine v_goto X 20 dX12_falls_36 (by decide) ?_
          refine v_lv [1, 2, 0] rfl ?_
          refine v_mem (M' := (mrow (mu M 53 49 a) 87 (filz (M 87) (i + 1) 0))) (by exact filz_s (mu M 53 49 a) 87 i 0 _ (by omega)) rfl rfl ?_
          exact ih3 (i + 1) (by omega) (by omega)
    refine v_lv [1, 2, 0] rfl ?_
    refine v_mem (M' := (mrow (mu M 53 49 a) 87 (filz (M 87) 0 0))) (by exact filz_0 (mu M 53 49 a) 87 0) rfl rfl ?_
    exact hl2 _ 0 (by omega) (Nat.lt_succ_self _)
  · skip
    refine v_iload_n X 1 dX12_falls_6 rfl rfl ?_
    refine v_iconst X dX12_falls_7 ?_
    refine v_icmp_eq X 13 dX12_falls_8 (by decide) ⟨by omega, by omega⟩ ⟨by decide, by decide⟩ (fun u7 => ?_) (fun u7 => ?_)
    · skip
      refine v_aload_n X 0 dX12_falls_13 rfl rfl ?_
      refine v_iload_n X 1 dX12_falls_14 rfl rfl ?_
      refine pt_X12_falls X iwX12 (Std.lt hS rfl) (Std.k hS rfl rfl) (List.mem_cons_of_mem _ bw_10_3) ⟨by omega, by omega⟩ dX12_falls_15 ?_
      refine v_iconst X dX12_falls_18 ?_
      refine v_istore_n X [(2, .int (iz 0)), (0, .ref (ad 53)), (1, .int (iz a))] dX12_falls_19 rfl (by decide) rfl ?_
      have hl8 : ∀ (n10 : Nat) (i : Int), (0 ≤ i ∧ i ≤ 10) → (10 - i).toNat < n10 → V K 3 0 0 N sh ad (mrow (mu M 53 49 a) 87 (filz (M 87) i 0)) L R [(0, .ref (ad 53)), (1, .int (iz a)), (2, .int (iz i))] [] 20 := by
        intro n10
        induction n10 with
        | zero => intro i hi hn11; exact absurd hn11 (Nat.not_lt_zero _)
        | succ n10 ih9 =>
          intro i hi hn11
          refine v_iload_n X 2 dX12_falls_20 rfl rfl ?_
          refine v_bipush X dX12_falls_21 (by decide) ?_
          refine v_icmp_ge X 39 dX12_falls_23 (by decide) ⟨by omega, by omega⟩ ⟨by decide, by decide⟩ (fun u12 => ?_) (fun u12 => ?_)
          · skip
            refine v_iconst X dX12_falls_39 ?_
            refine hret _ _ _ _ _ _ _ _ _ _ _ (some (.int (iz 1))) dX12_falls_40 ⟨rfl, 1, ⟨by omega, by omega⟩, rfl⟩ (by decide) (by decide) (fun hmok => ?_)
            refine ⟨rfl, rfl, rfl, rfl, rfl, 1, rfl, ⟨by decide, by decide⟩, ?_⟩
            try dsimp only
            rw [if_pos (by omega)]
            refine ⟨rfl, ?_⟩
            have e : i = 10 := by omega
            rw [e]
          · skip
            refine v_aload_n X 0 dX12_falls_26 rfl rfl ?_
            refine gt_X12_cell X iwX12 (Std.lt hS rfl) (Std.k hS rfl rfl) (List.mem_cons_of_mem _ bw_9_1) dX12_falls_27 87 (Std.r hS 50 rfl) ?_
            refine v_iload_n X 2 dX12_falls_30 rfl rfl ?_
            refine v_iconst X dX12_falls_31 ?_
            refine v_iast X (Std.lt hS rfl) (Std.at hS rfl rfl) (by omega) (by omega) ⟨by decide, by decide⟩ dX12_falls_32 ?_
            refine v_iinc X 2 [(2, .int (iz (i + 1))), (0, .ref (ad 53)), (1, .int (iz a))] dX12_falls_33 rfl (by decide) rfl ?_
            refine v_goto X 20 dX12_falls_36 (by decide) ?_
            refine v_lv [1, 2, 0] rfl ?_
            refine v_mem (M' := (mrow (mu M 53 49 a) 87 (filz (M 87) (i + 1) 0))) (by exact filz_s (mu M 53 49 a) 87 i 0 _ (by omega)) rfl rfl ?_
            exact ih9 (i + 1) (by omega) (by omega)
      refine v_lv [1, 2, 0] rfl ?_
      refine v_mem (M' := (mrow (mu M 53 49 a) 87 (filz (M 87) 0 0))) (by exact filz_0 (mu M 53 49 a) 87 0) rfl rfl ?_
      exact hl8 _ 0 (by omega) (Nat.lt_succ_self _)
    · skip
      refine v_iconst X dX12_falls_11 ?_
      refine hret _ _ _ _ _ _ _ _ _ _ _ (some (.int (iz 0))) dX12_falls_12 ⟨rfl, 0, ⟨by omega, by omega⟩, rfl⟩ (by decide) (by decide) (fun hmok => ?_)
      refine ⟨rfl, rfl, rfl, rfl, rfl, 0, rfl, ⟨by decide, by decide⟩, ?_⟩
      try dsimp only
      rw [if_neg (by omega)]
      exact ⟨rfl, rfl⟩

-- cell
set_option maxHeartbeats 4000000 in
set_option maxRecDepth 100000 in
theorem c_X12_cell (l : Launch) (D : va_G) (cy : Nat → ClassId) {N : Nat} {sh : MS} {ad : Nat → Nat} {M L : MI} {R : MR} (hS : Std N sh R) (a : Int) (b : Int) (ha : inR a) (hb : inR b) (hB : mBnd M) : Ctr l D cy yX12_cell wsX12_cell ({ frames := 0, cells := 0, slots := 0, locals := 0 } : Room) N sh ad M L R [.ref (ad 53), .int (iz a), .int (iz b)] (eI N sh ad L R (fun r M' => if 0 ≤ a ∧ a < M 53 49 ∧ 0 ≤ b ∧ b ≤ 99 then r = 1 ∧ M' = mu M 87 a b else r = 0 ∧ M' = M)) := by
  refine Ctr.ofZ (by decide) rfl (Nat.le_of_ble_eq_true rfl) ?_
  intro K hKl hKd hRm hnm X hret
  have X : VX K cX12_cell 3 wsX12_cell RX12 := X
  show V K 3 0 0 N sh ad M L R [(0, .ref (ad 53)), (1, .int (iz a)), (2, .int (iz b))] [] 0
  have hB2 := hB.2.1
  refine v_iload_n X 1 dX12_cell_0 rfl rfl ?_
  refine v_if_lt X 22 dX12_cell_1 (by decide) ⟨by omega, by omega⟩ (fun u1 => ?_) (fun u1 => ?_)
  · skip
    refine v_iconst X dX12_cell_22 ?_
    refine hret _ _ _ _ _ _ _ _ _ _ _ (some (.int (iz 0))) dX12_cell_23 ⟨rfl, 0, ⟨by omega, by omega⟩, rfl⟩ (by decide) (by decide) (fun hmok => ?_)
    refine ⟨rfl, rfl, rfl, rfl, rfl, 0, rfl, ⟨by decide, by decide⟩, ?_⟩
    try dsimp only
    first | (rw [if_neg (by omega)]; exact ⟨rfl, rfl⟩) | (rw [if_pos (by omega)]; exact ⟨rfl, rfl⟩)
  · skip
    refine v_iload_n X 1 dX12_cell_4 rfl rfl ?_
    refine v_aload_n X 0 dX12_cell_5 rfl rfl ?_
    refine gt_X12_falls X iwX12 (Std.lt hS rfl) (Std.k hS rfl rfl) (List.mem_cons_of_mem _ bw_10_3) dX12_cell_6 (M 53 49) rfl (fun hr2 => ?_)
    refine v_icmp_ge X 22 dX12_cell_9 (by decide) ⟨by omega, by omega⟩ ⟨by omega, by omega⟩ (fun u3 => ?_) (fun u3 => ?_)
    · skip
      refine v_iconst X dX12_cell_22 ?_
      refine hret _ _ _ _ _ _ _ _ _ _ _ (some (.int (iz 0))) dX12_cell_23 ⟨rfl, 0, ⟨by omega, by omega⟩, rfl⟩ (by decide) (by decide) (fun hmok => ?_)
      refine ⟨rfl, rfl, rfl, rfl, rfl, 0, rfl, ⟨by decide, by decide⟩, ?_⟩
      try dsimp only
      first | (rw [if_neg (by omega)]; exact ⟨rfl, rfl⟩) | (rw [if_pos (by omega)]; exact ⟨rfl, rfl⟩)
    · skip
      refine v_iload_n X 2 dX12_cell_12 rfl rfl ?_
      refine v_if_lt X 22 dX12_cell_13 (by decide) ⟨by omega, by omega⟩ (fun u4 => ?_) (fun u4 => ?_)
      · skip
        refine v_iconst X dX12_cell_22 ?_
        refine hret _ _ _ _ _ _ _ _ _ _ _ (some (.int (iz 0))) dX12_cell_23 ⟨rfl, 0, ⟨by omega, by omega⟩, rfl⟩ (by decide) (by decide) (fun hmok => ?_)
        refine ⟨rfl, rfl, rfl, rfl, rfl, 0, rfl, ⟨by decide, by decide⟩, ?_⟩
        try dsimp only
        first | (rw [if_neg (by omega)]; exact ⟨rfl, rfl⟩) | (rw [if_pos (by omega)]; exact ⟨rfl, rfl⟩)
      · skip
        refine v_iload_n X 2 dX12_cell_16 rfl rfl ?_
        refine v_bipush X dX12_cell_17 (by decide) ?_
        refine v_icmp_le X 24 dX12_cell_19 (by decide) ⟨by omega, by omega⟩ ⟨by decide, by decide⟩ (fun u5 => ?_) (fun u5 => ?_)
        · skip
          refine v_aload_n X 0 dX12_cell_24 rfl rfl ?_
          refine gt_X12_cell X iwX12 (Std.lt hS rfl) (Std.k hS rfl rfl) (List.mem_cons_of_mem _ bw_9_1) dX12_cell_25 87 (Std.r hS 50 rfl) ?_
          refine v_iload_n X 1 dX12_cell_28 rfl rfl ?_
          refine v_iload_n X 2 dX12_cell_29 rfl rfl ?_
          refine v_iast X (Std.lt hS rfl) (Std.at hS rfl rfl) (by omega) (by omega) ⟨by omega, by omega⟩ dX12_cell_30 ?_
          refine v_iconst X dX12_cell_31 ?_
          refine hret _ _ _ _ _ _ _ _ _ _ _ (some (.int (iz 1))) dX12_cell_32 ⟨rfl, 1, ⟨by omega, by omega⟩, rfl⟩ (by decide) (by decide) (fun hmok => ?_)
          refine ⟨rfl, rfl, rfl, rfl, rfl, 1, rfl, ⟨by decide, by decide⟩, ?_⟩
          try dsimp only
          first | (rw [if_neg (by omega)]; exact ⟨rfl, rfl⟩) | (rw [if_pos (by omega)]; exact ⟨rfl, rfl⟩)
        · skip
          refine v_iconst X dX12_cell_22 ?_
          refine hret _ _ _ _ _ _ _ _ _ _ _ (some (.int (iz 0))) dX12_cell_23 ⟨rfl, 0, ⟨by omega, by omega⟩, rfl⟩ (by decide) (by decide) (fun hmok => ?_)
          refine ⟨rfl, rfl, rfl, rfl, rfl, 0, rfl, ⟨by decide, by decide⟩, ?_⟩
          try dsimp only
          first | (rw [if_neg (by omega)]; exact ⟨rfl, rfl⟩) | (rw [if_pos (by omega)]; exact ⟨rfl, rfl⟩)

-- ground
set_option maxHeartbeats 4000000 in
set_option maxRecDepth 100000 in
theorem c_X12_ground (l : Launch) (D : va_G) (cy : Nat → ClassId) {N : Nat} {sh : MS} {ad : Nat → Nat} {M L : MI} {R : MR} (hS : Std N sh R) (a : Int) (b : Int) (ha : inR a) (hb : inR b) : Ctr l D cy yX12_ground wsX12_ground ({ frames := 0, cells := 0, slots := 0, locals := 0 } : Room) N sh ad M L R [.ref (ad 53), .int (iz a), .int (iz b)] (eI N sh ad L R (fun r M' => if 0 ≤ a ∧ a ≤ 50 ∧ 0 ≤ b ∧ b ≤ 300 then r = 1 ∧ M' = mu (mu M 53 51 a) 53 52 b else r = 0 ∧ M' = M)) := by
  refine Ctr.ofZ (by decide) rfl (Nat.le_of_ble_eq_true rfl) ?_
  intro K hKl hKd hRm hnm X hret
  have X : VX K cX12_ground 3 wsX12_ground RX12 := X
  show V K 3 0 0 N sh ad M L R [(0, .ref (ad 53)), (1, .int (iz a)), (2, .int (iz b))] [] 0
  refine v_iload_n X 1 dX12_ground_0 rfl rfl ?_
  refine v_if_lt X 21 dX12_ground_1 (by decide) ⟨by omega, by omega⟩ (fun u1 => ?_) (fun u1 => ?_)
  · skip
    refine v_iconst X dX12_ground_21 ?_
    refine hret _ _ _ _ _ _ _ _ _ _ _ (some (.int (iz 0))) dX12_ground_22 ⟨rfl, 0, ⟨by omega, by omega⟩, rfl⟩ (by decide) (by decide) (fun hmok => ?_)
    refine ⟨rfl, rfl, rfl, rfl, rfl, 0, rfl, ⟨by decide, by decide⟩, ?_⟩
    try dsimp only
    first | (rw [if_neg (by omega)]; exact ⟨rfl, rfl⟩) | (rw [if_pos (by omega)]; exact ⟨rfl, rfl⟩)
  · skip
    refine v_iload_n X 1 dX12_ground_4 rfl rfl ?_
    refine v_bipush X dX12_ground_5 (by decide) ?_
    refine v_icmp_gt X 21 dX12_ground_7 (by decide) ⟨by omega, by omega⟩ ⟨by decide, by decide⟩ (fun u2 => ?_) (fun u2 => ?_)
    · skip
      refine v_iconst X dX12_ground_21 ?_
      refine hret _ _ _ _ _ _ _ _ _ _ _ (some (.int (iz 0))) dX12_ground_22 ⟨rfl, 0, ⟨by omega, by omega⟩, rfl⟩ (by decide) (by decide) (fun hmok => ?_)
      refine ⟨rfl, rfl, rfl, rfl, rfl, 0, rfl, ⟨by decide, by decide⟩, ?_⟩
      try dsimp only
      first | (rw [if_neg (by omega)]; exact ⟨rfl, rfl⟩) | (rw [if_pos (by omega)]; exact ⟨rfl, rfl⟩)
    · skip
      refine v_iload_n X 2 dX12_ground_10 rfl rfl ?_
      refine v_if_lt X 21 dX12_ground_11 (by decide) ⟨by omega, by omega⟩ (fun u3 => ?_) (fun u3 => ?_)
      · skip
        refine v_iconst X dX12_ground_21 ?_
        refine hret _ _ _ _ _ _ _ _ _ _ _ (some (.int (iz 0))) dX12_ground_22 ⟨rfl, 0, ⟨by omega, by omega⟩, rfl⟩ (by decide) (by decide) (fun hmok => ?_)
        refine ⟨rfl, rfl, rfl, rfl, rfl, 0, rfl, ⟨by decide, by decide⟩, ?_⟩
        try dsimp only
        first | (rw [if_neg (by omega)]; exact ⟨rfl, rfl⟩) | (rw [if_pos (by omega)]; exact ⟨rfl, rfl⟩)
      · skip
        refine v_iload_n X 2 dX12_ground_14 rfl rfl ?_
        refine v_sipush X dX12_ground_15 (by decide) ?_
        refine v_icmp_le X 23 dX12_ground_18 (by decide) ⟨by omega, by omega⟩ ⟨by decide, by decide⟩ (fun u4 => ?_) (fun u4 => ?_)
        · skip
          refine v_aload_n X 0 dX12_ground_23 rfl rfl ?_
          refine v_iload_n X 1 dX12_ground_24 rfl rfl ?_
          refine pt_X12_wind X iwX12 (Std.lt hS rfl) (Std.k hS rfl rfl) (List.mem_cons_of_mem _ bw_26_14) ⟨by omega, by omega⟩ dX12_ground_25 ?_
          refine v_aload_n X 0 dX12_ground_28 rfl rfl ?_
          refine v_iload_n X 2 dX12_ground_29 rfl rfl ?_
          refine pt_X12_line X iwX12 (Std.lt hS rfl) (Std.k hS rfl rfl) (List.mem_cons_of_mem _ bw_10_2) ⟨by omega, by omega⟩ dX12_ground_30 ?_
          refine v_iconst X dX12_ground_33 ?_
          refine hret _ _ _ _ _ _ _ _ _ _ _ (some (.int (iz 1))) dX12_ground_34 ⟨rfl, 1, ⟨by omega, by omega⟩, rfl⟩ (by decide) (by decide) (fun hmok => ?_)
          refine ⟨rfl, rfl, rfl, rfl, rfl, 1, rfl, ⟨by decide, by decide⟩, ?_⟩
          try dsimp only
          first | (rw [if_neg (by omega)]; exact ⟨rfl, rfl⟩) | (rw [if_pos (by omega)]; exact ⟨rfl, rfl⟩)
        · skip
          refine v_iconst X dX12_ground_21 ?_
          refine hret _ _ _ _ _ _ _ _ _ _ _ (some (.int (iz 0))) dX12_ground_22 ⟨rfl, 0, ⟨by omega, by omega⟩, rfl⟩ (by decide) (by decide) (fun hmok => ?_)
          refine ⟨rfl, rfl, rfl, rfl, rfl, 0, rfl, ⟨by decide, by decide⟩, ?_⟩
          try dsimp only
          first | (rw [if_neg (by omega)]; exact ⟨rfl, rfl⟩) | (rw [if_pos (by omega)]; exact ⟨rfl, rfl⟩)

-- base
set_option maxHeartbeats 4000000 in
set_option maxRecDepth 100000 in
theorem c_X12_base (l : Launch) (D : va_G) (cy : Nat → ClassId) {N : Nat} {sh : MS} {ad : Nat → Nat} {M L : MI} {R : MR} (hS : Std N sh R) (a : Int) (b : Int) (ha : inR a) (hb : inR b) (hB : mBnd M) : Ctr l D cy yX12_base wsX12_base ({ frames := 1, cells := 0, slots := 0, locals := 23 } : Room) N sh ad M L R [.ref (ad 53), .int (iz a), .int (iz b)] (eI N sh ad L R (fun r M' => if M 53 53 < 100 ∧ 0 ≤ a ∧ a < 240 ∧ 0 ≤ b ∧ b ≤ 9 then r = M 53 53 ∧ M' = mu (mu (mu (mu M 88 (M 53 53) 0) 89 (M 53 53) a) 90 (M 53 53) b) 53 53 ((M 53 53) + 1) else r = -1 ∧ M' = M)) := by
  refine Ctr.ofI (by decide) rfl (Nat.le_of_ble_eq_true rfl) ?_
  intro K hKl hKd hRm hnm X hret
  have X : VX K cX12_base 3 wsX12_base RX12 := X
  show V K 3 0 0 N sh ad M L R [(0, .ref (ad 53)), (1, .int (iz a)), (2, .int (iz b))] [] 0
  have hB5 := hB.2.2.2.2.1
  refine v_aload_n X 0 dX12_base_0 rfl rfl ?_
  refine gt_X12_facts X iwX12 (Std.lt hS rfl) (Std.k hS rfl rfl) (List.mem_cons_of_mem _ bw_27_9) dX12_base_1 (M 53 53) rfl (fun hr1 => ?_)
  refine v_bipush X dX12_base_4 (by decide) ?_
  refine v_icmp_eq X 26 dX12_base_6 (by decide) ⟨by omega, by omega⟩ ⟨by decide, by decide⟩ (fun u2 => ?_) (fun u2 => ?_)
  · skip
    refine v_iconst X dX12_base_26 ?_
    refine v_goto X 37 dX12_base_27 (by decide) ?_
    refine hret _ _ _ _ _ _ _ _ _ _ _ (some (.int (iz (-1)))) dX12_base_37 ⟨rfl, _, rfl⟩ (by decide) (by decide) (fun hmok => ?_)
    refine ⟨rfl, rfl, rfl, rfl, rfl, (-1), rfl, ⟨by decide, by decide⟩, ?_⟩
    try dsimp only
    rw [if_neg (by omega)]
    exact ⟨rfl, rfl⟩
  · skip
    refine v_iload_n X 1 dX12_base_9 rfl rfl ?_
    refine v_callS X [.int (iz a)] hRm (c_X12_isMinute _ _ _ a ⟨by omega, by omega⟩) (gS bw_27_10 bw_27_11 bw_1_5 bw_27_12) rfl ddX12_isMinute (by decide) (Nat.le_of_ble_eq_true rfl) dX12_base_10 (k_pB (fun b3 => ?_) (fun b3 => ?_))
    · skip
      refine v_if_eq X 26 dX12_base_13 (by decide) ⟨by decide, by decide⟩ (fun q => absurd q (by decide)) (fun _ => ?_)
      refine v_iload_n X 2 dX12_base_16 rfl rfl ?_
      refine v_if_lt X 26 dX12_base_17 (by decide) ⟨by omega, by omega⟩ (fun u4 => ?_) (fun u4 => ?_)
      · skip
        refine v_iconst X dX12_base_26 ?_
        refine v_goto X 37 dX12_base_27 (by decide) ?_
        refine hret _ _ _ _ _ _ _ _ _ _ _ (some (.int (iz (-1)))) dX12_base_37 ⟨rfl, _, rfl⟩ (by decide) (by decide) (fun hmok => ?_)
        refine ⟨rfl, rfl, rfl, rfl, rfl, (-1), rfl, ⟨by decide, by decide⟩, ?_⟩
        try dsimp only
        rw [if_neg (by omega)]
        exact ⟨rfl, rfl⟩
      · skip
        refine v_iload_n X 2 dX12_base_20 rfl rfl ?_
        refine v_bipush X dX12_base_21 (by decide) ?_
        refine v_icmp_le X 30 dX12_base_23 (by decide) ⟨by omega, by omega⟩ ⟨by decide, by decide⟩ (fun u5 => ?_) (fun u5 => ?_)
        · skip
          refine v_aload_n X 0 dX12_base_30 rfl rfl ?_
          refine v_iconst X dX12_base_31 ?_
          refine v_iload_n X 1 dX12_base_32 rfl rfl ?_
          refine v_iload_n X 2 dX12_base_33 rfl rfl ?_
          refine v_callV X [.int (iz 0), .int (iz a), .int (iz b)] hRm (c_X12_fact _ _ _ hS 0 a b ⟨by omega, by omega⟩ ⟨by omega, by omega⟩ ⟨by omega, by omega⟩ (by omega)) (gV bw_27_13 bw_27_14 bw_27_15 bw_1_5 bw_27_16) rfl ddX12_fact (by decide) (Std.lt hS rfl) (Std.k hS rfl rfl) ⟨rfl, by decide⟩ (Nat.le_of_ble_eq_true rfl) dX12_base_34 (k_eI (fun r6 M7 hr8 e9 => ?_))
          refine hret _ _ _ _ _ _ _ _ _ _ _ (some (.int (iz r6))) dX12_base_37 ⟨rfl, _, rfl⟩ (by decide) (by decide) (fun hmok => ?_)
          refine ⟨rfl, rfl, rfl, rfl, rfl, r6, rfl, ⟨by omega, by omega⟩, ?_⟩
          try dsimp only
          rw [if_pos (by omega)]
          exact e9
        · skip
          refine v_iconst X dX12_base_26 ?_
          refine v_goto X 37 dX12_base_27 (by decide) ?_
          refine hret _ _ _ _ _ _ _ _ _ _ _ (some (.int (iz (-1)))) dX12_base_37 ⟨rfl, _, rfl⟩ (by decide) (by decide) (fun hmok => ?_)
          refine ⟨rfl, rfl, rfl, rfl, rfl, (-1), rfl, ⟨by decide, by decide⟩, ?_⟩
          try dsimp only
          rw [if_neg (by omega)]
          exact ⟨rfl, rfl⟩
    · skip
      refine v_if_eq X 26 dX12_base_13 (by decide) ⟨by decide, by decide⟩ (fun _ => ?_) (fun q => absurd (by decide) q)
      refine v_iconst X dX12_base_26 ?_
      refine v_goto X 37 dX12_base_27 (by decide) ?_
      refine hret _ _ _ _ _ _ _ _ _ _ _ (some (.int (iz (-1)))) dX12_base_37 ⟨rfl, _, rfl⟩ (by decide) (by decide) (fun hmok => ?_)
      refine ⟨rfl, rfl, rfl, rfl, rfl, (-1), rfl, ⟨by decide, by decide⟩, ?_⟩
      try dsimp only
      rw [if_neg (by omega)]
      exact ⟨rfl, rfl⟩

-- birds
set_option maxHeartbeats 4000000 in
set_option maxRecDepth 100000 in
theorem c_X12_birds (l : Launch) (D : va_G) (cy : Nat → ClassId) {N : Nat} {sh : MS} {ad : Nat → Nat} {M L : MI} {R : MR} (hS : Std N sh R) (a : Int) (b : Int) (ha : inR a) (hb : inR b) (hB : mBnd M) : Ctr l D cy yX12_birds wsX12_birds ({ frames := 1, cells := 0, slots := 0, locals := 23 } : Room) N sh ad M L R [.ref (ad 53), .int (iz a), .int (iz b)] (eI N sh ad L R (fun r M' => if M 53 53 < 100 ∧ 0 ≤ a ∧ a < b ∧ b ≤ 240 then r = M 53 53 ∧ M' = mu (mu (mu (mu M 88 (M 53 53) 1) 89 (M 53 53) a) 90 (M 53 53) b) 53 53 ((M 53 53) + 1) else r = -1 ∧ M' = M)) := by
  refine Ctr.ofI (by decide) rfl (Nat.le_of_ble_eq_true rfl) ?_
  intro K hKl hKd hRm hnm X hret
  have X : VX K cX12_birds 3 wsX12_birds RX12 := X
  show V K 3 0 0 N sh ad M L R [(0, .ref (ad 53)), (1, .int (iz a)), (2, .int (iz b))] [] 0
  have hB5 := hB.2.2.2.2.1
  refine v_aload_n X 0 dX12_birds_0 rfl rfl ?_
  refine gt_X12_facts X iwX12 (Std.lt hS rfl) (Std.k hS rfl rfl) (List.mem_cons_of_mem _ bw_27_9) dX12_birds_1 (M 53 53) rfl (fun hr1 => ?_)
  refine v_bipush X dX12_birds_4 (by decide) ?_
  refine v_icmp_eq X 17 dX12_birds_6 (by decide) ⟨by omega, by omega⟩ ⟨by decide, by decide⟩ (fun u2 => ?_) (fun u2 => ?_)
  · skip
    refine v_iconst X dX12_birds_17 ?_
    refine v_goto X 28 dX12_birds_18 (by decide) ?_
    refine hret _ _ _ _ _ _ _ _ _ _ _ (some (.int (iz (-1)))) dX12_birds_28 ⟨rfl, _, rfl⟩ (by decide) (by decide) (fun hmok => ?_)
    refine ⟨rfl, rfl, rfl, rfl, rfl, (-1), rfl, ⟨by decide, by decide⟩, ?_⟩
    try dsimp only
    rw [if_neg (by omega)]
    exact ⟨rfl, rfl⟩
  · skip
    refine v_iload_n X 1 dX12_birds_9 rfl rfl ?_
    refine v_iload_n X 2 dX12_birds_10 rfl rfl ?_
    refine v_callS X [.int (iz a), .int (iz b)] hRm (c_X12_isSpan _ _ _ a b ⟨by omega, by omega⟩ ⟨by omega, by omega⟩) (gS bw_28_5 bw_28_6 bw_1_5 bw_28_7) rfl ddX12_isSpan (by decide) (Nat.le_of_ble_eq_true rfl) dX12_birds_11 (k_pB (fun b3 => ?_) (fun b3 => ?_))
    · skip
      refine v_if_ne X 21 dX12_birds_14 (by decide) ⟨by decide, by decide⟩ (fun _ => ?_) (fun q => absurd (by decide) q)
      refine v_aload_n X 0 dX12_birds_21 rfl rfl ?_
      refine v_iconst X dX12_birds_22 ?_
      refine v_iload_n X 1 dX12_birds_23 rfl rfl ?_
      refine v_iload_n X 2 dX12_birds_24 rfl rfl ?_
      refine v_callV X [.int (iz 1), .int (iz a), .int (iz b)] hRm (c_X12_fact _ _ _ hS 1 a b ⟨by omega, by omega⟩ ⟨by omega, by omega⟩ ⟨by omega, by omega⟩ (by omega)) (gV bw_27_13 bw_27_14 bw_27_15 bw_1_5 bw_27_16) rfl ddX12_fact (by decide) (Std.lt hS rfl) (Std.k hS rfl rfl) ⟨rfl, by decide⟩ (Nat.le_of_ble_eq_true rfl) dX12_birds_25 (k_eI (fun r4 M5 hr6 e7 => ?_))
      refine hret _ _ _ _ _ _ _ _ _ _ _ (some (.int (iz r4))) dX12_birds_28 ⟨rfl, _, rfl⟩ (by decide) (by decide) (fun hmok => ?_)
      refine ⟨rfl, rfl, rfl, rfl, rfl, r4, rfl, ⟨by omega, by omega⟩, ?_⟩
      try dsimp only
      rw [if_pos (by omega)]
      exact e7
    · skip
      refine v_if_ne X 21 dX12_birds_14 (by decide) ⟨by decide, by decide⟩ (fun q => absurd q (by decide)) (fun _ => ?_)
      refine v_iconst X dX12_birds_17 ?_
      refine v_goto X 28 dX12_birds_18 (by decide) ?_
      refine hret _ _ _ _ _ _ _ _ _ _ _ (some (.int (iz (-1)))) dX12_birds_28 ⟨rfl, _, rfl⟩ (by decide) (by decide) (fun hmok => ?_)
      refine ⟨rfl, rfl, rfl, rfl, rfl, (-1), rfl, ⟨by decide, by decide⟩, ?_⟩
      try dsimp only
      rw [if_neg (by omega)]
      exact ⟨rfl, rfl⟩

-- ready
set_option maxHeartbeats 4000000 in
set_option maxRecDepth 100000 in
theorem c_X12_ready (l : Launch) (D : va_G) (cy : Nat → ClassId) {N : Nat} {sh : MS} {ad : Nat → Nat} {M L : MI} {R : MR} (hS : Std N sh R) (a : Int) (b : Int) (ha : inR a) (hb : inR b) (hB : mBnd M) : Ctr l D cy yX12_ready wsX12_ready ({ frames := 1, cells := 0, slots := 0, locals := 23 } : Room) N sh ad M L R [.ref (ad 53), .int (iz a), .int (iz b)] (eI N sh ad L R (fun r M' => if M 53 53 < 100 ∧ 0 ≤ a ∧ a < M 53 37 ∧ 0 ≤ b ∧ b < 240 then r = M 53 53 ∧ M' = mu (mu (mu (mu M 88 (M 53 53) 2) 89 (M 53 53) a) 90 (M 53 53) b) 53 53 ((M 53 53) + 1) else r = -1 ∧ M' = M)) := by
  refine Ctr.ofI (by decide) rfl (Nat.le_of_ble_eq_true rfl) ?_
  intro K hKl hKd hRm hnm X hret
  have X : VX K cX12_ready 3 wsX12_ready RX12 := X
  show V K 3 0 0 N sh ad M L R [(0, .ref (ad 53)), (1, .int (iz a)), (2, .int (iz b))] [] 0
  have hB5 := hB.2.2.2.2.1
  refine v_aload_n X 0 dX12_ready_0 rfl rfl ?_
  refine gt_X12_facts X iwX12 (Std.lt hS rfl) (Std.k hS rfl rfl) (List.mem_cons_of_mem _ bw_27_9) dX12_ready_1 (M 53 53) rfl (fun hr1 => ?_)
  refine v_bipush X dX12_ready_4 (by decide) ?_
  refine v_icmp_eq X 24 dX12_ready_6 (by decide) ⟨by omega, by omega⟩ ⟨by decide, by decide⟩ (fun u2 => ?_) (fun u2 => ?_)
  · skip
    refine v_iconst X dX12_ready_24 ?_
    refine v_goto X 35 dX12_ready_25 (by decide) ?_
    refine hret _ _ _ _ _ _ _ _ _ _ _ (some (.int (iz (-1)))) dX12_ready_35 ⟨rfl, _, rfl⟩ (by decide) (by decide) (fun hmok => ?_)
    refine ⟨rfl, rfl, rfl, rfl, rfl, (-1), rfl, ⟨by decide, by decide⟩, ?_⟩
    try dsimp only
    rw [if_neg (by omega)]
    exact ⟨rfl, rfl⟩
  · skip
    refine v_aload_n X 0 dX12_ready_9 rfl rfl ?_
    refine v_iload_n X 1 dX12_ready_10 rfl rfl ?_
    refine v_callV X [.int (iz a)] hRm (c_X12_isAct _ _ _ hS a ⟨by omega, by omega⟩) (gV bw_25_1 bw_25_2 bw_25_3 bw_1_5 bw_25_4) rfl ddX12_isAct (by decide) (Std.lt hS rfl) (Std.k hS rfl rfl) ⟨rfl, by decide⟩ (Nat.le_of_ble_eq_true rfl) dX12_ready_11 (k_pB (fun b3 => ?_) (fun b3 => ?_))
    · skip
      refine v_if_eq X 24 dX12_ready_14 (by decide) ⟨by decide, by decide⟩ (fun q => absurd q (by decide)) (fun _ => ?_)
      refine v_iload_n X 2 dX12_ready_17 rfl rfl ?_
      refine v_callS X [.int (iz b)] hRm (c_X12_isMinute _ _ _ b ⟨by omega, by omega⟩) (gS bw_27_10 bw_27_11 bw_1_5 bw_27_12) rfl ddX12_isMinute (by decide) (Nat.le_of_ble_eq_true rfl) dX12_ready_18 (k_pB (fun b4 => ?_) (fun b4 => ?_))
      · skip
        refine v_if_ne X 28 dX12_ready_21 (by decide) ⟨by decide, by decide⟩ (fun _ => ?_) (fun q => absurd (by decide) q)
        refine v_aload_n X 0 dX12_ready_28 rfl rfl ?_
        refine v_iconst X dX12_ready_29 ?_
        refine v_iload_n X 1 dX12_ready_30 rfl rfl ?_
        refine v_iload_n X 2 dX12_ready_31 rfl rfl ?_
        refine v_callV X [.int (iz 2), .int (iz a), .int (iz b)] hRm (c_X12_fact _ _ _ hS 2 a b ⟨by omega, by omega⟩ ⟨by omega, by omega⟩ ⟨by omega, by omega⟩ (by omega)) (gV bw_27_13 bw_27_14 bw_27_15 bw_1_5 bw_27_16) rfl ddX12_fact (by decide) (Std.lt hS rfl) (Std.k hS rfl rfl) ⟨rfl, by decide⟩ (Nat.le_of_ble_eq_true rfl) dX12_ready_32 (k_eI (fun r5 M6 hr7 e8 => ?_))
        refine hret _ _ _ _ _ _ _ _ _ _ _ (some (.int (iz r5))) dX12_ready_35 ⟨rfl, _, rfl⟩ (by decide) (by decide) (fun hmok => ?_)
        refine ⟨rfl, rfl, rfl, rfl, rfl, r5, rfl, ⟨by omega, by omega⟩, ?_⟩
        try dsimp only
        rw [if_pos (by omega)]
        exact e8
      · skip
        refine v_if_ne X 28 dX12_ready_21 (by decide) ⟨by decide, by decide⟩ (fun q => absurd q (by decide)) (fun _ => ?_)
        refine v_iconst X dX12_ready_24 ?_
        refine v_goto X 35 dX12_ready_25 (by decide) ?_
        refine hret _ _ _ _ _ _ _ _ _ _ _ (some (.int (iz (-1)))) dX12_ready_35 ⟨rfl, _, rfl⟩ (by decide) (by decide) (fun hmok => ?_)
        refine ⟨rfl, rfl, rfl, rfl, rfl, (-1), rfl, ⟨by decide, by decide⟩, ?_⟩
        try dsimp only
        rw [if_neg (by omega)]
        exact ⟨rfl, rfl⟩
    · skip
      refine v_if_eq X 24 dX12_ready_14 (by decide) ⟨by decide, by decide⟩ (fun _ => ?_) (fun q => absurd (by decide) q)
      refine v_iconst X dX12_ready_24 ?_
      refine v_goto X 35 dX12_ready_25 (by decide) ?_
      refine hret _ _ _ _ _ _ _ _ _ _ _ (some (.int (iz (-1)))) dX12_ready_35 ⟨rfl, _, rfl⟩ (by decide) (by decide) (fun hmok => ?_)
      refine ⟨rfl, rfl, rfl, rfl, rfl, (-1), rfl, ⟨by decide, by decide⟩, ?_⟩
      try dsimp only
      rw [if_neg (by omega)]
      exact ⟨rfl, rfl⟩

-- away
set_option maxHeartbeats 4000000 in
set_option maxRecDepth 100000 in
theorem c_X12_away (l : Launch) (D : va_G) (cy : Nat → ClassId) {N : Nat} {sh : MS} {ad : Nat → Nat} {M L : MI} {R : MR} (hS : Std N sh R) (a : Int) (b : Int) (ha : inR a) (hb : inR b) (hB : mBnd M) : Ctr l D cy yX12_away wsX12_away ({ frames := 1, cells := 0, slots := 0, locals := 23 } : Room) N sh ad M L R [.ref (ad 53), .int (iz a), .int (iz b)] (eI N sh ad L R (fun r M' => if M 53 53 < 100 ∧ 0 ≤ a ∧ a < b ∧ b ≤ 240 then r = M 53 53 ∧ M' = mu (mu (mu (mu M 88 (M 53 53) 3) 89 (M 53 53) a) 90 (M 53 53) b) 53 53 ((M 53 53) + 1) else r = -1 ∧ M' = M)) := by
  refine Ctr.ofI (by decide) rfl (Nat.le_of_ble_eq_true rfl) ?_
  intro K hKl hKd hRm hnm X hret
  have X : VX K cX12_away 3 wsX12_away RX12 := X
  show V K 3 0 0 N sh ad M L R [(0, .ref (ad 53)), (1, .int (iz a)), (2, .int (iz b))] [] 0
  have hB5 := hB.2.2.2.2.1
  refine v_aload_n X 0 dX12_away_0 rfl rfl ?_
  refine gt_X12_facts X iwX12 (Std.lt hS rfl) (Std.k hS rfl rfl) (List.mem_cons_of_mem _ bw_27_9) dX12_away_1 (M 53 53) rfl (fun hr1 => ?_)
  refine v_bipush X dX12_away_4 (by decide) ?_
  refine v_icmp_eq X 17 dX12_away_6 (by decide) ⟨by omega, by omega⟩ ⟨by decide, by decide⟩ (fun u2 => ?_) (fun u2 => ?_)
  · skip
    refine v_iconst X dX12_away_17 ?_
    refine v_goto X 28 dX12_away_18 (by decide) ?_
    refine hret _ _ _ _ _ _ _ _ _ _ _ (some (.int (iz (-1)))) dX12_away_28 ⟨rfl, _, rfl⟩ (by decide) (by decide) (fun hmok => ?_)
    refine ⟨rfl, rfl, rfl, rfl, rfl, (-1), rfl, ⟨by decide, by decide⟩, ?_⟩
    try dsimp only
    rw [if_neg (by omega)]
    exact ⟨rfl, rfl⟩
  · skip
    refine v_iload_n X 1 dX12_away_9 rfl rfl ?_
    refine v_iload_n X 2 dX12_away_10 rfl rfl ?_
    refine v_callS X [.int (iz a), .int (iz b)] hRm (c_X12_isSpan _ _ _ a b ⟨by omega, by omega⟩ ⟨by omega, by omega⟩) (gS bw_28_5 bw_28_6 bw_1_5 bw_28_7) rfl ddX12_isSpan (by decide) (Nat.le_of_ble_eq_true rfl) dX12_away_11 (k_pB (fun b3 => ?_) (fun b3 => ?_))
    · skip
      refine v_if_ne X 21 dX12_away_14 (by decide) ⟨by decide, by decide⟩ (fun _ => ?_) (fun q => absurd (by decide) q)
      refine v_aload_n X 0 dX12_away_21 rfl rfl ?_
      refine v_iconst X dX12_away_22 ?_
      refine v_iload_n X 1 dX12_away_23 rfl rfl ?_
      refine v_iload_n X 2 dX12_away_24 rfl rfl ?_
      refine v_callV X [.int (iz 3), .int (iz a), .int (iz b)] hRm (c_X12_fact _ _ _ hS 3 a b ⟨by omega, by omega⟩ ⟨by omega, by omega⟩ ⟨by omega, by omega⟩ (by omega)) (gV bw_27_13 bw_27_14 bw_27_15 bw_1_5 bw_27_16) rfl ddX12_fact (by decide) (Std.lt hS rfl) (Std.k hS rfl rfl) ⟨rfl, by decide⟩ (Nat.le_of_ble_eq_true rfl) dX12_away_25 (k_eI (fun r4 M5 hr6 e7 => ?_))
      refine hret _ _ _ _ _ _ _ _ _ _ _ (some (.int (iz r4))) dX12_away_28 ⟨rfl, _, rfl⟩ (by decide) (by decide) (fun hmok => ?_)
      refine ⟨rfl, rfl, rfl, rfl, rfl, r4, rfl, ⟨by omega, by omega⟩, ?_⟩
      try dsimp only
      rw [if_pos (by omega)]
      exact e7
    · skip
      refine v_if_ne X 21 dX12_away_14 (by decide) ⟨by decide, by decide⟩ (fun q => absurd q (by decide)) (fun _ => ?_)
      refine v_iconst X dX12_away_17 ?_
      refine v_goto X 28 dX12_away_18 (by decide) ?_
      refine hret _ _ _ _ _ _ _ _ _ _ _ (some (.int (iz (-1)))) dX12_away_28 ⟨rfl, _, rfl⟩ (by decide) (by decide) (fun hmok => ?_)
      refine ⟨rfl, rfl, rfl, rfl, rfl, (-1), rfl, ⟨by decide, by decide⟩, ?_⟩
      try dsimp only
      rw [if_neg (by omega)]
      exact ⟨rfl, rfl⟩

-- isRefused
set_option maxHeartbeats 4000000 in
set_option maxRecDepth 100000 in
theorem c_X12_isRefused (l : Launch) (D : va_G) (cy : Nat → ClassId) {N : Nat} {sh : MS} {ad : Nat → Nat} {M L : MI} {R : MR} (hS : Std N sh R) (i : Int) (hi : 0 ≤ i ∧ i < 36) (hB : mBnd M) : Ctr l D cy yX12_isRefused wsX12_isRefused ({ frames := 0, cells := 0, slots := 0, locals := 0 } : Room) N sh ad M L R [.ref (ad 53), .int (iz i)] (pB N sh ad M L R (M 53 52 ≤ mFar M i)) := by
  refine Ctr.ofZ (by decide) rfl (Nat.le_of_ble_eq_true rfl) ?_
  intro K hKl hKd hRm hnm X hret
  have X : VX K cX12_isRefused 3 wsX12_isRefused RX12 := X
  show V K 3 0 0 N sh ad M L R [(0, .ref (ad 53)), (1, .int (iz i))] [] 0
  have b1 := hB.2.2.2.2.2.2.1 i
  have b2 := hB.2.2.2.2.2.2.2.1 i
  have b3 := hB.2.2.2.2.2.1 (M 85 i)
  have b4 := hB.2.2.1
  have b5 := hB.2.2.2.1
  refine v_aload_n X 0 dX12_isRefused_0 rfl rfl ?_
  refine gt_X12_figSpeed X iwX12 (Std.lt hS rfl) (Std.k hS rfl rfl) (List.mem_cons_of_mem _ bw_8_22) dX12_isRefused_1 84 (Std.r hS 46 rfl) ?_
  refine v_iload_n X 1 dX12_isRefused_4 rfl rfl ?_
  refine v_iald X (M 84 i) (Std.lt hS rfl) (Std.at hS rfl rfl) (by omega) (by omega) dX12_isRefused_5 rfl (fun hr1 => ?_)
  refine v_aload_n X 0 dX12_isRefused_6 rfl rfl ?_
  refine gt_X12_falls X iwX12 (Std.lt hS rfl) (Std.k hS rfl rfl) (List.mem_cons_of_mem _ bw_10_3) dX12_isRefused_7 (M 53 49) rfl (fun hr2 => ?_)
  refine v_iconst X dX12_isRefused_10 ?_
  refine v_icmp_ne X 19 dX12_isRefused_11 (by decide) ⟨by omega, by omega⟩ ⟨by decide, by decide⟩ (fun u3 => ?_) (fun u3 => ?_)
  · skip
    refine v_aload_n X 0 dX12_isRefused_19 rfl rfl ?_
    refine gt_X12_cell X iwX12 (Std.lt hS rfl) (Std.k hS rfl rfl) (List.mem_cons_of_mem _ bw_9_1) dX12_isRefused_20 87 (Std.r hS 50 rfl) ?_
    refine v_aload_n X 0 dX12_isRefused_23 rfl rfl ?_
    refine gt_X12_figHeight X iwX12 (Std.lt hS rfl) (Std.k hS rfl rfl) (List.mem_cons_of_mem _ bw_8_23) dX12_isRefused_24 85 (Std.r hS 47 rfl) ?_
    refine v_iload_n X 1 dX12_isRefused_27 rfl rfl ?_
    refine v_iald X (M 85 i) (Std.lt hS rfl) (Std.at hS rfl rfl) (by omega) (by omega) dX12_isRefused_28 rfl (fun hr4 => ?_)
    refine v_iald X (M 87 (M 85 i)) (Std.lt hS rfl) (Std.at hS rfl rfl) (by omega) (by omega) dX12_isRefused_29 rfl (fun hr5 => ?_)
    refine v_imul X dX12_isRefused_30 ?_
    refine v_bipush X dX12_isRefused_31 (by decide) ?_
    have hp := mul_b (a := (M 84 i)) (b := (M 87 (M 85 i))) (by omega) (by omega)
    refine v_idiv X (((M 84 i) * (M 87 (M 85 i))) / 10) dX12_isRefused_33 (by decide) (iz_div (d := 10) (by omega) (by omega) (by decide) (by decide)) ?_
    refine v_aload_n X 0 dX12_isRefused_34 rfl rfl ?_
    refine gt_X12_wind X iwX12 (Std.lt hS rfl) (Std.k hS rfl rfl) (List.mem_cons_of_mem _ bw_26_14) dX12_isRefused_35 (M 53 51) rfl (fun hr6 => ?_)
    refine v_iadd X dX12_isRefused_38 ?_
    refine v_istore_n X [(2, .int (iz ((((M 84 i) * (M 87 (M 85 i))) / 10) + (M 53 51)))), (0, .ref (ad 53)), (1, .int (iz i))] dX12_isRefused_39 rfl (by decide) rfl ?_
    refine v_iload_n X 0 dX12_isRefused_40 rfl rfl ?_
    refine v_aload_n X 1 dX12_isRefused_41 rfl rfl ?_
    refine gt_X12_line X iwX12 (Std.lt hS rfl) (Std.k hS rfl rfl) (List.mem_cons_of_mem _ bw_10_2) dX12_isRefused_42 (M 53 52) rfl (fun hr7 => ?_)
    refine v_icmp_lt X 52 dX12_isRefused_45 (by decide) ⟨by omega, by omega⟩ ⟨by omega, by omega⟩ (fun u8 => ?_) (fun u8 => ?_)
    · skip
      refine v_iconst X dX12_isRefused_52 ?_
      refine hret _ _ _ _ _ _ _ _ _ _ _ (some (.int (iz 0))) dX12_isRefused_53 ⟨rfl, 0, ⟨by omega, by omega⟩, rfl⟩ (by decide) (by decide) (fun hmok => ?_)
      refine ⟨rfl, rfl, rfl, rfl, rfl, rfl, 0, rfl, Or.inr ⟨rfl, ?_⟩⟩
      unfold mFar
      rw [if_neg (by omega)]
      omega
    · skip
      refine v_iconst X dX12_isRefused_48 ?_
      refine v_goto X 53 dX12_isRefused_49 (by decide) ?_
      refine hret _ _ _ _ _ _ _ _ _ _ _ (some (.int (iz 1))) dX12_isRefused_53 ⟨rfl, 1, ⟨by omega, by omega⟩, rfl⟩ (by decide) (by decide) (fun hmok => ?_)
      refine ⟨rfl, rfl, rfl, rfl, rfl, rfl, 1, rfl, Or.inl ⟨rfl, ?_⟩⟩
      unfold mFar
      rw [if_neg (by omega)]
      omega
  · skip
    refine v_bipush X dX12_isRefused_14 (by decide) ?_
    refine v_goto X 30 dX12_isRefused_16 (by decide) ?_
    refine v_imul X dX12_isRefused_30 ?_
    refine v_bipush X dX12_isRefused_31 (by decide) ?_
    have hp := mul_b (a := (M 84 i)) (b := 20) (by omega) (by omega)
    refine v_idiv X (((M 84 i) * 20) / 10) dX12_isRefused_33 (by decide) (iz_div (d := 10) (by omega) (by omega) (by decide) (by decide)) ?_
    refine v_aload_n X 0 dX12_isRefused_34 rfl rfl ?_
    refine gt_X12_wind X iwX12 (Std.lt hS rfl) (Std.k hS rfl rfl) (List.mem_cons_of_mem _ bw_26_14) dX12_isRefused_35 (M 53 51) rfl (fun hr9 => ?_)
    refine v_iadd X dX12_isRefused_38 ?_
    refine v_istore_n X [(2, .int (iz ((((M 84 i) * 20) / 10) + (M 53 51)))), (0, .ref (ad 53)), (1, .int (iz i))] dX12_isRefused_39 rfl (by decide) rfl ?_
    refine v_iload_n X 0 dX12_isRefused_40 rfl rfl ?_
    refine v_aload_n X 1 dX12_isRefused_41 rfl rfl ?_
    refine gt_X12_line X iwX12 (Std.lt hS rfl) (Std.k hS rfl rfl) (List.mem_cons_of_mem _ bw_10_2) dX12_isRefused_42 (M 53 52) rfl (fun hr10 => ?_)
    refine v_icmp_lt X 52 dX12_isRefused_45 (by decide) ⟨by omega, by omega⟩ ⟨by omega, by omega⟩ (fun u11 => ?_) (fun u11 => ?_)
    · skip
      refine v_iconst X dX12_isRefused_52 ?_
      refine hret _ _ _ _ _ _ _ _ _ _ _ (some (.int (iz 0))) dX12_isRefused_53 ⟨rfl, 0, ⟨by omega, by omega⟩, rfl⟩ (by decide) (by decide) (fun hmok => ?_)
      refine ⟨rfl, rfl, rfl, rfl, rfl, rfl, 0, rfl, Or.inr ⟨rfl, ?_⟩⟩
      unfold mFar
      rw [if_pos (by omega)]
      omega
    · skip
      refine v_iconst X dX12_isRefused_48 ?_
      refine v_goto X 53 dX12_isRefused_49 (by decide) ?_
      refine hret _ _ _ _ _ _ _ _ _ _ _ (some (.int (iz 1))) dX12_isRefused_53 ⟨rfl, 1, ⟨by omega, by omega⟩, rfl⟩ (by decide) (by decide) (fun hmok => ?_)
      refine ⟨rfl, rfl, rfl, rfl, rfl, rfl, 1, rfl, Or.inl ⟨rfl, ?_⟩⟩
      unfold mFar
      rw [if_pos (by omega)]
      omega

-- refused
set_option maxHeartbeats 4000000 in
set_option maxRecDepth 100000 in
theorem c_X12_refused (l : Launch) (D : va_G) (cy : Nat → ClassId) {N : Nat} {sh : MS} {ad : Nat → Nat} {M L : MI} {R : MR} (hS : Std N sh R) (a : Int) (b : Int) (ha : inR a) (hb : inR b) (hB : mBnd M) : Ctr l D cy yX12_refused wsX12_refused ({ frames := 1, cells := 0, slots := 0, locals := 22 } : Room) N sh ad M L R [.ref (ad 53), .int (iz a), .int (iz b)] (pI N sh ad M L R (fun r => r = if 0 ≤ a ∧ a < M 53 37 ∧ 0 ≤ b ∧ b < M 82 a then (if M 53 52 ≤ mFar M (6 * a + b) then 1 else 0) else -1)) := by
  refine Ctr.ofI (by decide) rfl (Nat.le_of_ble_eq_true rfl) ?_
  intro K hKl hKd hRm hnm X hret
  have X : VX K cX12_refused 3 wsX12_refused RX12 := X
  show V K 3 0 0 N sh ad M L R [(0, .ref (ad 53)), (1, .int (iz a)), (2, .int (iz b))] [] 0
  have b1 := hB.1
  have b2 := hB.2.2.2.2.2.2.2.2.2 a
  refine v_aload_n X 0 dX12_refused_0 rfl rfl ?_
  refine v_iload_n X 1 dX12_refused_1 rfl rfl ?_
  refine v_callV X [.int (iz a)] hRm (c_X12_isAct _ _ _ hS a ⟨by omega, by omega⟩) (gV bw_25_1 bw_25_2 bw_25_3 bw_1_5 bw_25_4) rfl ddX12_isAct (by decide) (Std.lt hS rfl) (Std.k hS rfl rfl) ⟨rfl, by decide⟩ (Nat.le_of_ble_eq_true rfl) dX12_refused_2 (k_pB (fun b1 => ?_) (fun b1 => ?_))
  · skip
    refine v_if_eq X 22 dX12_refused_5 (by decide) ⟨by decide, by decide⟩ (fun q => absurd q (by decide)) (fun _ => ?_)
    refine v_iload_n X 2 dX12_refused_8 rfl rfl ?_
    refine v_if_lt X 22 dX12_refused_9 (by decide) ⟨by omega, by omega⟩ (fun u2 => ?_) (fun u2 => ?_)
    · skip
      refine v_iconst X dX12_refused_22 ?_
      refine hret _ _ _ _ _ _ _ _ _ _ _ (some (.int (iz (-1)))) dX12_refused_23 ⟨rfl, _, rfl⟩ (by decide) (by decide) (fun hmok => ?_)
      refine ⟨rfl, rfl, rfl, rfl, rfl, rfl, (-1), rfl, ⟨by decide, by decide⟩, ?_⟩
      try dsimp only
      rw [if_neg (by omega)]
    · skip
      refine v_iload_n X 2 dX12_refused_12 rfl rfl ?_
      refine v_aload_n X 0 dX12_refused_13 rfl rfl ?_
      refine gt_X12_figures X iwX12 (Std.lt hS rfl) (Std.k hS rfl rfl) (List.mem_cons_of_mem _ bw_8_20) dX12_refused_14 82 (Std.r hS 44 rfl) ?_
      refine v_iload_n X 1 dX12_refused_17 rfl rfl ?_
      refine v_iald X (M 82 a) (Std.lt hS rfl) (Std.at hS rfl rfl) (by omega) (by omega) dX12_refused_18 rfl (fun hr3 => ?_)
      refine v_icmp_lt X 24 dX12_refused_19 (by decide) ⟨by omega, by omega⟩ ⟨by omega, by omega⟩ (fun u4 => ?_) (fun u4 => ?_)
      · skip
        refine v_aload_n X 0 dX12_refused_24 rfl rfl ?_
        refine v_bipush X dX12_refused_25 (by decide) ?_
        refine v_iload_n X 1 dX12_refused_27 rfl rfl ?_
        refine v_imul X dX12_refused_28 ?_
        refine v_iload_n X 2 dX12_refused_29 rfl rfl ?_
        refine v_iadd X dX12_refused_30 ?_
        refine v_callV X [.int (iz ((6 * a) + b))] hRm (c_X12_isRefused _ _ _ hS ((6 * a) + b) (by omega) hB) (gV bw_29_18 bw_29_19 bw_29_20 bw_1_5 bw_29_21) rfl ddX12_isRefused (by decide) (Std.lt hS rfl) (Std.k hS rfl rfl) ⟨rfl, by decide⟩ (Nat.le_of_ble_eq_true rfl) dX12_refused_31 (k_pB (fun b5 => ?_) (fun b5 => ?_))
        · skip
          refine v_if_eq X 41 dX12_refused_34 (by decide) ⟨by decide, by decide⟩ (fun q => absurd q (by decide)) (fun _ => ?_)
          refine v_iconst X dX12_refused_37 ?_
          refine v_goto X 42 dX12_refused_38 (by decide) ?_
          refine hret _ _ _ _ _ _ _ _ _ _ _ (some (.int (iz 1))) dX12_refused_42 ⟨rfl, _, rfl⟩ (by decide) (by decide) (fun hmok => ?_)
          refine ⟨rfl, rfl, rfl, rfl, rfl, rfl, 1, rfl, ⟨by decide, by decide⟩, ?_⟩
          try dsimp only
          rw [if_pos (by omega)]
          rw [if_pos (by omega)]
        · skip
          refine v_if_eq X 41 dX12_refused_34 (by decide) ⟨by decide, by decide⟩ (fun _ => ?_) (fun q => absurd (by decide) q)
          refine v_iconst X dX12_refused_41 ?_
          refine hret _ _ _ _ _ _ _ _ _ _ _ (some (.int (iz 0))) dX12_refused_42 ⟨rfl, _, rfl⟩ (by decide) (by decide) (fun hmok => ?_)
          refine ⟨rfl, rfl, rfl, rfl, rfl, rfl, 0, rfl, ⟨by decide, by decide⟩, ?_⟩
          try dsimp only
          rw [if_pos (by omega)]
          rw [if_neg (by omega)]
      · skip
        refine v_iconst X dX12_refused_22 ?_
        refine hret _ _ _ _ _ _ _ _ _ _ _ (some (.int (iz (-1)))) dX12_refused_23 ⟨rfl, _, rfl⟩ (by decide) (by decide) (fun hmok => ?_)
        refine ⟨rfl, rfl, rfl, rfl, rfl, rfl, (-1), rfl, ⟨by decide, by decide⟩, ?_⟩
        try dsimp only
        rw [if_neg (by omega)]
  · skip
    refine v_if_eq X 22 dX12_refused_5 (by decide) ⟨by decide, by decide⟩ (fun _ => ?_) (fun q => absurd (by decide) q)
    refine v_iconst X dX12_refused_22 ?_
    refine hret _ _ _ _ _ _ _ _ _ _ _ (some (.int (iz (-1)))) dX12_refused_23 ⟨rfl, _, rfl⟩ (by decide) (by decide) (fun hmok => ?_)
    refine ⟨rfl, rfl, rfl, rfl, rfl, rfl, (-1), rfl, ⟨by decide, by decide⟩, ?_⟩
    try dsimp only
    rw [if_neg (by omega)]

-- order
set_option maxHeartbeats 4000000 in
set_option maxRecDepth 100000 in
theorem c_X12_order (l : Launch) (D : va_G) (cy : Nat → ClassId) {N : Nat} {sh : MS} {ad : Nat → Nat} {M L : MI} {R : MR} (hS : Std N sh R) (a : Int) (ha : inR a) (hm : 0 ≤ M 53 69 ∧ M 53 69 ≤ 6) : Ctr l D cy yX12_order wsX12_order ({ frames := 0, cells := 0, slots := 0, locals := 0 } : Room) N sh ad M L R [.ref (ad 53), .int (iz a)] (pI N sh ad M L R (fun r => r = if M 53 68 ≠ 0 ∧ 0 ≤ a ∧ a < M 53 69 then M 101 a else -1)) := by
  refine Ctr.ofI (by decide) rfl (Nat.le_of_ble_eq_true rfl) ?_
  intro K hKl hKd hRm hnm X hret
  have X : VX K cX12_order 2 wsX12_order RX12 := X
  show V K 2 0 0 N sh ad M L R [(0, .ref (ad 53)), (1, .int (iz a))] [] 0
  refine v_aload_n X 0 dX12_order_0 rfl rfl ?_
  refine gt_X12_isPlanned X iwX12 (Std.lt hS rfl) (Std.k hS rfl rfl) (List.mem_cons_of_mem _ bw_39_1) dX12_order_1 (M 53 68) rfl (fun hr1 => ?_)
  refine v_if_eq X 28 dX12_order_4 (by decide) ⟨by omega, by omega⟩ (fun u2 => ?_) (fun u2 => ?_)
  · skip
    refine v_iconst X dX12_order_28 ?_
    refine hret _ _ _ _ _ _ _ _ _ _ _ (some (.int (iz (-1)))) dX12_order_29 ⟨rfl, _, rfl⟩ (by decide) (by decide) (fun hmok => ?_)
    refine ⟨rfl, rfl, rfl, rfl, rfl, rfl, (-1), rfl, ⟨by decide, by decide⟩, ?_⟩
    try dsimp only
    split <;> omega
  · skip
    refine v_iload_n X 1 dX12_order_7 rfl rfl ?_
    refine v_if_lt X 28 dX12_order_8 (by decide) ⟨by omega, by omega⟩ (fun u3 => ?_) (fun u3 => ?_)
    · skip
      refine v_iconst X dX12_order_28 ?_
      refine hret _ _ _ _ _ _ _ _ _ _ _ (some (.int (iz (-1)))) dX12_order_29 ⟨rfl, _, rfl⟩ (by decide) (by decide) (fun hmok => ?_)
      refine ⟨rfl, rfl, rfl, rfl, rfl, rfl, (-1), rfl, ⟨by decide, by decide⟩, ?_⟩
      try dsimp only
      split <;> omega
    · skip
      refine v_iload_n X 1 dX12_order_11 rfl rfl ?_
      refine v_aload_n X 0 dX12_order_12 rfl rfl ?_
      refine gt_X12_many X iwX12 (Std.lt hS rfl) (Std.k hS rfl rfl) (List.mem_cons_of_mem _ bw_39_2) dX12_order_13 (M 53 69) rfl (fun hr4 => ?_)
      refine v_icmp_ge X 28 dX12_order_16 (by decide) ⟨by omega, by omega⟩ ⟨by omega, by omega⟩ (fun u5 => ?_) (fun u5 => ?_)
      · skip
        refine v_iconst X dX12_order_28 ?_
        refine hret _ _ _ _ _ _ _ _ _ _ _ (some (.int (iz (-1)))) dX12_order_29 ⟨rfl, _, rfl⟩ (by decide) (by decide) (fun hmok => ?_)
        refine ⟨rfl, rfl, rfl, rfl, rfl, rfl, (-1), rfl, ⟨by decide, by decide⟩, ?_⟩
        try dsimp only
        split <;> omega
      · skip
        refine v_aload_n X 0 dX12_order_19 rfl rfl ?_
        refine gt_X12_order X iwX12 (Std.lt hS rfl) (Std.k hS rfl rfl) (List.mem_cons_of_mem _ bw_9_15) dX12_order_20 101 (Std.r hS 70 rfl) ?_
        refine v_iload_n X 1 dX12_order_23 rfl rfl ?_
        refine v_iald X (M 101 a) (Std.lt hS rfl) (Std.at hS rfl rfl) (by omega) (by omega) dX12_order_24 rfl (fun hr6 => ?_)
        refine v_goto X 29 dX12_order_25 (by decide) ?_
        refine hret _ _ _ _ _ _ _ _ _ _ _ (some (.int (iz (M 101 a)))) dX12_order_29 ⟨rfl, _, rfl⟩ (by decide) (by decide) (fun hmok => ?_)
        refine ⟨rfl, rfl, rfl, rfl, rfl, rfl, (M 101 a), rfl, ⟨by omega, by omega⟩, ?_⟩
        try dsimp only
        split <;> omega

-- isIn
set_option maxHeartbeats 4000000 in
set_option maxRecDepth 100000 in
theorem c_X12_isIn (l : Launch) (D : va_G) (cy : Nat → ClassId) {N : Nat} {sh : MS} {ad : Nat → Nat} {M L : MI} {R : MR} (hS : Std N sh R) (a : Int) (ha : inR a) (hB : mBnd M) : Ctr l D cy yX12_isIn wsX12_isIn ({ frames := 1, cells := 0, slots := 0, locals := 21 } : Room) N sh ad M L R [.ref (ad 53), .int (iz a)] (pB N sh ad M L R (M 53 68 ≠ 0 ∧ 0 ≤ a ∧ a < M 53 37 ∧ M 103 a ≠ -1)) := by
  refine Ctr.ofZ (by decide) rfl (Nat.le_of_ble_eq_true rfl) ?_
  intro K hKl hKd hRm hnm X hret
  have X : VX K cX12_isIn 2 wsX12_isIn RX12 := X
  show V K 2 0 0 N sh ad M L R [(0, .ref (ad 53)), (1, .int (iz a))] [] 0
  have b1 := hB.1
  refine v_aload_n X 0 dX12_isIn_0 rfl rfl ?_
  refine gt_X12_isPlanned X iwX12 (Std.lt hS rfl) (Std.k hS rfl rfl) (List.mem_cons_of_mem _ bw_39_1) dX12_isIn_1 (M 53 68) rfl (fun hr1 => ?_)
  refine v_if_eq X 29 dX12_isIn_4 (by decide) ⟨by omega, by omega⟩ (fun u2 => ?_) (fun u2 => ?_)
  · skip
    refine v_iconst X dX12_isIn_29 ?_
    refine hret _ _ _ _ _ _ _ _ _ _ _ (some (.int (iz 0))) dX12_isIn_30 ⟨rfl, 0, ⟨by omega, by omega⟩, rfl⟩ (by decide) (by decide) (fun hmok => ?_)
    refine ⟨rfl, rfl, rfl, rfl, rfl, rfl, 0, rfl, Or.inr ⟨rfl, ?_⟩⟩
    omega
  · skip
    refine v_aload_n X 0 dX12_isIn_7 rfl rfl ?_
    refine v_iload_n X 1 dX12_isIn_8 rfl rfl ?_
    refine v_callV X [.int (iz a)] hRm (c_X12_isAct _ _ _ hS a ⟨by omega, by omega⟩) (gV bw_25_1 bw_25_2 bw_25_3 bw_1_5 bw_25_4) rfl ddX12_isAct (by decide) (Std.lt hS rfl) (Std.k hS rfl rfl) ⟨rfl, by decide⟩ (Nat.le_of_ble_eq_true rfl) dX12_isIn_9 (k_pB (fun b3 => ?_) (fun b3 => ?_))
    · skip
      refine v_if_eq X 29 dX12_isIn_12 (by decide) ⟨by decide, by decide⟩ (fun q => absurd q (by decide)) (fun _ => ?_)
      refine v_aload_n X 0 dX12_isIn_15 rfl rfl ?_
      refine gt_X12_pBegin X iwX12 (Std.lt hS rfl) (Std.k hS rfl rfl) (List.mem_cons_of_mem _ bw_9_17) dX12_isIn_16 103 (Std.r hS 72 rfl) ?_
      refine v_iload_n X 1 dX12_isIn_19 rfl rfl ?_
      refine v_iald X (M 103 a) (Std.lt hS rfl) (Std.at hS rfl rfl) (by omega) (by omega) dX12_isIn_20 rfl (fun hr4 => ?_)
      refine v_iconst X dX12_isIn_21 ?_
      refine v_icmp_eq X 29 dX12_isIn_22 (by decide) ⟨by omega, by omega⟩ ⟨by decide, by decide⟩ (fun u5 => ?_) (fun u5 => ?_)
      · skip
        refine v_iconst X dX12_isIn_29 ?_
        refine hret _ _ _ _ _ _ _ _ _ _ _ (some (.int (iz 0))) dX12_isIn_30 ⟨rfl, 0, ⟨by omega, by omega⟩, rfl⟩ (by decide) (by decide) (fun hmok => ?_)
        refine ⟨rfl, rfl, rfl, rfl, rfl, rfl, 0, rfl, Or.inr ⟨rfl, ?_⟩⟩
        omega
      · skip
        refine v_iconst X dX12_isIn_25 ?_
        refine v_goto X 30 dX12_isIn_26 (by decide) ?_
        refine hret _ _ _ _ _ _ _ _ _ _ _ (some (.int (iz 1))) dX12_isIn_30 ⟨rfl, 1, ⟨by omega, by omega⟩, rfl⟩ (by decide) (by decide) (fun hmok => ?_)
        refine ⟨rfl, rfl, rfl, rfl, rfl, rfl, 1, rfl, Or.inl ⟨rfl, ?_⟩⟩
        omega
    · skip
      refine v_if_eq X 29 dX12_isIn_12 (by decide) ⟨by decide, by decide⟩ (fun _ => ?_) (fun q => absurd (by decide) q)
      refine v_iconst X dX12_isIn_29 ?_
      refine hret _ _ _ _ _ _ _ _ _ _ _ (some (.int (iz 0))) dX12_isIn_30 ⟨rfl, 0, ⟨by omega, by omega⟩, rfl⟩ (by decide) (by decide) (fun hmok => ?_)
      refine ⟨rfl, rfl, rfl, rfl, rfl, rfl, 0, rfl, Or.inr ⟨rfl, ?_⟩⟩
      omega

-- told
set_option maxHeartbeats 4000000 in
set_option maxRecDepth 100000 in
theorem c_X12_told (l : Launch) (D : va_G) (cy : Nat → ClassId) {N : Nat} {sh : MS} {ad : Nat → Nat} {M L : MI} {R : MR} (hS : Std N sh R) (a : Int) (b : Int) (ha : inR a) (hb : inR b) (hB : mBnd M) (hd : ∀ k, inR (M 104 k - M 103 k)) : Ctr l D cy yX12_told wsX12_told ({ frames := 2, cells := 0, slots := 0, locals := 42 } : Room) N sh ad M L R [.ref (ad 53), .int (iz a), .int (iz b)] (pI N sh ad M L R (fun r => r = if M 53 68 ≠ 0 ∧ 0 ≤ a ∧ a < M 53 37 ∧ M 103 a ≠ -1 then (if b = 0 then M 102 a else if b = 1 then M 103 a else if b = 2 then M 104 a else if b = 3 then M 105 a else if b = 4 then M 104 a - M 103 a else -1) else -1)) := by
  refine Ctr.ofI (by decide) rfl (Nat.le_of_ble_eq_true rfl) ?_
  intro K hKl hKd hRm hnm X hret
  have X : VX K cX12_told 3 wsX12_told RX12 := X
  show V K 3 0 0 N sh ad M L R [(0, .ref (ad 53)), (1, .int (iz a)), (2, .int (iz b))] [] 0
  have b1 := hB.1
  have b2 := hd a
  refine v_aload_n X 0 dX12_told_0 rfl rfl ?_
  refine v_iload_n X 1 dX12_told_1 rfl rfl ?_
  refine v_callV X [.int (iz a)] hRm (c_X12_isIn _ _ _ hS a ⟨by omega, by omega⟩ hB) (gV bw_42_1 bw_42_2 bw_42_3 bw_1_5 bw_42_4) rfl ddX12_isIn (by decide) (Std.lt hS rfl) (Std.k hS rfl rfl) ⟨rfl, by decide⟩ (Nat.le_of_ble_eq_true rfl) dX12_told_2 (k_pB (fun b1 => ?_) (fun b1 => ?_))
  · skip
    refine v_if_ne X 10 dX12_told_5 (by decide) ⟨by decide, by decide⟩ (fun _ => ?_) (fun q => absurd (by decide) q)
    refine v_iload_n X 2 dX12_told_10 rfl rfl ?_
    by_cases u2 : b = 0
    · skip
      refine v_tabIn X 44 dX12_told_11 ⟨by omega, by omega⟩ (by omega) (by omega) (by rw [u2]; rfl) (by decide) ?_
      refine v_aload_n X 0 dX12_told_44 rfl rfl ?_
      refine gt_X12_pOff X iwX12 (Std.lt hS rfl) (Std.k hS rfl rfl) (List.mem_cons_of_mem _ bw_9_16) dX12_told_45 102 (Std.r hS 71 rfl) ?_
      refine v_iload_n X 1 dX12_told_48 rfl rfl ?_
      refine v_iald X (M 102 a) (Std.lt hS rfl) (Std.at hS rfl rfl) (by omega) (by omega) dX12_told_49 rfl (fun hr3 => ?_)
      refine hret _ _ _ _ _ _ _ _ _ _ _ (some (.int (iz (M 102 a)))) dX12_told_50 ⟨rfl, _, rfl⟩ (by decide) (by decide) (fun hmok => ?_)
      refine ⟨rfl, rfl, rfl, rfl, rfl, rfl, (M 102 a), rfl, ⟨by omega, by omega⟩, ?_⟩
      try dsimp only
      repeat' split
      all_goals omega
    by_cases u4 : b = 1
    · skip
      refine v_tabIn X 51 dX12_told_11 ⟨by omega, by omega⟩ (by omega) (by omega) (by rw [u4]; rfl) (by decide) ?_
      refine v_aload_n X 0 dX12_told_51 rfl rfl ?_
      refine gt_X12_pBegin X iwX12 (Std.lt hS rfl) (Std.k hS rfl rfl) (List.mem_cons_of_mem _ bw_9_17) dX12_told_52 103 (Std.r hS 72 rfl) ?_
      refine v_iload_n X 1 dX12_told_55 rfl rfl ?_
      refine v_iald X (M 103 a) (Std.lt hS rfl) (Std.at hS rfl rfl) (by omega) (by omega) dX12_told_56 rfl (fun hr5 => ?_)
      refine hret _ _ _ _ _ _ _ _ _ _ _ (some (.int (iz (M 103 a)))) dX12_told_57 ⟨rfl, _, rfl⟩ (by decide) (by decide) (fun hmok => ?_)
      refine ⟨rfl, rfl, rfl, rfl, rfl, rfl, (M 103 a), rfl, ⟨by omega, by omega⟩, ?_⟩
      try dsimp only
      repeat' split
      all_goals omega
    by_cases u6 : b = 2
    · skip
      refine v_tabIn X 58 dX12_told_11 ⟨by omega, by omega⟩ (by omega) (by omega) (by rw [u6]; rfl) (by decide) ?_
      refine v_aload_n X 0 dX12_told_58 rfl rfl ?_
      refine gt_X12_pEnd X iwX12 (Std.lt hS rfl) (Std.k hS rfl rfl) (List.mem_cons_of_mem _ bw_9_18) dX12_told_59 104 (Std.r hS 73 rfl) ?_
      refine v_iload_n X 1 dX12_told_62 rfl rfl ?_
      refine v_iald X (M 104 a) (Std.lt hS rfl) (Std.at hS rfl rfl) (by omega) (by omega) dX12_told_63 rfl (fun hr7 => ?_)
      refine hret _ _ _ _ _ _ _ _ _ _ _ (some (.int (iz (M 104 a)))) dX12_told_64 ⟨rfl, _, rfl⟩ (by decide) (by decide) (fun hmok => ?_)
      refine ⟨rfl, rfl, rfl, rfl, rfl, rfl, (M 104 a), rfl, ⟨by omega, by omega⟩, ?_⟩
      try dsimp only
      repeat' split
      all_goals omega
    by_cases u8 : b = 3
    · skip
      refine v_tabIn X 65 dX12_told_11 ⟨by omega, by omega⟩ (by omega) (by omega) (by rw [u8]; rfl) (by decide) ?_
      refine v_aload_n X 0 dX12_told_65 rfl rfl ?_
      refine gt_X12_pLand X iwX12 (Std.lt hS rfl) (Std.k hS rfl rfl) (List.mem_cons_of_mem _ bw_9_19) dX12_told_66 105 (Std.r hS 74 rfl) ?_
      refine v_iload_n X 1 dX12_told_69 rfl rfl ?_
      refine v_iald X (M 105 a) (Std.lt hS rfl) (Std.at hS rfl rfl) (by omega) (by omega) dX12_told_70 rfl (fun hr9 => ?_)
      refine hret _ _ _ _ _ _ _ _ _ _ _ (some (.int (iz (M 105 a)))) dX12_told_71 ⟨rfl, _, rfl⟩ (by decide) (by decide) (fun hmok => ?_)
      refine ⟨rfl, rfl, rfl, rfl, rfl, rfl, (M 105 a), rfl, ⟨by omega, by omega⟩, ?_⟩
      try dsimp only
      repeat' split
      all_goals omega
    by_cases u10 : b = 4
    · skip
      refine v_tabIn X 72 dX12_told_11 ⟨by omega, by omega⟩ (by omega) (by omega) (by rw [u10]; rfl) (by decide) ?_
      refine v_aload_n X 0 dX12_told_72 rfl rfl ?_
      refine gt_X12_pEnd X iwX12 (Std.lt hS rfl) (Std.k hS rfl rfl) (List.mem_cons_of_mem _ bw_9_18) dX12_told_73 104 (Std.r hS 73 rfl) ?_
      refine v_iload_n X 1 dX12_told_76 rfl rfl ?_
      refine v_iald X (M 104 a) (Std.lt hS rfl) (Std.at hS rfl rfl) (by omega) (by omega) dX12_told_77 rfl (fun hr11 => ?_)
      refine v_aload_n X 0 dX12_told_78 rfl rfl ?_
      refine gt_X12_pBegin X iwX12 (Std.lt hS rfl) (Std.k hS rfl rfl) (List.mem_cons_of_mem _ bw_9_17) dX12_told_79 103 (Std.r hS 72 rfl) ?_
      refine v_iload_n X 1 dX12_told_82 rfl rfl ?_
      refine v_iald X (M 103 a) (Std.lt hS rfl) (Std.at hS rfl rfl) (by omega) (by omega) dX12_told_83 rfl (fun hr12 => ?_)
      refine v_isub X dX12_told_84 ?_
      refine hret _ _ _ _ _ _ _ _ _ _ _ (some (.int (iz ((M 104 a) - (M 103 a))))) dX12_told_85 ⟨rfl, _, rfl⟩ (by decide) (by decide) (fun hmok => ?_)
      refine ⟨rfl, rfl, rfl, rfl, rfl, rfl, ((M 104 a) - (M 103 a)), rfl, ⟨by omega, by omega⟩, ?_⟩
      try dsimp only
      repeat' split
      all_goals omega
    refine v_tabOut X 86 dX12_told_11 ⟨by omega, by omega⟩ (by omega) (by decide) ?_
    refine v_iconst X dX12_told_86 ?_
    refine hret _ _ _ _ _ _ _ _ _ _ _ (some (.int (iz (-1)))) dX12_told_87 ⟨rfl, _, rfl⟩ (by decide) (by decide) (fun hmok => ?_)
    refine ⟨rfl, rfl, rfl, rfl, rfl, rfl, (-1), rfl, ⟨by decide, by decide⟩, ?_⟩
    try dsimp only
    repeat' split
    all_goals omega
  · skip
    refine v_if_ne X 10 dX12_told_5 (by decide) ⟨by decide, by decide⟩ (fun q => absurd q (by decide)) (fun _ => ?_)
    refine v_iconst X dX12_told_8 ?_
    refine hret _ _ _ _ _ _ _ _ _ _ _ (some (.int (iz (-1)))) dX12_told_9 ⟨rfl, _, rfl⟩ (by decide) (by decide) (fun hmok => ?_)
    refine ⟨rfl, rfl, rfl, rfl, rfl, rfl, (-1), rfl, ⟨by decide, by decide⟩, ?_⟩
    try dsimp only
    repeat' split
    all_goals omega

/-- who is on the runway, up to act i -/
def mRun (M : MI) (m : Int) : Nat → Option Int
  | 0 => none
  | n + 1 => match mRun M m n with
    | some r => some r
    | none => if M 53 68 ≠ 0 ∧ M 103 (n : Int) ≠ -1 then (if M 102 (n : Int) = m then some (n : Int) else if M 105 (n : Int) = m then some (100 + (n : Int)) else none) else none
def mLast (M : MI) : Nat → Int
  | 0 => -1
  | n + 1 => if M 53 68 ≠ 0 ∧ M 103 (n : Int) ≠ -1 ∧ mLast M n < M 105 (n : Int) then M 105 (n : Int) else mLast M n
theorem mLast_s (M : MI) (n : Nat) : mLast M (n + 1) = if M 53 68 ≠ 0 ∧ M 103 (n : Int) ≠ -1 ∧ mLast M n < M 105 (n : Int) then M 105 (n : Int) else mLast M n := rfl
theorem mRun_some {M : MI} {m r : Int} {n : Nat} (h : mRun M m n = some r) : ∀ k : Nat, n ≤ k → mRun M m k = some r := by
  intro k hk
  induction k with
  | zero => rw [show n = 0 by omega] at h; exact h
  | succ k ih =>
    rcases Nat.lt_or_ge k n with q | q
    · rw [show k + 1 = n by omega]; exact h
    · show (match mRun M m k with | some r => some r | none => _) = _
      rw [ih q]
theorem mRun_step {M : MI} {m r : Int} {n k : Nat} (hk : n < k) (h0 : mRun M m n = none) (h : (if M 53 68 ≠ 0 ∧ M 103 (n : Int) ≠ -1 then (if M 102 (n : Int) = m then some (n : Int) else if M 105 (n : Int) = m then some (100 + (n : Int)) else none) else none) = some r) : mRun M m k = some r := by
  refine mRun_some (n := n + 1) ?_ k hk
  show (match mRun M m n with | some r => some r | none => _) = _
  rw [h0]
  exact h
theorem mRun_none {M : MI} {m : Int} {n : Nat} (h0 : mRun M m n = none) (h : (if M 53 68 ≠ 0 ∧ M 103 (n : Int) ≠ -1 then (if M 102 (n : Int) = m then some (n : Int) else if M 105 (n : Int) = m then some (100 + (n : Int)) else none) else none) = none) : mRun M m (n + 1) = none := by
  show (match mRun M m n with | some r => some r | none => _) = _
  rw [h0]
  exact h

-- runway
set_option maxHeartbeats 4000000 in
set_option maxRecDepth 100000 in
theorem c_X12_runway (l : Launch) (D : va_G) (cy : Nat → ClassId) {N : Nat} {sh : MS} {ad : Nat → Nat} {M L : MI} {R : MR} (hS : Std N sh R) (a : Int) (ha : inR a) (hB : mBnd M) : Ctr l D cy yX12_runway wsX12_runway ({ frames := 2, cells := 0, slots := 0, locals := 42 } : Room) N sh ad M L R [.ref (ad 53), .int (iz a)] (pI N sh ad M L R (fun r => r = if 0 ≤ a ∧ a < 240 then (mRun M a (M 53 37).toNat).getD (-1) else -1)) := by
  refine Ctr.ofI (by decide) rfl (Nat.le_of_ble_eq_true rfl) ?_
  intro K hKl hKd hRm hnm X hret
  have X : VX K cX12_runway 3 wsX12_runway RX12 := X
  show V K 3 0 0 N sh ad M L R [(0, .ref (ad 53)), (1, .int (iz a))] [] 0
  have b1 := hB.1
  refine v_iload_n X 1 dX12_runway_0 rfl rfl ?_
  refine v_callS X [.int (iz a)] hRm (c_X12_isMinute _ _ _ a ⟨by omega, by omega⟩) (gS bw_27_10 bw_27_11 bw_1_5 bw_27_12) rfl ddX12_isMinute (by decide) (Nat.le_of_ble_eq_true rfl) dX12_runway_1 (k_pB (fun b1 => ?_) (fun b1 => ?_))
  · skip
    refine v_if_ne X 9 dX12_runway_4 (by decide) ⟨by decide, by decide⟩ (fun _ => ?_) (fun q => absurd (by decide) q)
    refine v_iconst X dX12_runway_9 ?_
    refine v_istore_n X [(2, .int (iz 0)), (0, .ref (ad 53)), (1, .int (iz a))] dX12_runway_10 rfl (by decide) rfl ?_
    have hl2 : ∀ (n4 : Nat) (i : Int) (j : Nat), (i = (j : Int)) → (i ≤ M 53 37) → (mRun M a j = none) → (6 - i).toNat < n4 → V K 3 0 0 N sh ad M L R [(0, .ref (ad 53)), (1, .int (iz a)), (2, .int (iz i))] [] 11 := by
      intro n4
      induction n4 with
      | zero => intro i j ei hi hr hn5; exact absurd hn5 (Nat.not_lt_zero _)
      | succ n4 ih3 =>
        intro i j ei hi hr hn5
        refine v_iload_n X 2 dX12_runway_11 rfl rfl ?_
        refine v_aload_n X 0 dX12_runway_12 rfl rfl ?_
        refine gt_X12_acts X iwX12 (Std.lt hS rfl) (Std.k hS rfl rfl) (List.mem_cons_of_mem _ bw_23_20) dX12_runway_13 (M 53 37) rfl (fun hr6 => ?_)
        refine v_icmp_ge X 63 dX12_runway_16 (by decide) ⟨by omega, by omega⟩ ⟨by omega, by omega⟩ (fun u7 => ?_) (fun u7 => ?_)
        · skip
          refine v_iconst X dX12_runway_63 ?_
          refine hret _ _ _ _ _ _ _ _ _ _ _ (some (.int (iz (-1)))) dX12_runway_64 ⟨rfl, _, rfl⟩ (by decide) (by decide) (fun hmok => ?_)
          refine ⟨rfl, rfl, rfl, rfl, rfl, rfl, (-1), rfl, ⟨by decide, by decide⟩, ?_⟩
          try dsimp only
          rw [if_pos (by omega)]
          rw [show (M 53 37).toNat = j by omega, hr]
          rfl
        · skip
          refine v_aload_n X 0 dX12_runway_19 rfl rfl ?_
          refine v_iload_n X 2 dX12_runway_20 rfl rfl ?_
          refine v_callV X [.int (iz i)] hRm (c_X12_isIn _ _ _ hS i ⟨by omega, by omega⟩ hB) (gV bw_42_1 bw_42_2 bw_42_3 bw_1_5 bw_42_4) rfl ddX12_isIn (by decide) (Std.lt hS rfl) (Std.k hS rfl rfl) ⟨rfl, by decide⟩ (Nat.le_of_ble_eq_true rfl) dX12_runway_21 (k_pB (fun b8 => ?_) (fun b8 => ?_))
          · skip
            refine v_if_ne X 30 dX12_runway_24 (by decide) ⟨by decide, by decide⟩ (fun _ => ?_) (fun q => absurd (by decide) q)
            refine v_aload_n X 0 dX12_runway_30 rfl rfl ?_
            refine gt_X12_pOff X iwX12 (Std.lt hS rfl) (Std.k hS rfl rfl) (List.mem_cons_of_mem _ bw_9_16) dX12_runway_31 102 (Std.r hS 71 rfl) ?_
            refine v_iload_n X 2 dX12_runway_34 rfl rfl ?_
            refine v_iald X (M 102 i) (Std.lt hS rfl) (Std.at hS rfl rfl) (by omega) (by omega) dX12_runway_35 rfl (fun hr9 => ?_)
            refine v_iload_n X 1 dX12_runway_36 rfl rfl ?_
            refine v_icmp_ne X 42 dX12_runway_37 (by decide) ⟨by omega, by omega⟩ ⟨by omega, by omega⟩ (fun u10 => ?_) (fun u10 => ?_)
            · skip
              refine v_aload_n X 0 dX12_runway_42 rfl rfl ?_
              refine gt_X12_pLand X iwX12 (Std.lt hS rfl) (Std.k hS rfl rfl) (List.mem_cons_of_mem _ bw_9_19) dX12_runway_43 105 (Std.r hS 74 rfl) ?_
              refine v_iload_n X 2 dX12_runway_46 rfl rfl ?_
              refine v_iald X (M 105 i) (Std.lt hS rfl) (Std.at hS rfl rfl) (by omega) (by omega) dX12_runway_47 rfl (fun hr11 => ?_)
              refine v_iload_n X 1 dX12_runway_48 rfl rfl ?_
              refine v_icmp_ne X 57 dX12_runway_49 (by decide) ⟨by omega, by omega⟩ ⟨by omega, by omega⟩ (fun u12 => ?_) (fun u12 => ?_)
              · skip
                refine v_iinc X 2 [(2, .int (iz (i + 1))), (0, .ref (ad 53)), (1, .int (iz a))] dX12_runway_57 rfl (by decide) rfl ?_
                refine v_goto X 11 dX12_runway_60 (by decide) ?_
                refine v_lv [1, 2, 0] rfl ?_
                exact ih3 (i + 1) (j + 1) (by omega) (by omega) (mRun_none hr (by subst ei; repeat (first | rw [if_pos (by omega)] | rw [if_neg (by omega)]))) (by omega)
              · skip
                refine v_bipush X dX12_runway_52 (by decide) ?_
                refine v_iload_n X 2 dX12_runway_54 rfl rfl ?_
                refine v_iadd X dX12_runway_55 ?_
                refine hret _ _ _ _ _ _ _ _ _ _ _ (some (.int (iz (100 + i)))) dX12_runway_56 ⟨rfl, _, rfl⟩ (by decide) (by decide) (fun hmok => ?_)
                refine ⟨rfl, rfl, rfl, rfl, rfl, rfl, (100 + i), rfl, ⟨by omega, by omega⟩, ?_⟩
                try dsimp only
                rw [if_pos (by omega)]
                rw [mRun_step (r := (100 + i)) (n := j) (by omega) hr (by subst ei; repeat (first | rw [if_pos (by omega)] | rw [if_neg (by omega)]))]
                rfl
            · skip
              refine v_iload_n X 2 dX12_runway_40 rfl rfl ?_
              refine hret _ _ _ _ _ _ _ _ _ _ _ (some (.int (iz i))) dX12_runway_41 ⟨rfl, _, rfl⟩ (by decide) (by decide) (fun hmok => ?_)
              refine ⟨rfl, rfl, rfl, rfl, rfl, rfl, i, rfl, ⟨by omega, by omega⟩, ?_⟩
              try dsimp only
              rw [if_pos (by omega)]
              rw [mRun_step (r := i) (n := j) (by omega) hr (by subst ei; repeat (first | rw [if_pos (by omega)] | rw [if_neg (by omega)]))]
              rfl
          · skip
            refine v_if_ne X 30 dX12_runway_24 (by decide) ⟨by decide, by decide⟩ (fun q => absurd q (by decide)) (fun _ => ?_)
            refine v_goto X 57 dX12_runway_27 (by decide) ?_
            refine v_iinc X 2 [(2, .int (iz (i + 1))), (0, .ref (ad 53)), (1, .int (iz a))] dX12_runway_57 rfl (by decide) rfl ?_
            refine v_goto X 11 dX12_runway_60 (by decide) ?_
            refine v_lv [1, 2, 0] rfl ?_
            exact ih3 (i + 1) (j + 1) (by omega) (by omega) (mRun_none hr (by subst ei; repeat (first | rw [if_pos (by omega)] | rw [if_neg (by omega)]))) (by omega)
    refine v_lv [1, 2, 0] rfl ?_
    exact hl2 _ 0 0 (by omega) (by omega) (rfl) (Nat.lt_succ_self _)
  · skip
    refine v_if_ne X 9 dX12_runway_4 (by decide) ⟨by decide, by decide⟩ (fun q => absurd q (by decide)) (fun _ => ?_)
    refine v_iconst X dX12_runway_7 ?_
    refine hret _ _ _ _ _ _ _ _ _ _ _ (some (.int (iz (-1)))) dX12_runway_8 ⟨rfl, _, rfl⟩ (by decide) (by decide) (fun hmok => ?_)
    refine ⟨rfl, rfl, rfl, rfl, rfl, rfl, (-1), rfl, ⟨by decide, by decide⟩, ?_⟩
    try dsimp only
    rw [if_neg (by omega)]

-- count
set_option maxHeartbeats 4000000 in
set_option maxRecDepth 100000 in
theorem c_X12_count (l : Launch) (D : va_G) (cy : Nat → ClassId) {N : Nat} {sh : MS} {ad : Nat → Nat} {M L : MI} {R : MR} (hS : Std N sh R) (a : Int) (ha : inR a) (hB : mBnd M) (hl : 0 ≤ M 53 18 ∧ M 53 18 ≤ 1) : Ctr l D cy yX12_count wsX12_count ({ frames := 2, cells := 0, slots := 0, locals := 42 } : Room) N sh ad M L R [.ref (ad 53), .int (iz a)] (pI N sh ad M L R (fun r => r = if a = 0 then M 53 37 else if a = 1 then M 53 53 else if a = 2 then M 61 (M 53 18) else if a = 3 then (if M 53 68 ≠ 0 then M 53 69 else -1) else if a = 4 then mLast M (M 53 37).toNat else if a = 5 then M 53 2 else if a = 6 then M 53 51 else if a = 7 then M 53 52 else -1)) := by
  refine Ctr.ofI (by decide) rfl (Nat.le_of_ble_eq_true rfl) ?_
  intro K hKl hKd hRm hnm X hret
  have X : VX K cX12_count 4 wsX12_count RX12 := X
  show V K 4 0 0 N sh ad M L R [(0, .ref (ad 53)), (1, .int (iz a))] [] 0
  have b1 := hB.1
  refine v_iload_n X 1 dX12_count_0 rfl rfl ?_
  by_cases u1 : a = 0
  · skip
    refine v_tabIn X 48 dX12_count_1 ⟨by omega, by omega⟩ (by omega) (by omega) (by rw [u1]; rfl) (by decide) ?_
    refine v_aload_n X 0 dX12_count_48 rfl rfl ?_
    refine gt_X12_acts X iwX12 (Std.lt hS rfl) (Std.k hS rfl rfl) (List.mem_cons_of_mem _ bw_23_20) dX12_count_49 (M 53 37) rfl (fun hr2 => ?_)
    refine hret _ _ _ _ _ _ _ _ _ _ _ (some (.int (iz (M 53 37)))) dX12_count_52 ⟨rfl, _, rfl⟩ (by decide) (by decide) (fun hmok => ?_)
    refine ⟨rfl, rfl, rfl, rfl, rfl, rfl, (M 53 37), rfl, ⟨by omega, by omega⟩, ?_⟩
    try dsimp only
    repeat' split
    all_goals omega
  by_cases u3 : a = 1
  · skip
    refine v_tabIn X 53 dX12_count_1 ⟨by omega, by omega⟩ (by omega) (by omega) (by rw [u3]; rfl) (by decide) ?_
    refine v_aload_n X 0 dX12_count_53 rfl rfl ?_
    refine gt_X12_facts X iwX12 (Std.lt hS rfl) (Std.k hS rfl rfl) (List.mem_cons_of_mem _ bw_27_9) dX12_count_54 (M 53 53) rfl (fun hr4 => ?_)
    refine hret _ _ _ _ _ _ _ _ _ _ _ (some (.int (iz (M 53 53)))) dX12_count_57 ⟨rfl, _, rfl⟩ (by decide) (by decide) (fun hmok => ?_)
    refine ⟨rfl, rfl, rfl, rfl, rfl, rfl, (M 53 53), rfl, ⟨by omega, by omega⟩, ?_⟩
    try dsimp only
    repeat' split
    all_goals omega
  by_cases u5 : a = 2
  · skip
    refine v_tabIn X 58 dX12_count_1 ⟨by omega, by omega⟩ (by omega) (by omega) (by rw [u5]; rfl) (by decide) ?_
    refine v_aload_n X 0 dX12_count_58 rfl rfl ?_
    refine gt_X12_rules X iwX12 (Std.lt hS rfl) (Std.k hS rfl rfl) (List.mem_cons_of_mem _ bw_7_23) dX12_count_59 61 (Std.r hS 20 rfl) ?_
    refine v_aload_n X 0 dX12_count_62 rfl rfl ?_
    refine gt_X12_live X iwX12 (Std.lt hS rfl) (Std.k hS rfl rfl) (List.mem_cons_of_mem _ bw_19_15) dX12_count_63 (M 53 18) rfl (fun hr6 => ?_)
    refine v_iald X (M 61 (M 53 18)) (Std.lt hS rfl) (Std.at hS rfl rfl) (by omega) (by omega) dX12_count_66 rfl (fun hr7 => ?_)
    refine hret _ _ _ _ _ _ _ _ _ _ _ (some (.int (iz (M 61 (M 53 18))))) dX12_count_67 ⟨rfl, _, rfl⟩ (by decide) (by decide) (fun hmok => ?_)
    refine ⟨rfl, rfl, rfl, rfl, rfl, rfl, (M 61 (M 53 18)), rfl, ⟨by omega, by omega⟩, ?_⟩
    try dsimp only
    repeat' split
    all_goals omega
  by_cases u8 : a = 3
  · skip
    refine v_tabIn X 68 dX12_count_1 ⟨by omega, by omega⟩ (by omega) (by omega) (by rw [u8]; rfl) (by decide) ?_
    refine v_aload_n X 0 dX12_count_68 rfl rfl ?_
    refine gt_X12_isPlanned X iwX12 (Std.lt hS rfl) (Std.k hS rfl rfl) (List.mem_cons_of_mem _ bw_39_1) dX12_count_69 (M 53 68) rfl (fun hr9 => ?_)
    refine v_if_eq X 82 dX12_count_72 (by decide) ⟨by omega, by omega⟩ (fun u10 => ?_) (fun u10 => ?_)
    · skip
      refine v_iconst X dX12_count_82 ?_
      refine hret _ _ _ _ _ _ _ _ _ _ _ (some (.int (iz (-1)))) dX12_count_83 ⟨rfl, _, rfl⟩ (by decide) (by decide) (fun hmok => ?_)
      refine ⟨rfl, rfl, rfl, rfl, rfl, rfl, (-1), rfl, ⟨by decide, by decide⟩, ?_⟩
      try dsimp only
      repeat' split
      all_goals omega
    · skip
      refine v_aload_n X 0 dX12_count_75 rfl rfl ?_
      refine gt_X12_many X iwX12 (Std.lt hS rfl) (Std.k hS rfl rfl) (List.mem_cons_of_mem _ bw_39_2) dX12_count_76 (M 53 69) rfl (fun hr11 => ?_)
      refine v_goto X 83 dX12_count_79 (by decide) ?_
      refine hret _ _ _ _ _ _ _ _ _ _ _ (some (.int (iz (M 53 69)))) dX12_count_83 ⟨rfl, _, rfl⟩ (by decide) (by decide) (fun hmok => ?_)
      refine ⟨rfl, rfl, rfl, rfl, rfl, rfl, (M 53 69), rfl, ⟨by omega, by omega⟩, ?_⟩
      try dsimp only
      repeat' split
      all_goals omega
  by_cases u12 : a = 4
  · skip
    refine v_tabIn X 84 dX12_count_1 ⟨by omega, by omega⟩ (by omega) (by omega) (by rw [u12]; rfl) (by decide) ?_
    refine v_iconst X dX12_count_84 ?_
    refine v_istore_n X [(2, .int (iz (-1))), (0, .ref (ad 53)), (1, .int (iz a))] dX12_count_85 rfl (by decide) rfl ?_
    refine v_iconst X dX12_count_86 ?_
    refine v_istore_n X [(3, .int (iz 0)), (2, .int (iz (-1))), (0, .ref (ad 53)), (1, .int (iz a))] dX12_count_87 rfl (by decide) rfl ?_
    have hl13 : ∀ (n15 : Nat) (i : Int) (c : Int) (j : Nat), (i = (j : Int)) → (i ≤ M 53 37) → (inR c) → (c = mLast M j) → (6 - i).toNat < n15 → V K 4 0 0 N sh ad M L R [(0, .ref (ad 53)), (1, .int (iz a)), (2, .int (iz c)), (3, .int (iz i))] [] 88 := by
      intro n15
      induction n15 with
      | zero => intro i c j ei hi hcr hc hn16; exact absurd hn16 (Nat.not_lt_zero _)
      | succ n15 ih14 =>
        intro i c j ei hi hcr hc hn16
        refine v_iload_n X 3 dX12_count_88 rfl rfl ?_
        refine v_aload_n X 0 dX12_count_89 rfl rfl ?_
        refine gt_X12_acts X iwX12 (Std.lt hS rfl) (Std.k hS rfl rfl) (List.mem_cons_of_mem _ bw_23_20) dX12_count_90 (M 53 37) rfl (fun hr17 => ?_)
        refine v_icmp_ge X 127 dX12_count_93 (by decide) ⟨by omega, by omega⟩ ⟨by omega, by omega⟩ (fun u18 => ?_) (fun u18 => ?_)
        · skip
          refine v_iload_n X 2 dX12_count_127 rfl rfl ?_
          refine hret _ _ _ _ _ _ _ _ _ _ _ (some (.int (iz c))) dX12_count_128 ⟨rfl, _, rfl⟩ (by decide) (by decide) (fun hmok => ?_)
          refine ⟨rfl, rfl, rfl, rfl, rfl, rfl, c, rfl, ⟨by omega, by omega⟩, ?_⟩
          try dsimp only
          rw [if_neg (by omega), if_neg (by omega), if_neg (by omega), if_neg (by omega), if_pos (by omega), show (M 53 37).toNat = j by omega]
          exact hc
        · skip
          refine v_aload_n X 0 dX12_count_96 rfl rfl ?_
          refine v_iload_n X 3 dX12_count_97 rfl rfl ?_
          refine v_callV X [.int (iz i)] hRm (c_X12_isIn _ _ _ hS i ⟨by omega, by omega⟩ hB) (gV bw_42_1 bw_42_2 bw_42_3 bw_1_5 bw_42_4) rfl ddX12_isIn (by decide) (Std.lt hS rfl) (Std.k hS rfl rfl) ⟨rfl, by decide⟩ (Nat.le_of_ble_eq_true rfl) dX12_count_98 (k_pB (fun b19 => ?_) (fun b19 => ?_))
          · skip
            refine v_if_eq X 121 dX12_count_101 (by decide) ⟨by decide, by decide⟩ (fun q => absurd q (by decide)) (fun _ => ?_)
            refine v_aload_n X 0 dX12_count_104 rfl rfl ?_
            refine gt_X12_pLand X iwX12 (Std.lt hS rfl) (Std.k hS rfl rfl) (List.mem_cons_of_mem _ bw_9_19) dX12_count_105 105 (Std.r hS 74 rfl) ?_
            refine v_iload_n X 3 dX12_count_108 rfl rfl ?_
            refine v_iald X (M 105 i) (Std.lt hS rfl) (Std.at hS rfl rfl) (by omega) (by omega) dX12_count_109 rfl (fun hr20 => ?_)
            refine v_iload_n X 2 dX12_count_110 rfl rfl ?_
            refine v_icmp_le X 121 dX12_count_111 (by decide) ⟨by omega, by omega⟩ ⟨by omega, by omega⟩ (fun u21 => ?_) (fun u21 => ?_)
            · skip
              refine v_iinc X 3 [(3, .int (iz (i + 1))), (0, .ref (ad 53)), (1, .int (iz a)), (2, .int (iz c))] dX12_count_121 rfl (by decide) rfl ?_
              refine v_goto X 88 dX12_count_124 (by decide) ?_
              refine v_lv [1, 2, 3, 0] rfl ?_
              exact ih14 (i + 1) c (j + 1) (by omega) (by omega) (⟨by omega, by omega⟩) (by rw [mLast_s, ← hc]; subst ei; first | rw [if_pos (by omega)] | rw [if_neg (by omega)]) (by omega)
            · skip
              refine v_aload_n X 0 dX12_count_114 rfl rfl ?_
              refine gt_X12_pLand X iwX12 (Std.lt hS rfl) (Std.k hS rfl rfl) (List.mem_cons_of_mem _ bw_9_19) dX12_count_115 105 (Std.r hS 74 rfl) ?_
              refine v_iload_n X 3 dX12_count_118 rfl rfl ?_
              refine v_iald X (M 105 i) (Std.lt hS rfl) (Std.at hS rfl rfl) (by omega) (by omega) dX12_count_119 rfl (fun hr22 => ?_)
              refine v_istore_n X [(2, .int (iz (M 105 i))), (0, .ref (ad 53)), (1, .int (iz a)), (3, .int (iz i))] dX12_count_120 rfl (by decide) rfl ?_
              refine v_iinc X 3 [(3, .int (iz (i + 1))), (2, .int (iz (M 105 i))), (0, .ref (ad 53)), (1, .int (iz a))] dX12_count_121 rfl (by decide) rfl ?_
              refine v_goto X 88 dX12_count_124 (by decide) ?_
              refine v_lv [2, 3, 1, 0] rfl ?_
              exact ih14 (i + 1) (M 105 i) (j + 1) (by omega) (by omega) (⟨by omega, by omega⟩) (by rw [mLast_s, ← hc]; subst ei; first | rw [if_pos (by omega)] | rw [if_neg (by omega)]) (by omega)
          · skip
            refine v_if_eq X 121 dX12_count_101 (by decide) ⟨by decide, by decide⟩ (fun _ => ?_) (fun q => absurd (by decide) q)
            refine v_iinc X 3 [(3, .int (iz (i + 1))), (0, .ref (ad 53)), (1, .int (iz a)), (2, .int (iz c))] dX12_count_121 rfl (by decide) rfl ?_
            refine v_goto X 88 dX12_count_124 (by decide) ?_
            refine v_lv [1, 2, 3, 0] rfl ?_
            exact ih14 (i + 1) c (j + 1) (by omega) (by omega) (⟨by omega, by omega⟩) (by rw [mLast_s, ← hc]; subst ei; first | rw [if_pos (by omega)] | rw [if_neg (by omega)]) (by omega)
    refine v_lv [2, 3, 1, 0] rfl ?_
    exact hl13 _ 0 (-1) 0 (by omega) (by omega) (⟨by omega, by omega⟩) (rfl) (Nat.lt_succ_self _)
  by_cases u23 : a = 5
  · skip
    refine v_tabIn X 129 dX12_count_1 ⟨by omega, by omega⟩ (by omega) (by omega) (by rw [u23]; rfl) (by decide) ?_
    refine v_aload_n X 0 dX12_count_129 rfl rfl ?_
    refine gt_X12_taped X iwX12 (Std.lt hS rfl) (Std.k hS rfl rfl) (List.mem_cons_of_mem _ bw_11_4) dX12_count_130 (M 53 2) rfl (fun hr24 => ?_)
    refine hret _ _ _ _ _ _ _ _ _ _ _ (some (.int (iz (M 53 2)))) dX12_count_133 ⟨rfl, _, rfl⟩ (by decide) (by decide) (fun hmok => ?_)
    refine ⟨rfl, rfl, rfl, rfl, rfl, rfl, (M 53 2), rfl, ⟨by omega, by omega⟩, ?_⟩
    try dsimp only
    repeat' split
    all_goals omega
  by_cases u25 : a = 6
  · skip
    refine v_tabIn X 134 dX12_count_1 ⟨by omega, by omega⟩ (by omega) (by omega) (by rw [u25]; rfl) (by decide) ?_
    refine v_aload_n X 0 dX12_count_134 rfl rfl ?_
    refine gt_X12_wind X iwX12 (Std.lt hS rfl) (Std.k hS rfl rfl) (List.mem_cons_of_mem _ bw_26_14) dX12_count_135 (M 53 51) rfl (fun hr26 => ?_)
    refine hret _ _ _ _ _ _ _ _ _ _ _ (some (.int (iz (M 53 51)))) dX12_count_138 ⟨rfl, _, rfl⟩ (by decide) (by decide) (fun hmok => ?_)
    refine ⟨rfl, rfl, rfl, rfl, rfl, rfl, (M 53 51), rfl, ⟨by omega, by omega⟩, ?_⟩
    try dsimp only
    repeat' split
    all_goals omega
  by_cases u27 : a = 7
  · skip
    refine v_tabIn X 139 dX12_count_1 ⟨by omega, by omega⟩ (by omega) (by omega) (by rw [u27]; rfl) (by decide) ?_
    refine v_aload_n X 0 dX12_count_139 rfl rfl ?_
    refine gt_X12_line X iwX12 (Std.lt hS rfl) (Std.k hS rfl rfl) (List.mem_cons_of_mem _ bw_10_2) dX12_count_140 (M 53 52) rfl (fun hr28 => ?_)
    refine hret _ _ _ _ _ _ _ _ _ _ _ (some (.int (iz (M 53 52)))) dX12_count_143 ⟨rfl, _, rfl⟩ (by decide) (by decide) (fun hmok => ?_)
    refine ⟨rfl, rfl, rfl, rfl, rfl, rfl, (M 53 52), rfl, ⟨by omega, by omega⟩, ?_⟩
    try dsimp only
    repeat' split
    all_goals omega
  refine v_tabOut X 144 dX12_count_1 ⟨by omega, by omega⟩ (by omega) (by decide) ?_
  refine v_iconst X dX12_count_144 ?_
  refine hret _ _ _ _ _ _ _ _ _ _ _ (some (.int (iz (-1)))) dX12_count_145 ⟨rfl, _, rfl⟩ (by decide) (by decide) (fun hmok => ?_)
  refine ⟨rfl, rfl, rfl, rfl, rfl, rfl, (-1), rfl, ⟨by decide, by decide⟩, ?_⟩
  try dsimp only
  repeat' split
  all_goals omega

