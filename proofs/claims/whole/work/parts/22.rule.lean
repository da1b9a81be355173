theorem firstN_yes {p : Int → Bool} : ∀ {n : Nat}, firstN p n ≠ -1 → 0 ≤ firstN p n ∧ firstN p n < n ∧ p (firstN p n) = true
  | 0, h => absurd rfl h
  | n + 1, h => by
    rw [firstN_s] at h ⊢
    by_cases q : firstN p n ≠ -1
    · rw [if_pos q]
      have := firstN_yes q
      exact ⟨this.1, by omega, this.2.2⟩
    · rw [if_neg q] at h ⊢
      by_cases z : p (n : Int) = true
      · rw [if_pos z]
        exact ⟨by omega, by omega, z⟩
      · rw [if_neg z] at h
        exact absurd rfl h
def mTxt (M : MI) : Prop := (0 ≤ M 61 (M 53 18) ∧ M 61 (M 53 18) ≤ 16) ∧ (0 ≤ M 53 18 ∧ M 53 18 ≤ 1) ∧ ∀ r : Int, 0 ≤ r → r < M 61 (M 53 18) → mRel M (16 * M 53 18 + r) ∧ (M 62 (16 * M 53 18 + r) ≠ 0 → mWf (M 73) (M 74) (M 63 (16 * M 53 18 + r)) (M 64 (16 * M 53 18 + r)))
def mP (M : MI) (s : Int) : Int → Bool := fun r => decide (M 62 (16 * M 53 18 + r) = s) && mHold M (16 * M 53 18 + r)
def mRule (M : MI) (s : Int) : Int := firstN (mP M s) (M 61 (M 53 18)).toNat
def mHeld (M : MI) (s : Int) : Int := if mRule M s = -1 then 0 else max 0 (min 30 (mVal (M 73) (M 74) (M 94) (M 63 (16 * M 53 18 + mRule M s)) (M 64 (16 * M 53 18 + mRule M s))))

-- ruleOf
set_option maxHeartbeats 4000000 in
set_option maxRecDepth 100000 in
theorem c_X12_ruleOf (l : Launch) (D : va_G) (cy : Nat → ClassId) {N : Nat} {sh : MS} {ad : Nat → Nat} {M L : MI} {R : MR} (hS : Std N sh R) (s : Int) (hs : inR s) (hT : mTxt M) : Ctr l D cy yX12_ruleOf wsX12_ruleOf ({ frames := 2, cells := 0, slots := 0, locals := 52 } : Room) N sh ad M L R [.ref (ad 53), .int (iz s)] (eI N sh ad L R (fun r M' => r = mRule M s ∧ ∃ g : Int → Int, M' = mrow M 95 g)) := by
  refine Ctr.ofI (by decide) rfl (Nat.le_of_ble_eq_true rfl) ?_
  intro K hKl hKd hRm hnm X hret
  have X : VX K cX12_ruleOf 3 wsX12_ruleOf RX12 := X
  show V K 3 0 0 N sh ad M L R [(0, .ref (ad 53)), (1, .int (iz s))] [] 0
  have hT1 := hT.1
  have hT2 := hT.2.1
  refine v_iconst X dX12_ruleOf_0 ?_
  refine v_istore_n X [(2, .int (iz 0)), (0, .ref (ad 53)), (1, .int (iz s))] dX12_ruleOf_1 rfl (by decide) rfl ?_
  have hl1 : ∀ (n3 : Nat) (i : Int) (j : Nat) (g : Int → Int), (i = (j : Int)) → (i ≤ M 61 (M 53 18)) → (firstN (mP M s) j = -1) → (16 - i).toNat < n3 → V K 3 0 0 N sh ad (mrow M 95 g) L R [(0, .ref (ad 53)), (1, .int (iz s)), (2, .int (iz i))] [] 2 := by
    intro n3
    induction n3 with
    | zero => intro i j g ei hi hno hn4; exact absurd hn4 (Nat.not_lt_zero _)
    | succ n3 ih2 =>
      intro i j g ei hi hno hn4
      refine v_iload_n X 2 dX12_ruleOf_2 rfl rfl ?_
      refine v_aload_n X 0 dX12_ruleOf_3 rfl rfl ?_
      refine gt_X12_rules X iwX12 (Std.lt hS rfl) (Std.k hS rfl rfl) (List.mem_cons_of_mem _ bw_7_23) dX12_ruleOf_4 61 (Std.r hS 20 rfl) ?_
      refine v_aload_n X 0 dX12_ruleOf_7 rfl rfl ?_
      refine gt_X12_live X iwX12 (Std.lt hS rfl) (Std.k hS rfl rfl) (List.mem_cons_of_mem _ bw_19_15) dX12_ruleOf_8 (M 53 18) rfl (fun hr5 => ?_)
      refine v_iald X (M 61 (M 53 18)) (Std.lt hS rfl) (Std.at hS rfl rfl) (by omega) (by omega) dX12_ruleOf_11 rfl (fun hr6 => ?_)
      refine v_icmp_ge X 57 dX12_ruleOf_12 (by decide) ⟨by omega, by omega⟩ ⟨by omega, by omega⟩ (fun u7 => ?_) (fun u7 => ?_)
      · skip
        refine v_iconst X dX12_ruleOf_57 ?_
        refine hret _ _ _ _ _ _ _ _ _ _ _ (some (.int (iz (-1)))) dX12_ruleOf_58 ⟨rfl, _, rfl⟩ (by decide) (by decide) (fun hmok => ?_)
        refine ⟨rfl, rfl, rfl, rfl, rfl, (-1), rfl, ⟨by decide, by decide⟩, ?_⟩
        try dsimp only
        refine ⟨?_, ⟨_, rfl⟩⟩
        unfold mRule
        rw [show (M 61 (M 53 18)).toNat = j by omega, hno]
      · skip
        refine v_aload_n X 0 dX12_ruleOf_15 rfl rfl ?_
        refine gt_X12_ruleSort X iwX12 (Std.lt hS rfl) (Std.k hS rfl rfl) (List.mem_cons_of_mem _ bw_8_0) dX12_ruleOf_16 62 (Std.r hS 21 rfl) ?_
        refine v_bipush X dX12_ruleOf_19 (by decide) ?_
        refine v_aload_n X 0 dX12_ruleOf_21 rfl rfl ?_
        refine gt_X12_live X iwX12 (Std.lt hS rfl) (Std.k hS rfl rfl) (List.mem_cons_of_mem _ bw_19_15) dX12_ruleOf_22 (M 53 18) rfl (fun hr8 => ?_)
        refine v_imul X dX12_ruleOf_25 ?_
        refine v_iload_n X 2 dX12_ruleOf_26 rfl rfl ?_
        refine v_iadd X dX12_ruleOf_27 ?_
        refine v_iald X (M 62 ((16 * (M 53 18)) + i)) (Std.lt hS rfl) (Std.at hS rfl rfl) (by omega) (by omega) dX12_ruleOf_28 rfl (fun hr9 => ?_)
        refine v_iload_n X 1 dX12_ruleOf_29 rfl rfl ?_
        refine v_icmp_ne X 51 dX12_ruleOf_30 (by decide) ⟨by omega, by omega⟩ ⟨by omega, by omega⟩ (fun u10 => ?_) (fun u10 => ?_)
        · skip
          refine v_iinc X 2 [(2, .int (iz (i + 1))), (0, .ref (ad 53)), (1, .int (iz s))] dX12_ruleOf_51 rfl (by decide) rfl ?_
          refine v_goto X 2 dX12_ruleOf_54 (by decide) ?_
          refine v_lv [1, 2, 0] rfl ?_
          refine v_mem (M' := (mrow M 95 g)) (by rfl) rfl rfl ?_
          exact ih2 (i + 1) (j + 1) g (by omega) (by omega) (by subst ei; exact firstN_miss hno (by unfold mP; rw [Bool.and_eq_false_iff]; exact Or.inl (decide_eq_false (by omega)))) (by omega)
        · skip
          refine v_aload_n X 0 dX12_ruleOf_33 rfl rfl ?_
          refine v_bipush X dX12_ruleOf_34 (by decide) ?_
          refine v_aload_n X 0 dX12_ruleOf_36 rfl rfl ?_
          refine gt_X12_live X iwX12 (Std.lt hS rfl) (Std.k hS rfl rfl) (List.mem_cons_of_mem _ bw_19_15) dX12_ruleOf_37 (M 53 18) rfl (fun hr11 => ?_)
          refine v_imul X dX12_ruleOf_40 ?_
          refine v_iload_n X 2 dX12_ruleOf_41 rfl rfl ?_
          refine v_iadd X dX12_ruleOf_42 ?_
          refine v_callV X [.int (iz ((16 * (M 53 18)) + i))] hRm (c_X12_holds _ _ _ hS ((16 * (M 53 18)) + i) (by omega) (show 0 ≤ M 53 18 ∧ M 53 18 ≤ 1 by omega) (hT.2.2 i (by omega) (by omega)).1) (gV bw_40_6 bw_40_7 bw_40_8 bw_1_5 bw_40_9) rfl ddX12_holds (by decide) (Std.lt hS rfl) (Std.k hS rfl rfl) ⟨rfl, by decide⟩ (Nat.le_of_ble_eq_true rfl) dX12_ruleOf_43 (k_eB (fun M12 e13 => ?_) (fun M12 e13 => ?_))
          · skip
            obtain ⟨e13p, g14, e13m⟩ := e13
            replace e13m : M12 = (mrow M 95 g14) := e13m.trans (by first | rfl | exact mrow_mrow _ _ _ _)
            subst e13m
            replace e13p : mHold M ((16 * (M 53 18)) + i) = true := e13p
            refine v_if_eq X 51 dX12_ruleOf_46 (by decide) ⟨by decide, by decide⟩ (fun q => absurd q (by decide)) (fun _ => ?_)
            refine v_iload_n X 2 dX12_ruleOf_49 rfl rfl ?_
            refine hret _ _ _ _ _ _ _ _ _ _ _ (some (.int (iz i))) dX12_ruleOf_50 ⟨rfl, _, rfl⟩ (by decide) (by decide) (fun hmok => ?_)
            refine ⟨rfl, rfl, rfl, rfl, rfl, i, rfl, ⟨by omega, by omega⟩, ?_⟩
            try dsimp only
            refine ⟨?_, ⟨_, rfl⟩⟩
            unfold mRule
            subst ei
            rw [firstN_hit hno (by unfold mP; rw [Bool.and_eq_true]; exact ⟨decide_eq_true (by omega), e13p⟩) (by omega)]
          · skip
            obtain ⟨e13p, g14, e13m⟩ := e13
            replace e13m : M12 = (mrow M 95 g14) := e13m.trans (by first | rfl | exact mrow_mrow _ _ _ _)
            subst e13m
            replace e13p : mHold M ((16 * (M 53 18)) + i) = false := e13p
            refine v_if_eq X 51 dX12_ruleOf_46 (by decide) ⟨by decide, by decide⟩ (fun _ => ?_) (fun q => absurd (by decide) q)
            refine v_iinc X 2 [(2, .int (iz (i + 1))), (0, .ref (ad 53)), (1, .int (iz s))] dX12_ruleOf_51 rfl (by decide) rfl ?_
            refine v_goto X 2 dX12_ruleOf_54 (by decide) ?_
            refine v_lv [1, 2, 0] rfl ?_
            refine v_mem (M' := (mrow M 95 g14)) (by rfl) rfl rfl ?_
            exact ih2 (i + 1) (j + 1) g14 (by omega) (by omega) (by subst ei; exact firstN_miss hno (by unfold mP; rw [Bool.and_eq_false_iff]; exact Or.inr e13p)) (by omega)
  refine v_lv [1, 2, 0] rfl ?_
  refine v_mem (M' := (mrow M 95 (M 95))) (by exact (mrow_self M 95).symm) rfl rfl ?_
  exact hl1 _ 0 0 (M 95) (by omega) (by omega) (rfl) (Nat.lt_succ_self _)

-- heldOf
set_option maxHeartbeats 4000000 in
set_option maxRecDepth 100000 in
theorem c_X12_heldOf (l : Launch) (D : va_G) (cy : Nat → ClassId) {N : Nat} {sh : MS} {ad : Nat → Nat} {M L : MI} {R : MR} (hS : Std N sh R) (s : Int) (hs : 1 ≤ s ∧ s ≤ 2) (hT : mTxt M) : Ctr l D cy yX12_heldOf wsX12_heldOf ({ frames := 3, cells := 0, slots := 0, locals := 74 } : Room) N sh ad M L R [.ref (ad 53), .int (iz s)] (eI N sh ad L R (fun r M' => r = mHeld M s ∧ ∃ g : Int → Int, M' = mrow M 95 g)) := by
  refine Ctr.ofI (by decide) rfl (Nat.le_of_ble_eq_true rfl) ?_
  intro K hKl hKd hRm hnm X hret
  have X : VX K cX12_heldOf 4 wsX12_heldOf RX12 := X
  show V K 4 0 0 N sh ad M L R [(0, .ref (ad 53)), (1, .int (iz s))] [] 0
  have hT1 := hT.1
  have hT2 := hT.2.1
  refine v_aload_n X 0 dX12_heldOf_0 rfl rfl ?_
  refine v_iload_n X 1 dX12_heldOf_1 rfl rfl ?_
  refine v_callV X [.int (iz s)] hRm (c_X12_ruleOf _ _ _ hS s ⟨by omega, by omega⟩ hT) (gV bw_40_2 bw_40_3 bw_40_4 bw_1_5 bw_40_5) rfl ddX12_ruleOf (by decide) (Std.lt hS rfl) (Std.k hS rfl rfl) ⟨rfl, by decide⟩ (Nat.le_of_ble_eq_true rfl) dX12_heldOf_2 (k_eI (fun r1 M2 hr3 e4 => ?_))
  obtain ⟨e4p, g5, e4m⟩ := e4
  replace e4m : M2 = (mrow M 95 g5) := e4m.trans (by first | rfl | exact mrow_mrow _ _ _ _)
  subst e4m
  replace e4p : r1 = mRule M s := e4p
  refine v_istore_n X [(2, .int (iz r1)), (0, .ref (ad 53)), (1, .int (iz s))] dX12_heldOf_5 rfl (by decide) rfl ?_
  refine v_iload_n X 0 dX12_heldOf_6 rfl rfl ?_
  refine v_iconst X dX12_heldOf_7 ?_
  refine v_icmp_ne X 13 dX12_heldOf_8 (by decide) ⟨by omega, by omega⟩ ⟨by decide, by decide⟩ (fun u6 => ?_) (fun u6 => ?_)
  · skip
    have hy := firstN_yes (p := mP M s) (n := (M 61 (M 53 18)).toNat) (by show mRule M s ≠ -1; omega)
    rw [show firstN (mP M s) (M 61 (M 53 18)).toNat = r1 from e4p.symm] at hy
    have hy2 : M 62 (16 * M 53 18 + r1) = s := by have := hy.2.2; unfold mP at this; rw [Bool.and_eq_true] at this; exact of_decide_eq_true this.1
    have hw := (hT.2.2 r1 (by omega) (by omega)).2 (by omega)
    refine v_aload_n X 1 dX12_heldOf_13 rfl rfl ?_
    refine v_aload_n X 1 dX12_heldOf_14 rfl rfl ?_
    refine gt_X12_ruleFrom X iwX12 (Std.lt hS rfl) (Std.k hS rfl rfl) (List.mem_cons_of_mem _ bw_8_1) dX12_heldOf_15 63 (Std.r hS 22 rfl) ?_
    refine v_bipush X dX12_heldOf_18 (by decide) ?_
    refine v_aload_n X 1 dX12_heldOf_20 rfl rfl ?_
    refine gt_X12_live X iwX12 (Std.lt hS rfl) (Std.k hS rfl rfl) (List.mem_cons_of_mem _ bw_19_15) dX12_heldOf_21 (M 53 18) rfl (fun hr7 => ?_)
    refine v_imul X dX12_heldOf_24 ?_
    refine v_iload_n X 0 dX12_heldOf_25 rfl rfl ?_
    refine v_iadd X dX12_heldOf_26 ?_
    refine v_iald X (M 63 ((16 * (M 53 18)) + r1)) (Std.lt hS rfl) (Std.at hS rfl rfl) (by omega) (by omega) dX12_heldOf_27 rfl (fun hr8 => ?_)
    refine v_aload_n X 1 dX12_heldOf_28 rfl rfl ?_
    refine gt_X12_ruleTo X iwX12 (Std.lt hS rfl) (Std.k hS rfl rfl) (List.mem_cons_of_mem _ bw_8_2) dX12_heldOf_29 64 (Std.r hS 23 rfl) ?_
    refine v_bipush X dX12_heldOf_32 (by decide) ?_
    refine v_aload_n X 1 dX12_heldOf_34 rfl rfl ?_
    refine gt_X12_live X iwX12 (Std.lt hS rfl) (Std.k hS rfl rfl) (List.mem_cons_of_mem _ bw_19_15) dX12_heldOf_35 (M 53 18) rfl (fun hr9 => ?_)
    refine v_imul X dX12_heldOf_38 ?_
    refine v_iload_n X 0 dX12_heldOf_39 rfl rfl ?_
    refine v_iadd X dX12_heldOf_40 ?_
    refine v_iald X (M 64 ((16 * (M 53 18)) + r1)) (Std.lt hS rfl) (Std.at hS rfl rfl) (by omega) (by omega) dX12_heldOf_41 rfl (fun hr10 => ?_)
    refine v_callV X [.int (iz (M 63 ((16 * (M 53 18)) + r1))), .int (iz (M 64 ((16 * (M 53 18)) + r1)))] hRm (c_X12_value _ _ _ hS (M 63 ((16 * (M 53 18)) + r1)) (M 64 ((16 * (M 53 18)) + r1)) hw) (gV bw_40_10 bw_40_11 bw_40_12 bw_1_5 bw_40_13) rfl ddX12_value (by decide) (Std.lt hS rfl) (Std.k hS rfl rfl) ⟨rfl, by decide⟩ (Nat.le_of_ble_eq_true rfl) dX12_heldOf_42 (k_eI (fun r11 M12 hr13 e14 => ?_))
    obtain ⟨e14p, g15, e14m⟩ := e14
    replace e14m : M12 = (mrow M 95 g15) := e14m.trans (by first | rfl | exact mrow_mrow _ _ _ _)
    subst e14m
    replace e14p : r11 = mVal (M 73) (M 74) (M 94) (M 63 ((16 * (M 53 18)) + r1)) (M 64 ((16 * (M 53 18)) + r1)) := e14p
    refine v_istore_n X [(3, .int (iz r11)), (2, .int (iz r1)), (0, .ref (ad 53)), (1, .int (iz s))] dX12_heldOf_45 rfl (by decide) rfl ?_
    refine v_iload_n X 0 dX12_heldOf_46 rfl rfl ?_
    refine v_if_ge X 54 dX12_heldOf_47 (by decide) ⟨by omega, by omega⟩ (fun u16 => ?_) (fun u16 => ?_)
    · skip
      refine v_iload_n X 0 dX12_heldOf_54 rfl rfl ?_
      refine v_bipush X dX12_heldOf_55 (by decide) ?_
      refine v_icmp_le X 65 dX12_heldOf_57 (by decide) ⟨by omega, by omega⟩ ⟨by decide, by decide⟩ (fun u17 => ?_) (fun u17 => ?_)
      · skip
        refine v_iload_n X 0 dX12_heldOf_65 rfl rfl ?_
        refine hret _ _ _ _ _ _ _ _ _ _ _ (some (.int (iz r11))) dX12_heldOf_66 ⟨rfl, _, rfl⟩ (by decide) (by decide) (fun hmok => ?_)
        refine ⟨rfl, rfl, rfl, rfl, rfl, r11, rfl, ⟨by omega, by omega⟩, ?_⟩
        try dsimp only
        refine ⟨?_, ⟨_, rfl⟩⟩
        unfold mHeld
        rw [← e4p]
        rw [if_neg (by omega), ← e14p]
        omega
      · skip
        refine v_bipush X dX12_heldOf_60 (by decide) ?_
        refine v_goto X 66 dX12_heldOf_62 (by decide) ?_
        refine hret _ _ _ _ _ _ _ _ _ _ _ (some (.int (iz 30))) dX12_heldOf_66 ⟨rfl, _, rfl⟩ (by decide) (by decide) (fun hmok => ?_)
        refine ⟨rfl, rfl, rfl, rfl, rfl, 30, rfl, ⟨by decide, by decide⟩, ?_⟩
        try dsimp only
        refine ⟨?_, ⟨_, rfl⟩⟩
        unfold mHeld
        rw [← e4p]
        rw [if_neg (by omega), ← e14p]
        omega
    · skip
      refine v_iconst X dX12_heldOf_50 ?_
      refine v_goto X 66 dX12_heldOf_51 (by decide) ?_
      refine hret _ _ _ _ _ _ _ _ _ _ _ (some (.int (iz 0))) dX12_heldOf_66 ⟨rfl, _, rfl⟩ (by decide) (by decide) (fun hmok => ?_)
      refine ⟨rfl, rfl, rfl, rfl, rfl, 0, rfl, ⟨by decide, by decide⟩, ?_⟩
      try dsimp only
      refine ⟨?_, ⟨_, rfl⟩⟩
      unfold mHeld
      rw [← e4p]
      rw [if_neg (by omega), ← e14p]
      omega
  · skip
    refine v_iconst X dX12_heldOf_11 ?_
    refine hret _ _ _ _ _ _ _ _ _ _ _ (some (.int (iz 0))) dX12_heldOf_12 ⟨rfl, _, rfl⟩ (by decide) (by decide) (fun hmok => ?_)
    refine ⟨rfl, rfl, rfl, rfl, rfl, 0, rfl, ⟨by decide, by decide⟩, ?_⟩
    try dsimp only
    refine ⟨?_, ⟨_, rfl⟩⟩
    unfold mHeld
    rw [← e4p]
    rw [if_pos (by omega)]

def ask9 (f : Int → Int) (x0 x1 x2 x3 x4 x5 x6 x7 x8 : Int) : Int → Int := fun z => if z = 0 then x0 else if z = 1 then x1 else if z = 2 then x2 else if z = 3 then x3 else if z = 4 then x4 else if z = 5 then x5 else if z = 6 then x6 else if z = 7 then x7 else if z = 8 then x8 else f z
theorem ask9_eq (M : MI) (o : Nat) (x0 x1 x2 x3 x4 x5 x6 x7 x8 : Int) : mu (mu (mu (mu (mu (mu (mu (mu (mu M o 0 x0) o 1 x1) o 2 x2) o 3 x3) o 4 x4) o 5 x5) o 6 x6) o 7 x7) o 8 x8 = mrow M o (ask9 (M o) x0 x1 x2 x3 x4 x5 x6 x7 x8) := by
  funext a b
  by_cases h : a = o
  · subst h
    simp only [mu, mrow, ask9, if_true]
    by_cases h8 : b = 8
    · subst h8; rfl
    by_cases h7 : b = 7
    · subst h7; rfl
    by_cases h6 : b = 6
    · subst h6; rfl
    by_cases h5 : b = 5
    · subst h5; rfl
    by_cases h4 : b = 4
    · subst h4; rfl
    by_cases h3 : b = 3
    · subst h3; rfl
    by_cases h2 : b = 2
    · subst h2; rfl
    by_cases h1 : b = 1
    · subst h1; rfl
    by_cases h0 : b = 0
    · subst h0; rfl
    simp only [h0, h1, h2, h3, h4, h5, h6, h7, h8, if_false]
  · simp only [mu, mrow, h, if_false]
theorem c_X12_asks2 (l : Launch) (D : va_G) (cy : Nat → ClassId) {N : Nat} {sh : MS} {ad : Nat → Nat} {M L : MI} {R : MR} (hS : Std N sh R) (a m q s l2 : Int) (ha : 0 ≤ a ∧ a < 6) (hm : 0 ≤ m ∧ m < 240) (hq : inR q) (hs : inR s) (hl : inR l2) : Ctr l D cy yX12_asks wsX12_asks ({ frames := 0, cells := 0, slots := 0, locals := 0 } : Room) N sh ad M L R [.ref (ad 53), .int (iz a), .int (iz m), .int (iz q), .int (iz s), .int (iz l2)] (eV N sh ad L R (fun M' => M' = mrow M 94 (ask9 (M 94) a (M 76 a) q s (M 91 m) m (M 53 51) l2 (M 78 a)))) :=
  (c_X12_asks l D cy hS a m q s l2 ha hm hq hs hl).mono (fun rv N' sh' ad' M' L' R' h => ⟨h.1, h.2.1, h.2.2.1, h.2.2.2.1, h.2.2.2.2.1, h.2.2.2.2.2.1, h.2.2.2.2.2.2.trans (ask9_eq M 94 _ _ _ _ _ _ _ _ _)⟩)

-- out
set_option maxHeartbeats 4000000 in
set_option maxRecDepth 100000 in
theorem c_X12_out (l : Launch) (D : va_G) (cy : Nat → ClassId) {N : Nat} {sh : MS} {ad : Nat → Nat} {M L : MI} {R : MR} (hS : Std N sh R) (a : Int) (m : Int) (n : Int) (ha : inR a) (hm : inR m) (hn : inR n) (hB : mBnd M) (hT : mTxt M) (hF : ∀ k : Int, 0 ≤ k → k < M 53 53 → FactOk (M 88 k) (M 89 k) (M 90 k)) : Ctr l D cy yX12_out wsX12_out ({ frames := 3, cells := 0, slots := 0, locals := 74 } : Room) N sh ad M L R [.ref (ad 53), .int (iz a), .int (iz m), .int (iz n)] (eI N sh ad L R (fun r M' => r = (if 0 ≤ a ∧ a < M 53 37 ∧ 0 ≤ m ∧ m < 240 ∧ 0 ≤ n ∧ n ≤ M 53 53 then (if mLen M a (bsAt (M 88) (M 89) (M 90) n.toNat m.toNat) = 0 then -1 else mRule (mrow M 94 (ask9 (M 94) a (M 76 a) (-1) 0 (bsAt (M 88) (M 89) (M 90) n.toNat m.toNat) m (M 53 51) (mLen M a (bsAt (M 88) (M 89) (M 90) n.toNat m.toNat)) (M 78 a))) 0) else -1) ∧ ∀ i : Nat, ¬ (91 ≤ i ∧ i ≤ 95) → M' i = M i)) := by
  refine Ctr.ofI (by decide) rfl (Nat.le_of_ble_eq_true rfl) ?_
  intro K hKl hKd hRm hnm X hret
  have X : VX K cX12_out 5 wsX12_out RX12 := X
  show V K 5 0 0 N sh ad M L R [(0, .ref (ad 53)), (1, .int (iz a)), (2, .int (iz m)), (3, .int (iz n))] [] 0
  have b1 := hB.1
  have b5 := hB.2.2.2.2.1
  refine v_aload_n X 0 dX12_out_0 rfl rfl ?_
  refine v_iload_n X 1 dX12_out_1 rfl rfl ?_
  refine v_callV X [.int (iz a)] hRm (c_X12_isAct _ _ _ hS a ⟨by omega, by omega⟩) (gV bw_25_1 bw_25_2 bw_25_3 bw_1_5 bw_25_4) rfl ddX12_isAct (by decide) (Std.lt hS rfl) (Std.k hS rfl rfl) ⟨rfl, by decide⟩ (Nat.le_of_ble_eq_true rfl) dX12_out_2 (k_pB (fun b1 => ?_) (fun b1 => ?_))
  · skip
    refine v_if_eq X 23 dX12_out_5 (by decide) ⟨by decide, by decide⟩ (fun q => absurd q (by decide)) (fun _ => ?_)
    refine v_iload_n X 2 dX12_out_8 rfl rfl ?_
    refine v_callS X [.int (iz m)] hRm (c_X12_isMinute _ _ _ m ⟨by omega, by omega⟩) (gS bw_27_10 bw_27_11 bw_1_5 bw_27_12) rfl ddX12_isMinute (by decide) (Nat.le_of_ble_eq_true rfl) dX12_out_9 (k_pB (fun b2 => ?_) (fun b2 => ?_))
    · skip
      refine v_if_eq X 23 dX12_out_12 (by decide) ⟨by decide, by decide⟩ (fun q => absurd q (by decide)) (fun _ => ?_)
      refine v_aload_n X 0 dX12_out_15 rfl rfl ?_
      refine v_iload_n X 3 dX12_out_16 rfl rfl ?_
      refine v_callV X [.int (iz n)] hRm (c_X12_isKnown _ _ _ hS n ⟨by omega, by omega⟩) (gV bw_32_10 bw_32_11 bw_32_12 bw_1_5 bw_32_13) rfl ddX12_isKnown (by decide) (Std.lt hS rfl) (Std.k hS rfl rfl) ⟨rfl, by decide⟩ (Nat.le_of_ble_eq_true rfl) dX12_out_17 (k_pB (fun b3 => ?_) (fun b3 => ?_))
      · skip
        refine v_if_ne X 25 dX12_out_20 (by decide) ⟨by decide, by decide⟩ (fun _ => ?_) (fun q => absurd (by decide) q)
        refine v_aload_n X 0 dX12_out_25 rfl rfl ?_
        refine v_iload_n X 3 dX12_out_26 rfl rfl ?_
        refine v_callV X [.int (iz n)] hRm (c_X12_knows _ _ _ hS n (by omega) (fun k q1 q2 => hF k q1 (by omega))) (gV bw_32_14 bw_32_15 bw_32_16 bw_1_5 bw_32_17) rfl ddX12_knows (by decide) (Std.lt hS rfl) (Std.k hS rfl rfl) ⟨rfl, by decide⟩ (Nat.le_of_ble_eq_true rfl) dX12_out_27 (k_eV (fun M5 e4 => ?_))
        replace e4 : M5 = (mrow (mrow (mrow M 91 (bsRow (M 88) (M 89) (M 90) n.toNat 240 (M 91))) 92 (shRow (M 88) (M 89) (M 90) n.toNat (M 92))) 93 (rdRow (M 88) (M 89) (M 90) n.toNat (M 93))) := e4
        subst e4
        refine v_aload_n X 0 dX12_out_30 rfl rfl ?_
        refine v_iload_n X 1 dX12_out_31 rfl rfl ?_
        refine v_aload_n X 0 dX12_out_32 rfl rfl ?_
        refine gt_X12_bases X iwX12 (Std.lt hS rfl) (Std.k hS rfl rfl) (List.mem_cons_of_mem _ bw_9_5) dX12_out_33 91 (Std.r hS 57 rfl) ?_
        refine v_iload_n X 2 dX12_out_36 rfl rfl ?_
        refine v_iald X ((bsRow (M 88) (M 89) (M 90) n.toNat 240 (M 91)) m) (Std.lt hS rfl) (Std.at hS rfl rfl) (by omega) (by omega) dX12_out_37 rfl (fun hr6 => ?_)
        have hbs : bsRow (M 88) (M 89) (M 90) n.toNat 240 (M 91) m = (bsAt (M 88) (M 89) (M 90) n.toNat m.toNat) := by unfold bsRow; rw [if_pos (by omega)]
        have hbi := bsAt_in (S := M 88) (A := M 89) (B := M 90) (n := n.toNat) (fun k q1 q2 => hF k q1 (by omega)) m.toNat
        refine v_callV X [.int (iz a), .int (iz ((bsRow (M 88) (M 89) (M 90) n.toNat 240 (M 91)) m))] hRm (c_X12_lengthOf _ _ _ hS a ((bsRow (M 88) (M 89) (M 90) n.toNat 240 (M 91)) m) (by omega) ⟨by omega, by omega⟩ hB) (gV bw_30_19 bw_30_20 bw_30_21 bw_1_5 bw_30_22) rfl ddX12_lengthOf (by decide) (Std.lt hS rfl) (Std.k hS rfl rfl) ⟨rfl, by decide⟩ (Nat.le_of_ble_eq_true rfl) dX12_out_38 (k_pI (fun r7 hr8 e9 => ?_))
        replace e9 : r7 = mLen M a (bsRow (M 88) (M 89) (M 90) n.toNat 240 (M 91) m) := e9
        refine v_istore X [(4, .int (iz r7)), (0, .ref (ad 53)), (1, .int (iz a)), (2, .int (iz m)), (3, .int (iz n))] dX12_out_41 (by decide) rfl ?_
        refine v_iload X 0 dX12_out_43 rfl ?_
        refine v_if_ne X 50 dX12_out_45 (by decide) ⟨by omega, by omega⟩ (fun u10 => ?_) (fun u10 => ?_)
        · skip
          refine v_aload_n X 1 dX12_out_50 rfl rfl ?_
          refine v_iload_n X 2 dX12_out_51 rfl rfl ?_
          refine v_iload_n X 3 dX12_out_52 rfl rfl ?_
          refine v_iconst X dX12_out_53 ?_
          refine v_iconst X dX12_out_54 ?_
          refine v_iload X 0 dX12_out_55 rfl ?_
          refine v_callV X [.int (iz a), .int (iz m), .int (iz (-1)), .int (iz 0), .int (iz r7)] hRm (c_X12_asks2 _ _ _ hS a m (-1) 0 r7 (by omega) (by omega) ⟨by omega, by omega⟩ ⟨by omega, by omega⟩ ⟨by omega, by omega⟩) (gV bw_39_18 bw_39_19 bw_39_20 bw_1_5 bw_39_21) rfl ddX12_asks (by decide) (Std.lt hS rfl) (Std.k hS rfl rfl) ⟨rfl, by decide⟩ (Nat.le_of_ble_eq_true rfl) dX12_out_57 (k_eV (fun M12 e11 => ?_))
          replace e11 : M12 = (mrow (mrow (mrow (mrow M 91 (bsRow (M 88) (M 89) (M 90) n.toNat 240 (M 91))) 92 (shRow (M 88) (M 89) (M 90) n.toNat (M 92))) 93 (rdRow (M 88) (M 89) (M 90) n.toNat (M 93))) 94 (ask9 (M 94) a (M 76 a) (-1) 0 ((bsRow (M 88) (M 89) (M 90) n.toNat 240 (M 91)) m) m (M 53 51) r7 (M 78 a))) := e11
          subst e11
          refine v_aload_n X 1 dX12_out_60 rfl rfl ?_
          refine v_iconst X dX12_out_61 ?_
          refine v_callV X [.int (iz 0)] hRm (c_X12_ruleOf _ _ _ hS 0 ⟨by decide, by decide⟩ hT) (gV bw_40_2 bw_40_3 bw_40_4 bw_1_5 bw_40_5) rfl ddX12_ruleOf (by decide) (Std.lt hS rfl) (Std.k hS rfl rfl) ⟨rfl, by decide⟩ (Nat.le_of_ble_eq_true rfl) dX12_out_62 (k_eI (fun r13 M14 hr15 e16 => ?_))
          obtain ⟨e16p, g17, e16m⟩ := e16
          replace e16m : M14 = (mrow (mrow (mrow (mrow (mrow M 91 (bsRow (M 88) (M 89) (M 90) n.toNat 240 (M 91))) 92 (shRow (M 88) (M 89) (M 90) n.toNat (M 92))) 93 (rdRow (M 88) (M 89) (M 90) n.toNat (M 93))) 94 (ask9 (M 94) a (M 76 a) (-1) 0 ((bsRow (M 88) (M 89) (M 90) n.toNat 240 (M 91)) m) m (M 53 51) r7 (M 78 a))) 95 g17) := e16m.trans (by first | rfl | exact mrow_mrow _ _ _ _)
          subst e16m
          replace e16p : r13 = mRule (mrow (mrow (mrow (mrow M 91 (bsRow (M 88) (M 89) (M 90) n.toNat 240 (M 91))) 92 (shRow (M 88) (M 89) (M 90) n.toNat (M 92))) 93 (rdRow (M 88) (M 89) (M 90) n.toNat (M 93))) 94 (ask9 (M 94) a (M 76 a) (-1) 0 ((bsRow (M 88) (M 89) (M 90) n.toNat 240 (M 91)) m) m (M 53 51) r7 (M 78 a))) 0 := e16p
          refine hret _ _ _ _ _ _ _ _ _ _ _ (some (.int (iz r13))) dX12_out_65 ⟨rfl, _, rfl⟩ (by decide) (by decide) (fun hmok => ?_)
          refine ⟨rfl, rfl, rfl, rfl, rfl, r13, rfl, ⟨by omega, by omega⟩, ?_⟩
          try dsimp only
          refine ⟨?_, ?_⟩
          · rw [if_pos (by omega), ← hbs, if_neg (by rw [← e9]; omega), ← e9]
            exact e16p
          · intro i hi
            repeat rw [mrow_i _ _ (by omega)]
        · skip
          refine v_iconst X dX12_out_48 ?_
          refine hret _ _ _ _ _ _ _ _ _ _ _ (some (.int (iz (-1)))) dX12_out_49 ⟨rfl, _, rfl⟩ (by decide) (by decide) (fun hmok => ?_)
          refine ⟨rfl, rfl, rfl, rfl, rfl, (-1), rfl, ⟨by decide, by decide⟩, ?_⟩
          try dsimp only
          refine ⟨?_, ?_⟩
          · rw [if_pos (by omega), ← hbs, if_pos (by rw [← e9]; omega)]
          · intro i hi
            repeat rw [mrow_i _ _ (by omega)]
      · skip
        refine v_if_ne X 25 dX12_out_20 (by decide) ⟨by decide, by decide⟩ (fun q => absurd q (by decide)) (fun _ => ?_)
        refine v_iconst X dX12_out_23 ?_
        refine hret _ _ _ _ _ _ _ _ _ _ _ (some (.int (iz (-1)))) dX12_out_24 ⟨rfl, _, rfl⟩ (by decide) (by decide) (fun hmok => ?_)
        refine ⟨rfl, rfl, rfl, rfl, rfl, (-1), rfl, ⟨by decide, by decide⟩, ?_⟩
        try dsimp only
        refine ⟨?_, fun _ _ => rfl⟩
        rw [if_neg (by omega)]
    · skip
      refine v_if_eq X 23 dX12_out_12 (by decide) ⟨by decide, by decide⟩ (fun _ => ?_) (fun q => absurd (by decide) q)
      refine v_iconst X dX12_out_23 ?_
      refine hret _ _ _ _ _ _ _ _ _ _ _ (some (.int (iz (-1)))) dX12_out_24 ⟨rfl, _, rfl⟩ (by decide) (by decide) (fun hmok => ?_)
      refine ⟨rfl, rfl, rfl, rfl, rfl, (-1), rfl, ⟨by decide, by decide⟩, ?_⟩
      try dsimp only
      refine ⟨?_, fun _ _ => rfl⟩
      rw [if_neg (by omega)]
  · skip
    refine v_if_eq X 23 dX12_out_5 (by decide) ⟨by decide, by decide⟩ (fun _ => ?_) (fun q => absurd (by decide) q)
    refine v_iconst X dX12_out_23 ?_
    refine hret _ _ _ _ _ _ _ _ _ _ _ (some (.int (iz (-1)))) dX12_out_24 ⟨rfl, _, rfl⟩ (by decide) (by decide) (fun hmok => ?_)
    refine ⟨rfl, rfl, rfl, rfl, rfl, (-1), rfl, ⟨by decide, by decide⟩, ?_⟩
    try dsimp only
    refine ⟨?_, fun _ _ => rfl⟩
    rw [if_neg (by omega)]

