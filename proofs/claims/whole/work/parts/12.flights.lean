/-! FLIGHTS: object o, its rows order o+1, takeOff o+2, begin o+3, minutes o+4, landing o+5 -/
def lastL (f : Int → Int) : Int := max (max (max (max (max (max (-1) (f 0)) (f 1)) (f 2)) (f 3)) (f 4)) (f 5)
def sameN (f g : Int → Int) : Nat → Int
  | 0 => 0
  | n + 1 => sameN f g n + (if f (n : Int) ≠ -1 ∧ f (n : Int) = g (n : Int) then 1 else 0)
def sameB (f g : Int → Int) (i : Int) : Int := sameN f g i.toNat
theorem sameB_s (f g : Int → Int) {i : Int} (h : 0 ≤ i) : sameB f g (i + 1) = sameB f g i + (if f i ≠ -1 ∧ f i = g i then 1 else 0) := by
  unfold sameB
  rw [show (i + 1).toNat = i.toNat + 1 by omega]
  show sameN f g i.toNat + _ = _
  rw [show ((i.toNat : Nat) : Int) = i by omega]
theorem sameB_0 (f g : Int → Int) : sameB f g 0 = 0 := rfl
theorem sameN_le (f g : Int → Int) : ∀ n : Nat, 0 ≤ sameN f g n ∧ sameN f g n ≤ n
  | 0 => ⟨by simp [sameN], by simp [sameN]⟩
  | n + 1 => by
    have h := sameN_le f g n
    show 0 ≤ sameN f g n + _ ∧ sameN f g n + _ ≤ _
    split <;> omega
theorem sameB_le (f g : Int → Int) {i : Int} (h : 0 ≤ i) : 0 ≤ sameB f g i ∧ sameB f g i ≤ i := by
  have := sameN_le f g i.toNat
  unfold sameB
  omega

-- Flights.clear
set_option maxHeartbeats 4000000 in
set_option maxRecDepth 100000 in
theorem c_X3_clear_35 (l : Launch) (D : va_G) (cy : Nat → ClassId) {N : Nat} {sh : MS} {ad : Nat → Nat} {M L : MI} {R : MR} (hS : Std N sh R) : Ctr l D cy yX3_clear wsX3_clear ({ frames := 1, cells := 0, slots := 0, locals := 23 } : Room) N sh ad M L R [.ref (ad 35)] (eV N sh ad L R (fun M' => M' = (mu (mu (mrow (mrow (mrow (mrow (mrow M 36 (filz (M 36) 6 (-1))) 37 (filz (M 37) 6 (-1))) 38 (filz (M 38) 6 (-1))) 39 (filz (M 39) 6 (-1))) 40 (filz (M 40) 6 (-1))) 35 5 0) 35 6 0))) := by
  refine Ctr.ofV (by decide) rfl (Nat.le_of_ble_eq_true rfl) ?_
  intro K hKl hKd hRm hnm X hret
  have X : VX K cX3_clear 1 wsX3_clear RX3 := X
  show V K 1 0 0 N sh ad M L R [(0, .ref (ad 35))] [] 0
  refine v_aload_n X 0 dX3_clear_0 rfl rfl ?_
  refine gt_X3_order X iwX3 (Std.lt hS rfl) (Std.k hS rfl rfl) (List.mem_cons_of_mem _ bw_6_21) dX3_clear_1 36 (Std.r hS 0 rfl) ?_
  refine v_iconst X dX3_clear_4 ?_
  refine v_callSO X [.ref (ad 36), .int (iz (-1))] hRm (c_J7_fill_53178 _ _ _ 36 6 (-1) (Std.lt hS rfl) (Std.at hS rfl rfl) ⟨by decide, by decide⟩ (by decide)) (gSO bw_7_8 bw_5_12 bw_5_13 bw_5_14) rfl ddJ7_fill_53178.2 (by decide) (Nat.le_of_ble_eq_true rfl) dX3_clear_5 (k_eV (fun M2 e1 => ?_))
  replace e1 : M2 = (mrow M 36 (filz (M 36) 6 (-1))) := e1
  subst e1
  refine v_aload_n X 0 dX3_clear_8 rfl rfl ?_
  refine gt_X3_takeOff X iwX3 (Std.lt hS rfl) (Std.k hS rfl rfl) (List.mem_cons_of_mem _ bw_6_22) dX3_clear_9 37 (Std.r hS 1 rfl) ?_
  refine v_iconst X dX3_clear_12 ?_
  refine v_callSO X [.ref (ad 37), .int (iz (-1))] hRm (c_J7_fill_53178 _ _ _ 37 6 (-1) (Std.lt hS rfl) (Std.at hS rfl rfl) ⟨by decide, by decide⟩ (by decide)) (gSO bw_7_8 bw_5_12 bw_5_13 bw_5_14) rfl ddJ7_fill_53178.2 (by decide) (Nat.le_of_ble_eq_true rfl) dX3_clear_13 (k_eV (fun M4 e3 => ?_))
  replace e3 : M4 = (mrow (mrow M 36 (filz (M 36) 6 (-1))) 37 (filz (M 37) 6 (-1))) := e3
  subst e3
  refine v_aload_n X 0 dX3_clear_16 rfl rfl ?_
  refine gt_X3_begin X iwX3 (Std.lt hS rfl) (Std.k hS rfl rfl) (List.mem_cons_of_mem _ bw_6_23) dX3_clear_17 38 (Std.r hS 2 rfl) ?_
  refine v_iconst X dX3_clear_20 ?_
  refine v_callSO X [.ref (ad 38), .int (iz (-1))] hRm (c_J7_fill_53178 _ _ _ 38 6 (-1) (Std.lt hS rfl) (Std.at hS rfl rfl) ⟨by decide, by decide⟩ (by decide)) (gSO bw_7_8 bw_5_12 bw_5_13 bw_5_14) rfl ddJ7_fill_53178.2 (by decide) (Nat.le_of_ble_eq_true rfl) dX3_clear_21 (k_eV (fun M6 e5 => ?_))
  replace e5 : M6 = (mrow (mrow (mrow M 36 (filz (M 36) 6 (-1))) 37 (filz (M 37) 6 (-1))) 38 (filz (M 38) 6 (-1))) := e5
  subst e5
  refine v_aload_n X 0 dX3_clear_24 rfl rfl ?_
  refine gt_X3_minutes X iwX3 (Std.lt hS rfl) (Std.k hS rfl rfl) (List.mem_cons_of_mem _ bw_7_0) dX3_clear_25 39 (Std.r hS 3 rfl) ?_
  refine v_iconst X dX3_clear_28 ?_
  refine v_callSO X [.ref (ad 39), .int (iz (-1))] hRm (c_J7_fill_53178 _ _ _ 39 6 (-1) (Std.lt hS rfl) (Std.at hS rfl rfl) ⟨by decide, by decide⟩ (by decide)) (gSO bw_7_8 bw_5_12 bw_5_13 bw_5_14) rfl ddJ7_fill_53178.2 (by decide) (Nat.le_of_ble_eq_true rfl) dX3_clear_29 (k_eV (fun M8 e7 => ?_))
  replace e7 : M8 = (mrow (mrow (mrow (mrow M 36 (filz (M 36) 6 (-1))) 37 (filz (M 37) 6 (-1))) 38 (filz (M 38) 6 (-1))) 39 (filz (M 39) 6 (-1))) := e7
  subst e7
  refine v_aload_n X 0 dX3_clear_32 rfl rfl ?_
  refine gt_X3_landing X iwX3 (Std.lt hS rfl) (Std.k hS rfl rfl) (List.mem_cons_of_mem _ bw_7_1) dX3_clear_33 40 (Std.r hS 4 rfl) ?_
  refine v_iconst X dX3_clear_36 ?_
  refine v_callSO X [.ref (ad 40), .int (iz (-1))] hRm (c_J7_fill_53178 _ _ _ 40 6 (-1) (Std.lt hS rfl) (Std.at hS rfl rfl) ⟨by decide, by decide⟩ (by decide)) (gSO bw_7_8 bw_5_12 bw_5_13 bw_5_14) rfl ddJ7_fill_53178.2 (by decide) (Nat.le_of_ble_eq_true rfl) dX3_clear_37 (k_eV (fun M10 e9 => ?_))
  replace e9 : M10 = (mrow (mrow (mrow (mrow (mrow M 36 (filz (M 36) 6 (-1))) 37 (filz (M 37) 6 (-1))) 38 (filz (M 38) 6 (-1))) 39 (filz (M 39) 6 (-1))) 40 (filz (M 40) 6 (-1))) := e9
  subst e9
  refine v_aload_n X 0 dX3_clear_40 rfl rfl ?_
  refine v_iconst X dX3_clear_41 ?_
  refine pt_X3_size X iwX3 (Std.lt hS rfl) (Std.k hS rfl rfl) (List.mem_cons_of_mem _ bw_7_6) ⟨by decide, by decide⟩ dX3_clear_42 ?_
  refine v_aload_n X 0 dX3_clear_45 rfl rfl ?_
  refine v_iconst X dX3_clear_46 ?_
  refine pt_X3_worth X iwX3 (Std.lt hS rfl) (Std.k hS rfl rfl) (List.mem_cons_of_mem _ bw_7_7) ⟨by decide, by decide⟩ dX3_clear_47 ?_
  refine hret _ _ _ _ _ _ _ _ _ _ _ none dX3_clear_50 ⟨rfl, rfl⟩ (by decide) (by decide) (fun hmok => ?_)
  refine ⟨rfl, rfl, rfl, rfl, rfl, rfl, ?_⟩
  try dsimp only
  all_goals rfl

-- Flights.has
set_option maxHeartbeats 4000000 in
set_option maxRecDepth 100000 in
theorem c_X3_has_35 (l : Launch) (D : va_G) (cy : Nat → ClassId) {N : Nat} {sh : MS} {ad : Nat → Nat} {M L : MI} {R : MR} (hS : Std N sh R) (a : Int) (ha : inR a) : Ctr l D cy yX3_has wsX3_has ({ frames := 0, cells := 0, slots := 0, locals := 0 } : Room) N sh ad M L R [.ref (ad 35), .int (iz a)] (pB N sh ad M L R (0 ≤ a ∧ a < 6 ∧ M 38 a ≠ -1)) := by
  refine Ctr.ofZ (by decide) rfl (Nat.le_of_ble_eq_true rfl) ?_
  intro K hKl hKd hRm hnm X hret
  have X : VX K cX3_has 2 wsX3_has RX3 := X
  show V K 2 0 0 N sh ad M L R [(0, .ref (ad 35)), (1, .int (iz a))] [] 0
  refine v_iload_n X 1 dX3_has_0 rfl rfl ?_
  refine v_if_lt X 24 dX3_has_1 (by decide) ⟨by omega, by omega⟩ (fun u1 => ?_) (fun u1 => ?_)
  · skip
    refine v_iconst X dX3_has_24 ?_
    refine hret _ _ _ _ _ _ _ _ _ _ _ (some (.int (iz 0))) dX3_has_25 ⟨rfl, 0, ⟨by omega, by omega⟩, rfl⟩ (by decide) (by decide) (fun hmok => ?_)
    refine ⟨rfl, rfl, rfl, rfl, rfl, rfl, 0, rfl, Or.inr ⟨rfl, ?_⟩⟩
    omega
  · skip
    refine v_iload_n X 1 dX3_has_4 rfl rfl ?_
    refine v_bipush X dX3_has_5 (by decide) ?_
    refine v_icmp_ge X 24 dX3_has_7 (by decide) ⟨by omega, by omega⟩ ⟨by decide, by decide⟩ (fun u2 => ?_) (fun u2 => ?_)
    · skip
      refine v_iconst X dX3_has_24 ?_
      refine hret _ _ _ _ _ _ _ _ _ _ _ (some (.int (iz 0))) dX3_has_25 ⟨rfl, 0, ⟨by omega, by omega⟩, rfl⟩ (by decide) (by decide) (fun hmok => ?_)
      refine ⟨rfl, rfl, rfl, rfl, rfl, rfl, 0, rfl, Or.inr ⟨rfl, ?_⟩⟩
      omega
    · skip
      refine v_aload_n X 0 dX3_has_10 rfl rfl ?_
      refine gt_X3_begin X iwX3 (Std.lt hS rfl) (Std.k hS rfl rfl) (List.mem_cons_of_mem _ bw_6_23) dX3_has_11 38 (Std.r hS 2 rfl) ?_
      refine v_iload_n X 1 dX3_has_14 rfl rfl ?_
      refine v_iald X (M 38 a) (Std.lt hS rfl) (Std.at hS rfl rfl) (by omega) (by omega) dX3_has_15 rfl (fun hr3 => ?_)
      refine v_iconst X dX3_has_16 ?_
      refine v_icmp_eq X 24 dX3_has_17 (by decide) ⟨by omega, by omega⟩ ⟨by decide, by decide⟩ (fun u4 => ?_) (fun u4 => ?_)
      · skip
        refine v_iconst X dX3_has_24 ?_
        refine hret _ _ _ _ _ _ _ _ _ _ _ (some (.int (iz 0))) dX3_has_25 ⟨rfl, 0, ⟨by omega, by omega⟩, rfl⟩ (by decide) (by decide) (fun hmok => ?_)
        refine ⟨rfl, rfl, rfl, rfl, rfl, rfl, 0, rfl, Or.inr ⟨rfl, ?_⟩⟩
        omega
      · skip
        refine v_iconst X dX3_has_20 ?_
        refine v_goto X 25 dX3_has_21 (by decide) ?_
        refine hret _ _ _ _ _ _ _ _ _ _ _ (some (.int (iz 1))) dX3_has_25 ⟨rfl, 1, ⟨by omega, by omega⟩, rfl⟩ (by decide) (by decide) (fun hmok => ?_)
        refine ⟨rfl, rfl, rfl, rfl, rfl, rfl, 1, rfl, Or.inl ⟨rfl, ?_⟩⟩
        omega

-- Flights.lastAct
set_option maxHeartbeats 4000000 in
set_option maxRecDepth 100000 in
theorem c_X3_lastAct_35 (l : Launch) (D : va_G) (cy : Nat → ClassId) {N : Nat} {sh : MS} {ad : Nat → Nat} {M L : MI} {R : MR} (hS : Std N sh R) : Ctr l D cy yX3_lastAct wsX3_lastAct ({ frames := 0, cells := 0, slots := 0, locals := 0 } : Room) N sh ad M L R [.ref (ad 35)] (pI N sh ad M L R (fun r => r = (if 0 < M 35 5 ∧ M 35 5 ≤ 6 then M 36 (M 35 5 - 1) else -1))) := by
  refine Ctr.ofI (by decide) rfl (Nat.le_of_ble_eq_true rfl) ?_
  intro K hKl hKd hRm hnm X hret
  have X : VX K cX3_lastAct 1 wsX3_lastAct RX3 := X
  show V K 1 0 0 N sh ad M L R [(0, .ref (ad 35))] [] 0
  refine v_aload_n X 0 dX3_lastAct_0 rfl rfl ?_
  refine gt_X3_size X iwX3 (Std.lt hS rfl) (Std.k hS rfl rfl) (List.mem_cons_of_mem _ bw_7_6) dX3_lastAct_1 (M 35 5) rfl (fun hr1 => ?_)
  refine v_if_le X 30 dX3_lastAct_4 (by decide) ⟨by omega, by omega⟩ (fun u2 => ?_) (fun u2 => ?_)
  · skip
    refine v_iconst X dX3_lastAct_30 ?_
    refine hret _ _ _ _ _ _ _ _ _ _ _ (some (.int (iz (-1)))) dX3_lastAct_31 ⟨rfl, _, rfl⟩ (by decide) (by decide) (fun hmok => ?_)
    refine ⟨rfl, rfl, rfl, rfl, rfl, rfl, (-1), rfl, ⟨by decide, by decide⟩, ?_⟩
    try dsimp only
    split <;> omega
  · skip
    refine v_aload_n X 0 dX3_lastAct_7 rfl rfl ?_
    refine gt_X3_size X iwX3 (Std.lt hS rfl) (Std.k hS rfl rfl) (List.mem_cons_of_mem _ bw_7_6) dX3_lastAct_8 (M 35 5) rfl (fun hr3 => ?_)
    refine v_bipush X dX3_lastAct_11 (by decide) ?_
    refine v_icmp_gt X 30 dX3_lastAct_13 (by decide) ⟨by omega, by omega⟩ ⟨by decide, by decide⟩ (fun u4 => ?_) (fun u4 => ?_)
    · skip
      refine v_iconst X dX3_lastAct_30 ?_
      refine hret _ _ _ _ _ _ _ _ _ _ _ (some (.int (iz (-1)))) dX3_lastAct_31 ⟨rfl, _, rfl⟩ (by decide) (by decide) (fun hmok => ?_)
      refine ⟨rfl, rfl, rfl, rfl, rfl, rfl, (-1), rfl, ⟨by decide, by decide⟩, ?_⟩
      try dsimp only
      split <;> omega
    · skip
      refine v_aload_n X 0 dX3_lastAct_16 rfl rfl ?_
      refine gt_X3_order X iwX3 (Std.lt hS rfl) (Std.k hS rfl rfl) (List.mem_cons_of_mem _ bw_6_21) dX3_lastAct_17 36 (Std.r hS 0 rfl) ?_
      refine v_aload_n X 0 dX3_lastAct_20 rfl rfl ?_
      refine gt_X3_size X iwX3 (Std.lt hS rfl) (Std.k hS rfl rfl) (List.mem_cons_of_mem _ bw_7_6) dX3_lastAct_21 (M 35 5) rfl (fun hr5 => ?_)
      refine v_iconst X dX3_lastAct_24 ?_
      refine v_isub X dX3_lastAct_25 ?_
      refine v_iald X (M 36 ((M 35 5) - 1)) (Std.lt hS rfl) (Std.at hS rfl rfl) (by omega) (by omega) dX3_lastAct_26 rfl (fun hr6 => ?_)
      refine v_goto X 31 dX3_lastAct_27 (by decide) ?_
      refine hret _ _ _ _ _ _ _ _ _ _ _ (some (.int (iz (M 36 ((M 35 5) - 1))))) dX3_lastAct_31 ⟨rfl, _, rfl⟩ (by decide) (by decide) (fun hmok => ?_)
      refine ⟨rfl, rfl, rfl, rfl, rfl, rfl, (M 36 ((M 35 5) - 1)), rfl, ⟨by omega, by omega⟩, ?_⟩
      try dsimp only
      split <;> omega

-- Flights.end
set_option maxHeartbeats 4000000 in
set_option maxRecDepth 100000 in
theorem c_X3_end_35 (l : Launch) (D : va_G) (cy : Nat → ClassId) {N : Nat} {sh : MS} {ad : Nat → Nat} {M L : MI} {R : MR} (hS : Std N sh R) (hE : ∀ k : Int, 0 ≤ k → k < 6 → inR (M 38 k + M 39 k)) : Ctr l D cy yX3_end wsX3_end ({ frames := 1, cells := 0, slots := 0, locals := 21 } : Room) N sh ad M L R [.ref (ad 35)] (pI N sh ad M L R (fun r => r = (fun a => if 0 ≤ a ∧ a < 6 ∧ M 38 a ≠ -1 then M 38 a + M 39 a else 0) (if 0 < M 35 5 ∧ M 35 5 ≤ 6 then M 36 (M 35 5 - 1) else -1))) := by
  refine Ctr.ofI (by decide) rfl (Nat.le_of_ble_eq_true rfl) ?_
  intro K hKl hKd hRm hnm X hret
  have X : VX K cX3_end 2 wsX3_end RX3 := X
  show V K 2 0 0 N sh ad M L R [(0, .ref (ad 35))] [] 0
  refine v_aload_n X 0 dX3_end_0 rfl rfl ?_
  refine v_callV X [] hRm (c_X3_lastAct_35 _ _ _ hS) (gV bw_36_5 bw_35_18 bw_35_19 bw_2_19 bw_35_20) rfl ddX3_lastAct (by decide) (Std.lt hS rfl) (Std.k hS rfl rfl) ⟨rfl, by decide⟩ (Nat.le_of_ble_eq_true rfl) dX3_end_1 (k_pI (fun r1 hr2 e3 => ?_))
  refine v_istore_n X [(1, .int (iz r1)), (0, .ref (ad 35))] dX3_end_4 rfl (by decide) rfl ?_
  refine v_aload_n X 1 dX3_end_5 rfl rfl ?_
  refine v_iload_n X 0 dX3_end_6 rfl rfl ?_
  refine v_callV X [.int (iz r1)] hRm (c_X3_has_35 _ _ _ hS r1 ⟨by omega, by omega⟩) (gV bw_36_6 bw_34_23 bw_35_0 bw_2_19 bw_35_1) rfl ddX3_has (by decide) (Std.lt hS rfl) (Std.k hS rfl rfl) ⟨rfl, by decide⟩ (Nat.le_of_ble_eq_true rfl) dX3_end_7 (k_pB (fun b4 => ?_) (fun b4 => ?_))
  · skip
    refine v_if_eq X 29 dX3_end_10 (by decide) ⟨by decide, by decide⟩ (fun q => absurd q (by decide)) (fun _ => ?_)
    refine v_aload_n X 1 dX3_end_13 rfl rfl ?_
    refine gt_X3_begin X iwX3 (Std.lt hS rfl) (Std.k hS rfl rfl) (List.mem_cons_of_mem _ bw_6_23) dX3_end_14 38 (Std.r hS 2 rfl) ?_
    refine v_iload_n X 0 dX3_end_17 rfl rfl ?_
    refine v_iald X (M 38 r1) (Std.lt hS rfl) (Std.at hS rfl rfl) (by omega) (by omega) dX3_end_18 rfl (fun hr5 => ?_)
    refine v_aload_n X 1 dX3_end_19 rfl rfl ?_
    refine gt_X3_minutes X iwX3 (Std.lt hS rfl) (Std.k hS rfl rfl) (List.mem_cons_of_mem _ bw_7_0) dX3_end_20 39 (Std.r hS 3 rfl) ?_
    refine v_iload_n X 0 dX3_end_23 rfl rfl ?_
    refine v_iald X (M 39 r1) (Std.lt hS rfl) (Std.at hS rfl rfl) (by omega) (by omega) dX3_end_24 rfl (fun hr6 => ?_)
    have hE1 := hE r1 (by omega) (by omega)
    refine v_iadd X dX3_end_25 ?_
    refine v_goto X 30 dX3_end_26 (by decide) ?_
    refine hret _ _ _ _ _ _ _ _ _ _ _ (some (.int (iz ((M 38 r1) + (M 39 r1))))) dX3_end_30 ⟨rfl, _, rfl⟩ (by decide) (by decide) (fun hmok => ?_)
    refine ⟨rfl, rfl, rfl, rfl, rfl, rfl, ((M 38 r1) + (M 39 r1)), rfl, ⟨by omega, by omega⟩, ?_⟩
    try dsimp only
    rw [← e3]
    rw [if_pos ⟨by omega, by omega, by omega⟩]
  · skip
    refine v_if_eq X 29 dX3_end_10 (by decide) ⟨by decide, by decide⟩ (fun _ => ?_) (fun q => absurd (by decide) q)
    refine v_iconst X dX3_end_29 ?_
    refine hret _ _ _ _ _ _ _ _ _ _ _ (some (.int (iz 0))) dX3_end_30 ⟨rfl, _, rfl⟩ (by decide) (by decide) (fun hmok => ?_)
    refine ⟨rfl, rfl, rfl, rfl, rfl, rfl, 0, rfl, ⟨by decide, by decide⟩, ?_⟩
    try dsimp only
    rw [← e3]
    rw [if_neg (by omega)]

-- Flights.lastLanding
set_option maxHeartbeats 4000000 in
set_option maxRecDepth 100000 in
theorem c_X3_lastLanding_35 (l : Launch) (D : va_G) (cy : Nat → ClassId) {N : Nat} {sh : MS} {ad : Nat → Nat} {M L : MI} {R : MR} (hS : Std N sh R) : Ctr l D cy yX3_lastLanding wsX3_lastLanding ({ frames := 1, cells := 0, slots := 0, locals := 13 } : Room) N sh ad M L R [.ref (ad 35)] (pI N sh ad M L R (fun r => r = lastL (M 40))) := by
  refine Ctr.ofI (by decide) rfl (Nat.le_of_ble_eq_true rfl) ?_
  intro K hKl hKd hRm hnm X hret
  have X : VX K cX3_lastLanding 3 wsX3_lastLanding RX3 := X
  show V K 3 0 0 N sh ad M L R [(0, .ref (ad 35))] [] 0
  refine v_iconst X dX3_lastLanding_0 ?_
  refine v_istore_n X [(1, .int (iz (-1))), (0, .ref (ad 35))] dX3_lastLanding_1 rfl (by decide) rfl ?_
  refine v_iconst X dX3_lastLanding_2 ?_
  refine v_istore_n X [(2, .int (iz 0)), (1, .int (iz (-1))), (0, .ref (ad 35))] dX3_lastLanding_3 rfl (by decide) rfl ?_
  refine v_iload_n X 0 dX3_lastLanding_4 rfl rfl ?_
  refine v_bipush X dX3_lastLanding_5 (by decide) ?_
  refine v_icmp_ge X 27 dX3_lastLanding_7 (by decide) ⟨by decide, by decide⟩ ⟨by decide, by decide⟩ (fun q => absurd q (by decide)) (fun _ => ?_)
  refine v_iload_n X 1 dX3_lastLanding_10 rfl rfl ?_
  refine v_aload_n X 2 dX3_lastLanding_11 rfl rfl ?_
  refine gt_X3_landing X iwX3 (Std.lt hS rfl) (Std.k hS rfl rfl) (List.mem_cons_of_mem _ bw_7_1) dX3_lastLanding_12 40 (Std.r hS 4 rfl) ?_
  refine v_iload_n X 0 dX3_lastLanding_15 rfl rfl ?_
  refine v_iald X (M 40 0) (Std.lt hS rfl) (Std.at hS rfl rfl) (by omega) (by omega) dX3_lastLanding_16 rfl (fun hr1 => ?_)
  obtain ⟨x2, u3⟩ : ∃ z : Int, z = max (-1) (M 40 0) := ⟨_, rfl⟩
  refine v_max X x2 hRm (List.mem_cons_of_mem _ bw_34_8) (List.mem_cons_of_mem _ bw_18_7) (List.mem_cons_of_mem _ bw_18_8) (List.mem_cons_of_mem _ bw_18_9) ⟨Nat.le_of_ble_eq_true rfl, Nat.le_of_ble_eq_true rfl, Nat.le_of_ble_eq_true rfl, Nat.le_of_ble_eq_true rfl⟩ ⟨by decide, by decide⟩ ⟨by omega, by omega⟩ u3 dX3_lastLanding_17 ?_
  refine v_istore_n X [(1, .int (iz x2)), (2, .int (iz 0)), (0, .ref (ad 35))] dX3_lastLanding_20 rfl (by decide) rfl ?_
  refine v_iinc X 1 [(2, .int (iz 1)), (1, .int (iz x2)), (0, .ref (ad 35))] dX3_lastLanding_21 rfl (by decide) rfl ?_
  refine v_goto X 4 dX3_lastLanding_24 (by decide) ?_
  refine v_iload_n X 0 dX3_lastLanding_4 rfl rfl ?_
  refine v_bipush X dX3_lastLanding_5 (by decide) ?_
  refine v_icmp_ge X 27 dX3_lastLanding_7 (by decide) ⟨by decide, by decide⟩ ⟨by decide, by decide⟩ (fun q => absurd q (by decide)) (fun _ => ?_)
  refine v_iload_n X 1 dX3_lastLanding_10 rfl rfl ?_
  refine v_aload_n X 2 dX3_lastLanding_11 rfl rfl ?_
  refine gt_X3_landing X iwX3 (Std.lt hS rfl) (Std.k hS rfl rfl) (List.mem_cons_of_mem _ bw_7_1) dX3_lastLanding_12 40 (Std.r hS 4 rfl) ?_
  refine v_iload_n X 0 dX3_lastLanding_15 rfl rfl ?_
  refine v_iald X (M 40 1) (Std.lt hS rfl) (Std.at hS rfl rfl) (by omega) (by omega) dX3_lastLanding_16 rfl (fun hr4 => ?_)
  obtain ⟨x5, u6⟩ : ∃ z : Int, z = max x2 (M 40 1) := ⟨_, rfl⟩
  refine v_max X x5 hRm (List.mem_cons_of_mem _ bw_34_8) (List.mem_cons_of_mem _ bw_18_7) (List.mem_cons_of_mem _ bw_18_8) (List.mem_cons_of_mem _ bw_18_9) ⟨Nat.le_of_ble_eq_true rfl, Nat.le_of_ble_eq_true rfl, Nat.le_of_ble_eq_true rfl, Nat.le_of_ble_eq_true rfl⟩ ⟨by omega, by omega⟩ ⟨by omega, by omega⟩ u6 dX3_lastLanding_17 ?_
  refine v_istore_n X [(1, .int (iz x5)), (2, .int (iz 1)), (0, .ref (ad 35))] dX3_lastLanding_20 rfl (by decide) rfl ?_
  refine v_iinc X 1 [(2, .int (iz 2)), (1, .int (iz x5)), (0, .ref (ad 35))] dX3_lastLanding_21 rfl (by decide) rfl ?_
  refine v_goto X 4 dX3_lastLanding_24 (by decide) ?_
  refine v_iload_n X 0 dX3_lastLanding_4 rfl rfl ?_
  refine v_bipush X dX3_lastLanding_5 (by decide) ?_
  refine v_icmp_ge X 27 dX3_lastLanding_7 (by decide) ⟨by decide, by decide⟩ ⟨by decide, by decide⟩ (fun q => absurd q (by decide)) (fun _ => ?_)
  refine v_iload_n X 1 dX3_lastLanding_10 rfl rfl ?_
  refine v_aload_n X 2 dX3_lastLanding_11 rfl rfl ?_
  refine gt_X3_landing X iwX3 (Std.lt hS rfl) (Std.k hS rfl rfl) (List.mem_cons_of_mem _ bw_7_1) dX3_lastLanding_12 40 (Std.r hS 4 rfl) ?_
  refine v_iload_n X 0 dX3_lastLanding_15 rfl rfl ?_
  refine v_iald X (M 40 2) (Std.lt hS rfl) (Std.at hS rfl rfl) (by omega) (by omega) dX3_lastLanding_16 rfl (fun hr7 => ?_)
  obtain ⟨x8, u9⟩ : ∃ z : Int, z = max x5 (M 40 2) := ⟨_, rfl⟩
  refine v_max X x8 hRm (List.mem_cons_of_mem _ bw_34_8) (List.mem_cons_of_mem _ bw_18_7) (List.mem_cons_of_mem _ bw_18_8) (List.mem_cons_of_mem _ bw_18_9) ⟨Nat.le_of_ble_eq_true rfl, Nat.le_of_ble_eq_true rfl, Nat.le_of_ble_eq_true rfl, Nat.le_of_ble_eq_true rfl⟩ ⟨by omega, by omega⟩ ⟨by omega, by omega⟩ u9 dX3_lastLanding_17 ?_
  refine v_istore_n X [(1, .int (iz x8)), (2, .int (iz 2)), (0, .ref (ad 35))] dX3_lastLanding_20 rfl (by decide) rfl ?_
  refine v_iinc X 1 [(2, .int (iz 3)), (1, .int (iz x8)), (0, .ref (ad 35))] dX3_lastLanding_21 rfl (by decide) rfl ?_
  refine v_goto X 4 dX3_lastLanding_24 (by decide) ?_
  refine v_iload_n X 0 dX3_lastLanding_4 rfl rfl ?_
  refine v_bipush X dX3_lastLanding_5 (by decide) ?_
  refine v_icmp_ge X 27 dX3_lastLanding_7 (by decide) ⟨by decide, by decide⟩ ⟨by decide, by decide⟩ (fun q => absurd q (by decide)) (fun _ => ?_)
  refine v_iload_n X 1 dX3_lastLanding_10 rfl rfl ?_
  refine v_aload_n X 2 dX3_lastLanding_11 rfl rfl ?_
  refine gt_X3_landing X iwX3 (Std.lt hS rfl) (Std.k hS rfl rfl) (List.mem_cons_of_mem _ bw_7_1) dX3_lastLanding_12 40 (Std.r hS 4 rfl) ?_
  refine v_iload_n X 0 dX3_lastLanding_15 rfl rfl ?_
  refine v_iald X (M 40 3) (Std.lt hS rfl) (Std.at hS rfl rfl) (by omega) (by omega) dX3_lastLanding_16 rfl (fun hr10 => ?_)
  obtain ⟨x11, u12⟩ : ∃ z : Int, z = max x8 (M 40 3) := ⟨_, rfl⟩
  refine v_max X x11 hRm (List.mem_cons_of_mem _ bw_34_8) (List.mem_cons_of_mem _ bw_18_7) (List.mem_cons_of_mem _ bw_18_8) (List.mem_cons_of_mem _ bw_18_9) ⟨Nat.le_of_ble_eq_true rfl, Nat.le_of_ble_eq_true rfl, Nat.le_of_ble_eq_true rfl, Nat.le_of_ble_eq_true rfl⟩ ⟨by omega, by omega⟩ ⟨by omega, by omega⟩ u12 dX3_lastLanding_17 ?_
  refine v_istore_n X [(1, .int (iz x11)), (2, .int (iz 3)), (0, .ref (ad 35))] dX3_lastLanding_20 rfl (by decide) rfl ?_
  refine v_iinc X 1 [(2, .int (iz 4)), (1, .int (iz x11)), (0, .ref (ad 35))] dX3_lastLanding_21 rfl (by decide) rfl ?_
  refine v_goto X 4 dX3_lastLanding_24 (by decide) ?_
  refine v_iload_n X 0 dX3_lastLanding_4 rfl rfl ?_
  refine v_bipush X dX3_lastLanding_5 (by decide) ?_
  refine v_icmp_ge X 27 dX3_lastLanding_7 (by decide) ⟨by decide, by decide⟩ ⟨by decide, by decide⟩ (fun q => absurd q (by decide)) (fun _ => ?_)
  refine v_iload_n X 1 dX3_lastLanding_10 rfl rfl ?_
  refine v_aload_n X 2 dX3_lastLanding_11 rfl rfl ?_
  refine gt_X3_landing X iwX3 (Std.lt hS rfl) (Std.k hS rfl rfl) (List.mem_cons_of_mem _ bw_7_1) dX3_lastLanding_12 40 (Std.r hS 4 rfl) ?_
  refine v_iload_n X 0 dX3_lastLanding_15 rfl rfl ?_
  refine v_iald X (M 40 4) (Std.lt hS rfl) (Std.at hS rfl rfl) (by omega) (by omega) dX3_lastLanding_16 rfl (fun hr13 => ?_)
  obtain ⟨x14, u15⟩ : ∃ z : Int, z = max x11 (M 40 4) := ⟨_, rfl⟩
  refine v_max X x14 hRm (List.mem_cons_of_mem _ bw_34_8) (List.mem_cons_of_mem _ bw_18_7) (List.mem_cons_of_mem _ bw_18_8) (List.mem_cons_of_mem _ bw_18_9) ⟨Nat.le_of_ble_eq_true rfl, Nat.le_of_ble_eq_true rfl, Nat.le_of_ble_eq_true rfl, Nat.le_of_ble_eq_true rfl⟩ ⟨by omega, by omega⟩ ⟨by omega, by omega⟩ u15 dX3_lastLanding_17 ?_
  refine v_istore_n X [(1, .int (iz x14)), (2, .int (iz 4)), (0, .ref (ad 35))] dX3_lastLanding_20 rfl (by decide) rfl ?_
  refine v_iinc X 1 [(2, .int (iz 5)), (1, .int (iz x14)), (0, .ref (ad 35))] dX3_lastLanding_21 rfl (by decide) rfl ?_
  refine v_goto X 4 dX3_lastLanding_24 (by decide) ?_
  refine v_iload_n X 0 dX3_lastLanding_4 rfl rfl ?_
  refine v_bipush X dX3_lastLanding_5 (by decide) ?_
  refine v_icmp_ge X 27 dX3_lastLanding_7 (by decide) ⟨by decide, by decide⟩ ⟨by decide, by decide⟩ (fun q => absurd q (by decide)) (fun _ => ?_)
  refine v_iload_n X 1 dX3_lastLanding_10 rfl rfl ?_
  refine v_aload_n X 2 dX3_lastLanding_11 rfl rfl ?_
  refine gt_X3_landing X iwX3 (Std.lt hS rfl) (Std.k hS rfl rfl) (List.mem_cons_of_mem _ bw_7_1) dX3_lastLanding_12 40 (Std.r hS 4 rfl) ?_
  refine v_iload_n X 0 dX3_lastLanding_15 rfl rfl ?_
  refine v_iald X (M 40 5) (Std.lt hS rfl) (Std.at hS rfl rfl) (by omega) (by omega) dX3_lastLanding_16 rfl (fun hr16 => ?_)
  obtain ⟨x17, u18⟩ : ∃ z : Int, z = max x14 (M 40 5) := ⟨_, rfl⟩
  refine v_max X x17 hRm (List.mem_cons_of_mem _ bw_34_8) (List.mem_cons_of_mem _ bw_18_7) (List.mem_cons_of_mem _ bw_18_8) (List.mem_cons_of_mem _ bw_18_9) ⟨Nat.le_of_ble_eq_true rfl, Nat.le_of_ble_eq_true rfl, Nat.le_of_ble_eq_true rfl, Nat.le_of_ble_eq_true rfl⟩ ⟨by omega, by omega⟩ ⟨by omega, by omega⟩ u18 dX3_lastLanding_17 ?_
  refine v_istore_n X [(1, .int (iz x17)), (2, .int (iz 5)), (0, .ref (ad 35))] dX3_lastLanding_20 rfl (by decide) rfl ?_
  refine v_iinc X 1 [(2, .int (iz 6)), (1, .int (iz x17)), (0, .ref (ad 35))] dX3_lastLanding_21 rfl (by decide) rfl ?_
  refine v_goto X 4 dX3_lastLanding_24 (by decide) ?_
  refine v_iload_n X 0 dX3_lastLanding_4 rfl rfl ?_
  refine v_bipush X dX3_lastLanding_5 (by decide) ?_
  refine v_icmp_ge X 27 dX3_lastLanding_7 (by decide) ⟨by decide, by decide⟩ ⟨by decide, by decide⟩ (fun _ => ?_) (fun q => absurd (by decide) q)
  refine v_iload_n X 1 dX3_lastLanding_27 rfl rfl ?_
  refine hret _ _ _ _ _ _ _ _ _ _ _ (some (.int (iz x17))) dX3_lastLanding_28 ⟨rfl, _, rfl⟩ (by decide) (by decide) (fun hmok => ?_)
  refine ⟨rfl, rfl, rfl, rfl, rfl, rfl, x17, rfl, ⟨by omega, by omega⟩, ?_⟩
  try dsimp only
  unfold lastL
  omega

-- Flights.add
set_option maxHeartbeats 4000000 in
set_option maxRecDepth 100000 in
theorem c_X3_add_35 (l : Launch) (D : va_G) (cy : Nat → ClassId) {N : Nat} {sh : MS} {ad : Nat → Nat} {M L : MI} {R : MR} (hS : Std N sh R) (a w c b m d : Int) (ha : 0 ≤ a ∧ a < 6) (hw : inR w) (hc : inR c) (hb : inR b) (hm : inR m) (hd : inR d) (hz : 0 ≤ M 35 5 ∧ M 35 5 < 6) (hW : inR (M 35 6 + w)) : Ctr l D cy yX3_add wsX3_add ({ frames := 0, cells := 0, slots := 0, locals := 0 } : Room) N sh ad M L R [.ref (ad 35), .int (iz a), .int (iz w), .int (iz c), .int (iz b), .int (iz m), .int (iz d)] (eV N sh ad L R (fun M' => M' = (mu (mu (mu (mu (mu (mu (mu M 36 (M 35 5) a) 37 a c) 38 a b) 39 a m) 40 a d) 35 5 ((M 35 5) + 1)) 35 6 ((M 35 6) + w)))) := by
  refine Ctr.ofV (by decide) rfl (Nat.le_of_ble_eq_true rfl) ?_
  intro K hKl hKd hRm hnm X hret
  have X : VX K cX3_add 7 wsX3_add RX3 := X
  show V K 7 0 0 N sh ad M L R [(0, .ref (ad 35)), (1, .int (iz a)), (2, .int (iz w)), (3, .int (iz c)), (4, .int (iz b)), (5, .int (iz m)), (6, .int (iz d))] [] 0
  refine v_aload_n X 0 dX3_add_0 rfl rfl ?_
  refine gt_X3_size X iwX3 (Std.lt hS rfl) (Std.k hS rfl rfl) (List.mem_cons_of_mem _ bw_7_6) dX3_add_1 (M 35 5) rfl (fun hr1 => ?_)
  refine v_bipush X dX3_add_4 (by decide) ?_
  refine v_icmp_ge X 80 dX3_add_6 (by decide) ⟨by omega, by omega⟩ ⟨by decide, by decide⟩ (fun q => absurd q (by omega)) (fun u2 => ?_)
  refine v_iload_n X 1 dX3_add_9 rfl rfl ?_
  refine v_if_lt X 80 dX3_add_10 (by decide) ⟨by omega, by omega⟩ (fun q => absurd q (by omega)) (fun u3 => ?_)
  refine v_iload_n X 1 dX3_add_13 rfl rfl ?_
  refine v_bipush X dX3_add_14 (by decide) ?_
  refine v_icmp_ge X 80 dX3_add_16 (by decide) ⟨by omega, by omega⟩ ⟨by decide, by decide⟩ (fun q => absurd q (by omega)) (fun u4 => ?_)
  refine v_aload_n X 0 dX3_add_19 rfl rfl ?_
  refine gt_X3_order X iwX3 (Std.lt hS rfl) (Std.k hS rfl rfl) (List.mem_cons_of_mem _ bw_6_21) dX3_add_20 36 (Std.r hS 0 rfl) ?_
  refine v_aload_n X 0 dX3_add_23 rfl rfl ?_
  refine gt_X3_size X iwX3 (Std.lt hS rfl) (Std.k hS rfl rfl) (List.mem_cons_of_mem _ bw_7_6) dX3_add_24 (M 35 5) rfl (fun hr5 => ?_)
  refine v_iload_n X 1 dX3_add_27 rfl rfl ?_
  refine v_iast X (Std.lt hS rfl) (Std.at hS rfl rfl) (by omega) (by omega) ⟨by omega, by omega⟩ dX3_add_28 ?_
  refine v_aload_n X 0 dX3_add_29 rfl rfl ?_
  refine gt_X3_takeOff X iwX3 (Std.lt hS rfl) (Std.k hS rfl rfl) (List.mem_cons_of_mem _ bw_6_22) dX3_add_30 37 (Std.r hS 1 rfl) ?_
  refine v_iload_n X 1 dX3_add_33 rfl rfl ?_
  refine v_iload_n X 3 dX3_add_34 rfl rfl ?_
  refine v_iast X (Std.lt hS rfl) (Std.at hS rfl rfl) (by omega) (by omega) ⟨by omega, by omega⟩ dX3_add_35 ?_
  refine v_aload_n X 0 dX3_add_36 rfl rfl ?_
  refine gt_X3_begin X iwX3 (Std.lt hS rfl) (Std.k hS rfl rfl) (List.mem_cons_of_mem _ bw_6_23) dX3_add_37 38 (Std.r hS 2 rfl) ?_
  refine v_iload_n X 1 dX3_add_40 rfl rfl ?_
  refine v_iload X 4 dX3_add_41 rfl ?_
  refine v_iast X (Std.lt hS rfl) (Std.at hS rfl rfl) (by omega) (by omega) ⟨by omega, by omega⟩ dX3_add_43 ?_
  refine v_aload_n X 0 dX3_add_44 rfl rfl ?_
  refine gt_X3_minutes X iwX3 (Std.lt hS rfl) (Std.k hS rfl rfl) (List.mem_cons_of_mem _ bw_7_0) dX3_add_45 39 (Std.r hS 3 rfl) ?_
  refine v_iload_n X 1 dX3_add_48 rfl rfl ?_
  refine v_iload X 5 dX3_add_49 rfl ?_
  refine v_iast X (Std.lt hS rfl) (Std.at hS rfl rfl) (by omega) (by omega) ⟨by omega, by omega⟩ dX3_add_51 ?_
  refine v_aload_n X 0 dX3_add_52 rfl rfl ?_
  refine gt_X3_landing X iwX3 (Std.lt hS rfl) (Std.k hS rfl rfl) (List.mem_cons_of_mem _ bw_7_1) dX3_add_53 40 (Std.r hS 4 rfl) ?_
  refine v_iload_n X 1 dX3_add_56 rfl rfl ?_
  refine v_iload X 6 dX3_add_57 rfl ?_
  refine v_iast X (Std.lt hS rfl) (Std.at hS rfl rfl) (by omega) (by omega) ⟨by omega, by omega⟩ dX3_add_59 ?_
  refine v_aload_n X 0 dX3_add_60 rfl rfl ?_
  refine v_dup X dX3_add_61 rfl ?_
  refine gt_X3_size X iwX3 (Std.lt hS rfl) (Std.k hS rfl rfl) (List.mem_cons_of_mem _ bw_7_6) dX3_add_62 (M 35 5) rfl (fun hr6 => ?_)
  refine v_iconst X dX3_add_65 ?_
  refine v_iadd X dX3_add_66 ?_
  refine pt_X3_size X iwX3 (Std.lt hS rfl) (Std.k hS rfl rfl) (List.mem_cons_of_mem _ bw_7_6) ⟨by omega, by omega⟩ dX3_add_67 ?_
  refine v_aload_n X 0 dX3_add_70 rfl rfl ?_
  refine v_dup X dX3_add_71 rfl ?_
  refine gt_X3_worth X iwX3 (Std.lt hS rfl) (Std.k hS rfl rfl) (List.mem_cons_of_mem _ bw_7_7) dX3_add_72 (M 35 6) rfl (fun hr7 => ?_)
  refine v_iload_n X 2 dX3_add_75 rfl rfl ?_
  refine v_iadd X dX3_add_76 ?_
  refine pt_X3_worth X iwX3 (Std.lt hS rfl) (Std.k hS rfl rfl) (List.mem_cons_of_mem _ bw_7_7) ⟨by omega, by omega⟩ dX3_add_77 ?_
  refine hret _ _ _ _ _ _ _ _ _ _ _ none dX3_add_80 ⟨rfl, rfl⟩ (by decide) (by decide) (fun hmok => ?_)
  refine ⟨rfl, rfl, rfl, rfl, rfl, rfl, ?_⟩
  try dsimp only
  all_goals rfl

-- Flights.dropLast
set_option maxHeartbeats 4000000 in
set_option maxRecDepth 100000 in
theorem c_X3_dropLast_35 (l : Launch) (D : va_G) (cy : Nat → ClassId) {N : Nat} {sh : MS} {ad : Nat → Nat} {M L : MI} {R : MR} (hS : Std N sh R) (w : Int) (hw : inR w) (hz : 0 < M 35 5 ∧ M 35 5 ≤ 6) (hla : 0 ≤ M 36 (M 35 5 - 1) ∧ M 36 (M 35 5 - 1) < 6 ∧ M 38 (M 36 (M 35 5 - 1)) ≠ -1) (hW : inR (M 35 6 - w)) : Ctr l D cy yX3_dropLast wsX3_dropLast ({ frames := 1, cells := 0, slots := 0, locals := 21 } : Room) N sh ad M L R [.ref (ad 35), .int (iz w)] (eV N sh ad L R (fun M' => M' = (mu (mu (mu (mu (mu (mu (mu M 37 (M 36 (M 35 5 - 1)) (-1)) 38 (M 36 (M 35 5 - 1)) (-1)) 39 (M 36 (M 35 5 - 1)) (-1)) 40 (M 36 (M 35 5 - 1)) (-1)) 35 5 ((M 35 5) - 1)) 36 ((M 35 5) - 1) (-1)) 35 6 ((M 35 6) - w)))) := by
  refine Ctr.ofV (by decide) rfl (Nat.le_of_ble_eq_true rfl) ?_
  intro K hKl hKd hRm hnm X hret
  have X : VX K cX3_dropLast 3 wsX3_dropLast RX3 := X
  show V K 3 0 0 N sh ad M L R [(0, .ref (ad 35)), (1, .int (iz w))] [] 0
  refine v_aload_n X 0 dX3_dropLast_0 rfl rfl ?_
  refine v_callV X [] hRm (c_X3_lastAct_35 _ _ _ hS) (gV bw_36_5 bw_35_18 bw_35_19 bw_2_19 bw_35_20) rfl ddX3_lastAct (by decide) (Std.lt hS rfl) (Std.k hS rfl rfl) ⟨rfl, by decide⟩ (Nat.le_of_ble_eq_true rfl) dX3_dropLast_1 (k_pI (fun r1 hr2 e3 => ?_))
  rw [if_pos ⟨by omega, by omega⟩] at e3
  subst e3
  refine v_istore_n X [(2, .int (iz (M 36 (M 35 5 - 1)))), (0, .ref (ad 35)), (1, .int (iz w))] dX3_dropLast_4 rfl (by decide) rfl ?_
  refine v_aload_n X 1 dX3_dropLast_5 rfl rfl ?_
  refine v_iload_n X 0 dX3_dropLast_6 rfl rfl ?_
  refine v_callV X [.int (iz (M 36 (M 35 5 - 1)))] hRm (c_X3_has_35 _ _ _ hS (M 36 (M 35 5 - 1)) ⟨by omega, by omega⟩) (gV bw_36_6 bw_34_23 bw_35_0 bw_2_19 bw_35_1) rfl ddX3_has (by decide) (Std.lt hS rfl) (Std.k hS rfl rfl) ⟨rfl, by decide⟩ (Nat.le_of_ble_eq_true rfl) dX3_dropLast_7 (k_pB (fun b4 => ?_) (fun q => absurd (by omega) q))
  refine v_if_eq X 71 dX3_dropLast_10 (by decide) ⟨by decide, by decide⟩ (fun q => absurd q (by decide)) (fun _ => ?_)
  refine v_aload_n X 1 dX3_dropLast_13 rfl rfl ?_
  refine gt_X3_takeOff X iwX3 (Std.lt hS rfl) (Std.k hS rfl rfl) (List.mem_cons_of_mem _ bw_6_22) dX3_dropLast_14 37 (Std.r hS 1 rfl) ?_
  refine v_iload_n X 0 dX3_dropLast_17 rfl rfl ?_
  refine v_iconst X dX3_dropLast_18 ?_
  refine v_iast X (Std.lt hS rfl) (Std.at hS rfl rfl) (by omega) (by omega) ⟨by decide, by decide⟩ dX3_dropLast_19 ?_
  refine v_aload_n X 1 dX3_dropLast_20 rfl rfl ?_
  refine gt_X3_begin X iwX3 (Std.lt hS rfl) (Std.k hS rfl rfl) (List.mem_cons_of_mem _ bw_6_23) dX3_dropLast_21 38 (Std.r hS 2 rfl) ?_
  refine v_iload_n X 0 dX3_dropLast_24 rfl rfl ?_
  refine v_iconst X dX3_dropLast_25 ?_
  refine v_iast X (Std.lt hS rfl) (Std.at hS rfl rfl) (by omega) (by omega) ⟨by decide, by decide⟩ dX3_dropLast_26 ?_
  refine v_aload_n X 1 dX3_dropLast_27 rfl rfl ?_
  refine gt_X3_minutes X iwX3 (Std.lt hS rfl) (Std.k hS rfl rfl) (List.mem_cons_of_mem _ bw_7_0) dX3_dropLast_28 39 (Std.r hS 3 rfl) ?_
  refine v_iload_n X 0 dX3_dropLast_31 rfl rfl ?_
  refine v_iconst X dX3_dropLast_32 ?_
  refine v_iast X (Std.lt hS rfl) (Std.at hS rfl rfl) (by omega) (by omega) ⟨by decide, by decide⟩ dX3_dropLast_33 ?_
  refine v_aload_n X 1 dX3_dropLast_34 rfl rfl ?_
  refine gt_X3_landing X iwX3 (Std.lt hS rfl) (Std.k hS rfl rfl) (List.mem_cons_of_mem _ bw_7_1) dX3_dropLast_35 40 (Std.r hS 4 rfl) ?_
  refine v_iload_n X 0 dX3_dropLast_38 rfl rfl ?_
  refine v_iconst X dX3_dropLast_39 ?_
  refine v_iast X (Std.lt hS rfl) (Std.at hS rfl rfl) (by omega) (by omega) ⟨by decide, by decide⟩ dX3_dropLast_40 ?_
  refine v_aload_n X 1 dX3_dropLast_41 rfl rfl ?_
  refine v_dup X dX3_dropLast_42 rfl ?_
  refine gt_X3_size X iwX3 (Std.lt hS rfl) (Std.k hS rfl rfl) (List.mem_cons_of_mem _ bw_7_6) dX3_dropLast_43 (M 35 5) rfl (fun hr5 => ?_)
  refine v_iconst X dX3_dropLast_46 ?_
  refine v_isub X dX3_dropLast_47 ?_
  refine pt_X3_size X iwX3 (Std.lt hS rfl) (Std.k hS rfl rfl) (List.mem_cons_of_mem _ bw_7_6) ⟨by omega, by omega⟩ dX3_dropLast_48 ?_
  refine v_aload_n X 1 dX3_dropLast_51 rfl rfl ?_
  refine gt_X3_order X iwX3 (Std.lt hS rfl) (Std.k hS rfl rfl) (List.mem_cons_of_mem _ bw_6_21) dX3_dropLast_52 36 (Std.r hS 0 rfl) ?_
  refine v_aload_n X 1 dX3_dropLast_55 rfl rfl ?_
  refine gt_X3_size X iwX3 (Std.lt hS rfl) (Std.k hS rfl rfl) (List.mem_cons_of_mem _ bw_7_6) dX3_dropLast_56 ((M 35 5) - 1) rfl (fun hr6 => ?_)
  refine v_iconst X dX3_dropLast_59 ?_
  refine v_iast X (Std.lt hS rfl) (Std.at hS rfl rfl) (by omega) (by omega) ⟨by decide, by decide⟩ dX3_dropLast_60 ?_
  refine v_aload_n X 1 dX3_dropLast_61 rfl rfl ?_
  refine v_dup X dX3_dropLast_62 rfl ?_
  refine gt_X3_worth X iwX3 (Std.lt hS rfl) (Std.k hS rfl rfl) (List.mem_cons_of_mem _ bw_7_7) dX3_dropLast_63 (M 35 6) rfl (fun hr7 => ?_)
  refine v_iload_n X 2 dX3_dropLast_66 rfl rfl ?_
  refine v_isub X dX3_dropLast_67 ?_
  refine pt_X3_worth X iwX3 (Std.lt hS rfl) (Std.k hS rfl rfl) (List.mem_cons_of_mem _ bw_7_7) ⟨by omega, by omega⟩ dX3_dropLast_68 ?_
  refine hret _ _ _ _ _ _ _ _ _ _ _ none dX3_dropLast_71 ⟨rfl, rfl⟩ (by decide) (by decide) (fun hmok => ?_)
  refine ⟨rfl, rfl, rfl, rfl, rfl, rfl, ?_⟩
  try dsimp only
  all_goals rfl

-- Flights.clear
set_option maxHeartbeats 4000000 in
set_option maxRecDepth 100000 in
theorem c_X3_clear_41 (l : Launch) (D : va_G) (cy : Nat → ClassId) {N : Nat} {sh : MS} {ad : Nat → Nat} {M L : MI} {R : MR} (hS : Std N sh R) : Ctr l D cy yX3_clear wsX3_clear ({ frames := 1, cells := 0, slots := 0, locals := 23 } : Room) N sh ad M L R [.ref (ad 41)] (eV N sh ad L R (fun M' => M' = (mu (mu (mrow (mrow (mrow (mrow (mrow M 42 (filz (M 42) 6 (-1))) 43 (filz (M 43) 6 (-1))) 44 (filz (M 44) 6 (-1))) 45 (filz (M 45) 6 (-1))) 46 (filz (M 46) 6 (-1))) 41 5 0) 41 6 0))) := by
  refine Ctr.ofV (by decide) rfl (Nat.le_of_ble_eq_true rfl) ?_
  intro K hKl hKd hRm hnm X hret
  have X : VX K cX3_clear 1 wsX3_clear RX3 := X
  show V K 1 0 0 N sh ad M L R [(0, .ref (ad 41))] [] 0
  refine v_aload_n X 0 dX3_clear_0 rfl rfl ?_
  refine gt_X3_order X iwX3 (Std.lt hS rfl) (Std.k hS rfl rfl) (List.mem_cons_of_mem _ bw_6_21) dX3_clear_1 42 (Std.r hS 0 rfl) ?_
  refine v_iconst X dX3_clear_4 ?_
  refine v_callSO X [.ref (ad 42), .int (iz (-1))] hRm (c_J7_fill_53178 _ _ _ 42 6 (-1) (Std.lt hS rfl) (Std.at hS rfl rfl) ⟨by decide, by decide⟩ (by decide)) (gSO bw_7_8 bw_5_12 bw_5_13 bw_5_14) rfl ddJ7_fill_53178.2 (by decide) (Nat.le_of_ble_eq_true rfl) dX3_clear_5 (k_eV (fun M2 e1 => ?_))
  replace e1 : M2 = (mrow M 42 (filz (M 42) 6 (-1))) := e1
  subst e1
  refine v_aload_n X 0 dX3_clear_8 rfl rfl ?_
  refine gt_X3_takeOff X iwX3 (Std.lt hS rfl) (Std.k hS rfl rfl) (List.mem_cons_of_mem _ bw_6_22) dX3_clear_9 43 (Std.r hS 1 rfl) ?_
  refine v_iconst X dX3_clear_12 ?_
  refine v_callSO X [.ref (ad 43), .int (iz (-1))] hRm (c_J7_fill_53178 _ _ _ 43 6 (-1) (Std.lt hS rfl) (Std.at hS rfl rfl) ⟨by decide, by decide⟩ (by decide)) (gSO bw_7_8 bw_5_12 bw_5_13 bw_5_14) rfl ddJ7_fill_53178.2 (by decide) (Nat.le_of_ble_eq_true rfl) dX3_clear_13 (k_eV (fun M4 e3 => ?_))
  replace e3 : M4 = (mrow (mrow M 42 (filz (M 42) 6 (-1))) 43 (filz (M 43) 6 (-1))) := e3
  subst e3
  refine v_aload_n X 0 dX3_clear_16 rfl rfl ?_
  refine gt_X3_begin X iwX3 (Std.lt hS rfl) (Std.k hS rfl rfl) (List.mem_cons_of_mem _ bw_6_23) dX3_clear_17 44 (Std.r hS 2 rfl) ?_
  refine v_iconst X dX3_clear_20 ?_
  refine v_callSO X [.ref (ad 44), .int (iz (-1))] hRm (c_J7_fill_53178 _ _ _ 44 6 (-1) (Std.lt hS rfl) (Std.at hS rfl rfl) ⟨by decide, by decide⟩ (by decide)) (gSO bw_7_8 bw_5_12 bw_5_13 bw_5_14) rfl ddJ7_fill_53178.2 (by decide) (Nat.le_of_ble_eq_true rfl) dX3_clear_21 (k_eV (fun M6 e5 => ?_))
  replace e5 : M6 = (mrow (mrow (mrow M 42 (filz (M 42) 6 (-1))) 43 (filz (M 43) 6 (-1))) 44 (filz (M 44) 6 (-1))) := e5
  subst e5
  refine v_aload_n X 0 dX3_clear_24 rfl rfl ?_
  refine gt_X3_minutes X iwX3 (Std.lt hS rfl) (Std.k hS rfl rfl) (List.mem_cons_of_mem _ bw_7_0) dX3_clear_25 45 (Std.r hS 3 rfl) ?_
  refine v_iconst X dX3_clear_28 ?_
  refine v_callSO X [.ref (ad 45), .int (iz (-1))] hRm (c_J7_fill_53178 _ _ _ 45 6 (-1) (Std.lt hS rfl) (Std.at hS rfl rfl) ⟨by decide, by decide⟩ (by decide)) (gSO bw_7_8 bw_5_12 bw_5_13 bw_5_14) rfl ddJ7_fill_53178.2 (by decide) (Nat.le_of_ble_eq_true rfl) dX3_clear_29 (k_eV (fun M8 e7 => ?_))
  replace e7 : M8 = (mrow (mrow (mrow (mrow M 42 (filz (M 42) 6 (-1))) 43 (filz (M 43) 6 (-1))) 44 (filz (M 44) 6 (-1))) 45 (filz (M 45) 6 (-1))) := e7
  subst e7
  refine v_aload_n X 0 dX3_clear_32 rfl rfl ?_
  refine gt_X3_landing X iwX3 (Std.lt hS rfl) (Std.k hS rfl rfl) (List.mem_cons_of_mem _ bw_7_1) dX3_clear_33 46 (Std.r hS 4 rfl) ?_
  refine v_iconst X dX3_clear_36 ?_
  refine v_callSO X [.ref (ad 46), .int (iz (-1))] hRm (c_J7_fill_53178 _ _ _ 46 6 (-1) (Std.lt hS rfl) (Std.at hS rfl rfl) ⟨by decide, by decide⟩ (by decide)) (gSO bw_7_8 bw_5_12 bw_5_13 bw_5_14) rfl ddJ7_fill_53178.2 (by decide) (Nat.le_of_ble_eq_true rfl) dX3_clear_37 (k_eV (fun M10 e9 => ?_))
  replace e9 : M10 = (mrow (mrow (mrow (mrow (mrow M 42 (filz (M 42) 6 (-1))) 43 (filz (M 43) 6 (-1))) 44 (filz (M 44) 6 (-1))) 45 (filz (M 45) 6 (-1))) 46 (filz (M 46) 6 (-1))) := e9
  subst e9
  refine v_aload_n X 0 dX3_clear_40 rfl rfl ?_
  refine v_iconst X dX3_clear_41 ?_
  refine pt_X3_size X iwX3 (Std.lt hS rfl) (Std.k hS rfl rfl) (List.mem_cons_of_mem _ bw_7_6) ⟨by decide, by decide⟩ dX3_clear_42 ?_
  refine v_aload_n X 0 dX3_clear_45 rfl rfl ?_
  refine v_iconst X dX3_clear_46 ?_
  refine pt_X3_worth X iwX3 (Std.lt hS rfl) (Std.k hS rfl rfl) (List.mem_cons_of_mem _ bw_7_7) ⟨by decide, by decide⟩ dX3_clear_47 ?_
  refine hret _ _ _ _ _ _ _ _ _ _ _ none dX3_clear_50 ⟨rfl, rfl⟩ (by decide) (by decide) (fun hmok => ?_)
  refine ⟨rfl, rfl, rfl, rfl, rfl, rfl, ?_⟩
  try dsimp only
  all_goals rfl

-- Flights.has
set_option maxHeartbeats 4000000 in
set_option maxRecDepth 100000 in
theorem c_X3_has_41 (l : Launch) (D : va_G) (cy : Nat → ClassId) {N : Nat} {sh : MS} {ad : Nat → Nat} {M L : MI} {R : MR} (hS : Std N sh R) (a : Int) (ha : inR a) : Ctr l D cy yX3_has wsX3_has ({ frames := 0, cells := 0, slots := 0, locals := 0 } : Room) N sh ad M L R [.ref (ad 41), .int (iz a)] (pB N sh ad M L R (0 ≤ a ∧ a < 6 ∧ M 44 a ≠ -1)) := by
  refine Ctr.ofZ (by decide) rfl (Nat.le_of_ble_eq_true rfl) ?_
  intro K hKl hKd hRm hnm X hret
  have X : VX K cX3_has 2 wsX3_has RX3 := X
  show V K 2 0 0 N sh ad M L R [(0, .ref (ad 41)), (1, .int (iz a))] [] 0
  refine v_iload_n X 1 dX3_has_0 rfl rfl ?_
  refine v_if_lt X 24 dX3_has_1 (by decide) ⟨by omega, by omega⟩ (fun u1 => ?_) (fun u1 => ?_)
  · skip
    refine v_iconst X dX3_has_24 ?_
    refine hret _ _ _ _ _ _ _ _ _ _ _ (some (.int (iz 0))) dX3_has_25 ⟨rfl, 0, ⟨by omega, by omega⟩, rfl⟩ (by decide) (by decide) (fun hmok => ?_)
    refine ⟨rfl, rfl, rfl, rfl, rfl, rfl, 0, rfl, Or.inr ⟨rfl, ?_⟩⟩
    omega
  · skip
    refine v_iload_n X 1 dX3_has_4 rfl rfl ?_
    refine v_bipush X dX3_has_5 (by decide) ?_
    refine v_icmp_ge X 24 dX3_has_7 (by decide) ⟨by omega, by omega⟩ ⟨by decide, by decide⟩ (fun u2 => ?_) (fun u2 => ?_)
    · skip
      refine v_iconst X dX3_has_24 ?_
      refine hret _ _ _ _ _ _ _ _ _ _ _ (some (.int (iz 0))) dX3_has_25 ⟨rfl, 0, ⟨by omega, by omega⟩, rfl⟩ (by decide) (by decide) (fun hmok => ?_)
      refine ⟨rfl, rfl, rfl, rfl, rfl, rfl, 0, rfl, Or.inr ⟨rfl, ?_⟩⟩
      omega
    · skip
      refine v_aload_n X 0 dX3_has_10 rfl rfl ?_
      refine gt_X3_begin X iwX3 (Std.lt hS rfl) (Std.k hS rfl rfl) (List.mem_cons_of_mem _ bw_6_23) dX3_has_11 44 (Std.r hS 2 rfl) ?_
      refine v_iload_n X 1 dX3_has_14 rfl rfl ?_
      refine v_iald X (M 44 a) (Std.lt hS rfl) (Std.at hS rfl rfl) (by omega) (by omega) dX3_has_15 rfl (fun hr3 => ?_)
      refine v_iconst X dX3_has_16 ?_
      refine v_icmp_eq X 24 dX3_has_17 (by decide) ⟨by omega, by omega⟩ ⟨by decide, by decide⟩ (fun u4 => ?_) (fun u4 => ?_)
      · skip
        refine v_iconst X dX3_has_24 ?_
        refine hret _ _ _ _ _ _ _ _ _ _ _ (some (.int (iz 0))) dX3_has_25 ⟨rfl, 0, ⟨by omega, by omega⟩, rfl⟩ (by decide) (by decide) (fun hmok => ?_)
        refine ⟨rfl, rfl, rfl, rfl, rfl, rfl, 0, rfl, Or.inr ⟨rfl, ?_⟩⟩
        omega
      · skip
        refine v_iconst X dX3_has_20 ?_
        refine v_goto X 25 dX3_has_21 (by decide) ?_
        refine hret _ _ _ _ _ _ _ _ _ _ _ (some (.int (iz 1))) dX3_has_25 ⟨rfl, 1, ⟨by omega, by omega⟩, rfl⟩ (by decide) (by decide) (fun hmok => ?_)
        refine ⟨rfl, rfl, rfl, rfl, rfl, rfl, 1, rfl, Or.inl ⟨rfl, ?_⟩⟩
        omega

-- Flights.lastAct
set_option maxHeartbeats 4000000 in
set_option maxRecDepth 100000 in
theorem c_X3_lastAct_41 (l : Launch) (D : va_G) (cy : Nat → ClassId) {N : Nat} {sh : MS} {ad : Nat → Nat} {M L : MI} {R : MR} (hS : Std N sh R) : Ctr l D cy yX3_lastAct wsX3_lastAct ({ frames := 0, cells := 0, slots := 0, locals := 0 } : Room) N sh ad M L R [.ref (ad 41)] (pI N sh ad M L R (fun r => r = (if 0 < M 41 5 ∧ M 41 5 ≤ 6 then M 42 (M 41 5 - 1) else -1))) := by
  refine Ctr.ofI (by decide) rfl (Nat.le_of_ble_eq_true rfl) ?_
  intro K hKl hKd hRm hnm X hret
  have X : VX K cX3_lastAct 1 wsX3_lastAct RX3 := X
  show V K 1 0 0 N sh ad M L R [(0, .ref (ad 41))] [] 0
  refine v_aload_n X 0 dX3_lastAct_0 rfl rfl ?_
  refine gt_X3_size X iwX3 (Std.lt hS rfl) (Std.k hS rfl rfl) (List.mem_cons_of_mem _ bw_7_6) dX3_lastAct_1 (M 41 5) rfl (fun hr1 => ?_)
  refine v_if_le X 30 dX3_lastAct_4 (by decide) ⟨by omega, by omega⟩ (fun u2 => ?_) (fun u2 => ?_)
  · skip
    refine v_iconst X dX3_lastAct_30 ?_
    refine hret _ _ _ _ _ _ _ _ _ _ _ (some (.int (iz (-1)))) dX3_lastAct_31 ⟨rfl, _, rfl⟩ (by decide) (by decide) (fun hmok => ?_)
    refine ⟨rfl, rfl, rfl, rfl, rfl, rfl, (-1), rfl, ⟨by decide, by decide⟩, ?_⟩
    try dsimp only
    split <;> omega
  · skip
    refine v_aload_n X 0 dX3_lastAct_7 rfl rfl ?_
    refine gt_X3_size X iwX3 (Std.lt hS rfl) (Std.k hS rfl rfl) (List.mem_cons_of_mem _ bw_7_6) dX3_lastAct_8 (M 41 5) rfl (fun hr3 => ?_)
    refine v_bipush X dX3_lastAct_11 (by decide) ?_
    refine v_icmp_gt X 30 dX3_lastAct_13 (by decide) ⟨by omega, by omega⟩ ⟨by decide, by decide⟩ (fun u4 => ?_) (fun u4 => ?_)
    · skip
      refine v_iconst X dX3_lastAct_30 ?_
      refine hret _ _ _ _ _ _ _ _ _ _ _ (some (.int (iz (-1)))) dX3_lastAct_31 ⟨rfl, _, rfl⟩ (by decide) (by decide) (fun hmok => ?_)
      refine ⟨rfl, rfl, rfl, rfl, rfl, rfl, (-1), rfl, ⟨by decide, by decide⟩, ?_⟩
      try dsimp only
      split <;> omega
    · skip
      refine v_aload_n X 0 dX3_lastAct_16 rfl rfl ?_
      refine gt_X3_order X iwX3 (Std.lt hS rfl) (Std.k hS rfl rfl) (List.mem_cons_of_mem _ bw_6_21) dX3_lastAct_17 42 (Std.r hS 0 rfl) ?_
      refine v_aload_n X 0 dX3_lastAct_20 rfl rfl ?_
      refine gt_X3_size X iwX3 (Std.lt hS rfl) (Std.k hS rfl rfl) (List.mem_cons_of_mem _ bw_7_6) dX3_lastAct_21 (M 41 5) rfl (fun hr5 => ?_)
      refine v_iconst X dX3_lastAct_24 ?_
      refine v_isub X dX3_lastAct_25 ?_
      refine v_iald X (M 42 ((M 41 5) - 1)) (Std.lt hS rfl) (Std.at hS rfl rfl) (by omega) (by omega) dX3_lastAct_26 rfl (fun hr6 => ?_)
      refine v_goto X 31 dX3_lastAct_27 (by decide) ?_
      refine hret _ _ _ _ _ _ _ _ _ _ _ (some (.int (iz (M 42 ((M 41 5) - 1))))) dX3_lastAct_31 ⟨rfl, _, rfl⟩ (by decide) (by decide) (fun hmok => ?_)
      refine ⟨rfl, rfl, rfl, rfl, rfl, rfl, (M 42 ((M 41 5) - 1)), rfl, ⟨by omega, by omega⟩, ?_⟩
      try dsimp only
      split <;> omega

-- Flights.end
set_option maxHeartbeats 4000000 in
set_option maxRecDepth 100000 in
theorem c_X3_end_41 (l : Launch) (D : va_G) (cy : Nat → ClassId) {N : Nat} {sh : MS} {ad : Nat → Nat} {M L : MI} {R : MR} (hS : Std N sh R) (hE : ∀ k : Int, 0 ≤ k → k < 6 → inR (M 44 k + M 45 k)) : Ctr l D cy yX3_end wsX3_end ({ frames := 1, cells := 0, slots := 0, locals := 21 } : Room) N sh ad M L R [.ref (ad 41)] (pI N sh ad M L R (fun r => r = (fun a => if 0 ≤ a ∧ a < 6 ∧ M 44 a ≠ -1 then M 44 a + M 45 a else 0) (if 0 < M 41 5 ∧ M 41 5 ≤ 6 then M 42 (M 41 5 - 1) else -1))) := by
  refine Ctr.ofI (by decide) rfl (Nat.le_of_ble_eq_true rfl) ?_
  intro K hKl hKd hRm hnm X hret
  have X : VX K cX3_end 2 wsX3_end RX3 := X
  show V K 2 0 0 N sh ad M L R [(0, .ref (ad 41))] [] 0
  refine v_aload_n X 0 dX3_end_0 rfl rfl ?_
  refine v_callV X [] hRm (c_X3_lastAct_41 _ _ _ hS) (gV bw_36_5 bw_35_18 bw_35_19 bw_2_19 bw_35_20) rfl ddX3_lastAct (by decide) (Std.lt hS rfl) (Std.k hS rfl rfl) ⟨rfl, by decide⟩ (Nat.le_of_ble_eq_true rfl) dX3_end_1 (k_pI (fun r1 hr2 e3 => ?_))
  refine v_istore_n X [(1, .int (iz r1)), (0, .ref (ad 41))] dX3_end_4 rfl (by decide) rfl ?_
  refine v_aload_n X 1 dX3_end_5 rfl rfl ?_
  refine v_iload_n X 0 dX3_end_6 rfl rfl ?_
  refine v_callV X [.int (iz r1)] hRm (c_X3_has_41 _ _ _ hS r1 ⟨by omega, by omega⟩) (gV bw_36_6 bw_34_23 bw_35_0 bw_2_19 bw_35_1) rfl ddX3_has (by decide) (Std.lt hS rfl) (Std.k hS rfl rfl) ⟨rfl, by decide⟩ (Nat.le_of_ble_eq_true rfl) dX3_end_7 (k_pB (fun b4 => ?_) (fun b4 => ?_))
  · skip
    refine v_if_eq X 29 dX3_end_10 (by decide) ⟨by decide, by decide⟩ (fun q => absurd q (by decide)) (fun _ => ?_)
    refine v_aload_n X 1 dX3_end_13 rfl rfl ?_
    refine gt_X3_begin X iwX3 (Std.lt hS rfl) (Std.k hS rfl rfl) (List.mem_cons_of_mem _ bw_6_23) dX3_end_14 44 (Std.r hS 2 rfl) ?_
    refine v_iload_n X 0 dX3_end_17 rfl rfl ?_
    refine v_iald X (M 44 r1) (Std.lt hS rfl) (Std.at hS rfl rfl) (by omega) (by omega) dX3_end_18 rfl (fun hr5 => ?_)
    refine v_aload_n X 1 dX3_end_19 rfl rfl ?_
    refine gt_X3_minutes X iwX3 (Std.lt hS rfl) (Std.k hS rfl rfl) (List.mem_cons_of_mem _ bw_7_0) dX3_end_20 45 (Std.r hS 3 rfl) ?_
    refine v_iload_n X 0 dX3_end_23 rfl rfl ?_
    refine v_iald X (M 45 r1) (Std.lt hS rfl) (Std.at hS rfl rfl) (by omega) (by omega) dX3_end_24 rfl (fun hr6 => ?_)
    have hE1 := hE r1 (by omega) (by omega)
    refine v_iadd X dX3_end_25 ?_
    refine v_goto X 30 dX3_end_26 (by decide) ?_
    refine hret _ _ _ _ _ _ _ _ _ _ _ (some (.int (iz ((M 44 r1) + (M 45 r1))))) dX3_end_30 ⟨rfl, _, rfl⟩ (by decide) (by decide) (fun hmok => ?_)
    refine ⟨rfl, rfl, rfl, rfl, rfl, rfl, ((M 44 r1) + (M 45 r1)), rfl, ⟨by omega, by omega⟩, ?_⟩
    try dsimp only
    rw [← e3]
    rw [if_pos ⟨by omega, by omega, by omega⟩]
  · skip
    refine v_if_eq X 29 dX3_end_10 (by decide) ⟨by decide, by decide⟩ (fun _ => ?_) (fun q => absurd (by decide) q)
    refine v_iconst X dX3_end_29 ?_
    refine hret _ _ _ _ _ _ _ _ _ _ _ (some (.int (iz 0))) dX3_end_30 ⟨rfl, _, rfl⟩ (by decide) (by decide) (fun hmok => ?_)
    refine ⟨rfl, rfl, rfl, rfl, rfl, rfl, 0, rfl, ⟨by decide, by decide⟩, ?_⟩
    try dsimp only
    rw [← e3]
    rw [if_neg (by omega)]

-- Flights.lastLanding
set_option maxHeartbeats 4000000 in
set_option maxRecDepth 100000 in
theorem c_X3_lastLanding_41 (l : Launch) (D : va_G) (cy : Nat → ClassId) {N : Nat} {sh : MS} {ad : Nat → Nat} {M L : MI} {R : MR} (hS : Std N sh R) : Ctr l D cy yX3_lastLanding wsX3_lastLanding ({ frames := 1, cells := 0, slots := 0, locals := 13 } : Room) N sh ad M L R [.ref (ad 41)] (pI N sh ad M L R (fun r => r = lastL (M 46))) := by
  refine Ctr.ofI (by decide) rfl (Nat.le_of_ble_eq_true rfl) ?_
  intro K hKl hKd hRm hnm X hret
  have X : VX K cX3_lastLanding 3 wsX3_lastLanding RX3 := X
  show V K 3 0 0 N sh ad M L R [(0, .ref (ad 41))] [] 0
  refine v_iconst X dX3_lastLanding_0 ?_
  refine v_istore_n X [(1, .int (iz (-1))), (0, .ref (ad 41))] dX3_lastLanding_1 rfl (by decide) rfl ?_
  refine v_iconst X dX3_lastLanding_2 ?_
  refine v_istore_n X [(2, .int (iz 0)), (1, .int (iz (-1))), (0, .ref (ad 41))] dX3_lastLanding_3 rfl (by decide) rfl ?_
  refine v_iload_n X 0 dX3_lastLanding_4 rfl rfl ?_
  refine v_bipush X dX3_lastLanding_5 (by decide) ?_
  refine v_icmp_ge X 27 dX3_lastLanding_7 (by decide) ⟨by decide, by decide⟩ ⟨by decide, by decide⟩ (fun q => absurd q (by decide)) (fun _ => ?_)
  refine v_iload_n X 1 dX3_lastLanding_10 rfl rfl ?_
  refine v_aload_n X 2 dX3_lastLanding_11 rfl rfl ?_
  refine gt_X3_landing X iwX3 (Std.lt hS rfl) (Std.k hS rfl rfl) (List.mem_cons_of_mem _ bw_7_1) dX3_lastLanding_12 46 (Std.r hS 4 rfl) ?_
  refine v_iload_n X 0 dX3_lastLanding_15 rfl rfl ?_
  refine v_iald X (M 46 0) (Std.lt hS rfl) (Std.at hS rfl rfl) (by omega) (by omega) dX3_lastLanding_16 rfl (fun hr1 => ?_)
  obtain ⟨x2, u3⟩ : ∃ z : Int, z = max (-1) (M 46 0) := ⟨_, rfl⟩
  refine v_max X x2 hRm (List.mem_cons_of_mem _ bw_34_8) (List.mem_cons_of_mem _ bw_18_7) (List.mem_cons_of_mem _ bw_18_8) (List.mem_cons_of_mem _ bw_18_9) ⟨Nat.le_of_ble_eq_true rfl, Nat.le_of_ble_eq_true rfl, Nat.le_of_ble_eq_true rfl, Nat.le_of_ble_eq_true rfl⟩ ⟨by decide, by decide⟩ ⟨by omega, by omega⟩ u3 dX3_lastLanding_17 ?_
  refine v_istore_n X [(1, .int (iz x2)), (2, .int (iz 0)), (0, .ref (ad 41))] dX3_lastLanding_20 rfl (by decide) rfl ?_
  refine v_iinc X 1 [(2, .int (iz 1)), (1, .int (iz x2)), (0, .ref (ad 41))] dX3_lastLanding_21 rfl (by decide) rfl ?_
  refine v_goto X 4 dX3_lastLanding_24 (by decide) ?_
  refine v_iload_n X 0 dX3_lastLanding_4 rfl rfl ?_
  refine v_bipush X dX3_lastLanding_5 (by decide) ?_
  refine v_icmp_ge X 27 dX3_lastLanding_7 (by decide) ⟨by decide, by decide⟩ ⟨by decide, by decide⟩ (fun q => absurd q (by decide)) (fun _ => ?_)
  refine v_iload_n X 1 dX3_lastLanding_10 rfl rfl ?_
  refine v_aload_n X 2 dX3_lastLanding_11 rfl rfl ?_
  refine gt_X3_landing X iwX3 (Std.lt hS rfl) (Std.k hS rfl rfl) (List.mem_cons_of_mem _ bw_7_1) dX3_lastLanding_12 46 (Std.r hS 4 rfl) ?_
  refine v_iload_n X 0 dX3_lastLanding_15 rfl rfl ?_
  refine v_iald X (M 46 1) (Std.lt hS rfl) (Std.at hS rfl rfl) (by omega) (by omega) dX3_lastLanding_16 rfl (fun hr4 => ?_)
  obtain ⟨x5, u6⟩ : ∃ z : Int, z = max x2 (M 46 1) := ⟨_, rfl⟩
  refine v_max X x5 hRm (List.mem_cons_of_mem _ bw_34_8) (List.mem_cons_of_mem _ bw_18_7) (List.mem_cons_of_mem _ bw_18_8) (List.mem_cons_of_mem _ bw_18_9) ⟨Nat.le_of_ble_eq_true rfl, Nat.le_of_ble_eq_true rfl, Nat.le_of_ble_eq_true rfl, Nat.le_of_ble_eq_true rfl⟩ ⟨by omega, by omega⟩ ⟨by omega, by omega⟩ u6 dX3_lastLanding_17 ?_
  refine v_istore_n X [(1, .int (iz x5)), (2, .int (iz 1)), (0, .ref (ad 41))] dX3_lastLanding_20 rfl (by decide) rfl ?_
  refine v_iinc X 1 [(2, .int (iz 2)), (1, .int (iz x5)), (0, .ref (ad 41))] dX3_lastLanding_21 rfl (by decide) rfl ?_
  refine v_goto X 4 dX3_lastLanding_24 (by decide) ?_
  refine v_iload_n X 0 dX3_lastLanding_4 rfl rfl ?_
  refine v_bipush X dX3_lastLanding_5 (by decide) ?_
  refine v_icmp_ge X 27 dX3_lastLanding_7 (by decide) ⟨by decide, by decide⟩ ⟨by decide, by decide⟩ (fun q => absurd q (by decide)) (fun _ => ?_)
  refine v_iload_n X 1 dX3_lastLanding_10 rfl rfl ?_
  refine v_aload_n X 2 dX3_lastLanding_11 rfl rfl ?_
  refine gt_X3_landing X iwX3 (Std.lt hS rfl) (Std.k hS rfl rfl) (List.mem_cons_of_mem _ bw_7_1) dX3_lastLanding_12 46 (Std.r hS 4 rfl) ?_
  refine v_iload_n X 0 dX3_lastLanding_15 rfl rfl ?_
  refine v_iald X (M 46 2) (Std.lt hS rfl) (Std.at hS rfl rfl) (by omega) (by omega) dX3_lastLanding_16 rfl (fun hr7 => ?_)
  obtain ⟨x8, u9⟩ : ∃ z : Int, z = max x5 (M 46 2) := ⟨_, rfl⟩
  refine v_max X x8 hRm (List.mem_cons_of_mem _ bw_34_8) (List.mem_cons_of_mem _ bw_18_7) (List.mem_cons_of_mem _ bw_18_8) (List.mem_cons_of_mem _ bw_18_9) ⟨Nat.le_of_ble_eq_true rfl, Nat.le_of_ble_eq_true rfl, Nat.le_of_ble_eq_true rfl, Nat.le_of_ble_eq_true rfl⟩ ⟨by omega, by omega⟩ ⟨by omega, by omega⟩ u9 dX3_lastLanding_17 ?_
  refine v_istore_n X [(1, .int (iz x8)), (2, .int (iz 2)), (0, .ref (ad 41))] dX3_lastLanding_20 rfl (by decide) rfl ?_
  refine v_iinc X 1 [(2, .int (iz 3)), (1, .int (iz x8)), (0, .ref (ad 41))] dX3_lastLanding_21 rfl (by decide) rfl ?_
  refine v_goto X 4 dX3_lastLanding_24 (by decide) ?_
  refine v_iload_n X 0 dX3_lastLanding_4 rfl rfl ?_
  refine v_bipush X dX3_lastLanding_5 (by decide) ?_
  refine v_icmp_ge X 27 dX3_lastLanding_7 (by decide) ⟨by decide, by decide⟩ ⟨by decide, by decide⟩ (fun q => absurd q (by decide)) (fun _ => ?_)
  refine v_iload_n X 1 dX3_lastLanding_10 rfl rfl ?_
  refine v_aload_n X 2 dX3_lastLanding_11 rfl rfl ?_
  refine gt_X3_landing X iwX3 (Std.lt hS rfl) (Std.k hS rfl rfl) (List.mem_cons_of_mem _ bw_7_1) dX3_lastLanding_12 46 (Std.r hS 4 rfl) ?_
  refine v_iload_n X 0 dX3_lastLanding_15 rfl rfl ?_
  refine v_iald X (M 46 3) (Std.lt hS rfl) (Std.at hS rfl rfl) (by omega) (by omega) dX3_lastLanding_16 rfl (fun hr10 => ?_)
  obtain ⟨x11, u12⟩ : ∃ z : Int, z = max x8 (M 46 3) := ⟨_, rfl⟩
  refine v_max X x11 hRm (List.mem_cons_of_mem _ bw_34_8) (List.mem_cons_of_mem _ bw_18_7) (List.mem_cons_of_mem _ bw_18_8) (List.mem_cons_of_mem _ bw_18_9) ⟨Nat.le_of_ble_eq_true rfl, Nat.le_of_ble_eq_true rfl, Nat.le_of_ble_eq_true rfl, Nat.le_of_ble_eq_true rfl⟩ ⟨by omega, by omega⟩ ⟨by omega, by omega⟩ u12 dX3_lastLanding_17 ?_
  refine v_istore_n X [(1, .int (iz x11)), (2, .int (iz 3)), (0, .ref (ad 41))] dX3_lastLanding_20 rfl (by decide) rfl ?_
  refine v_iinc X 1 [(2, .int (iz 4)), (1, .int (iz x11)), (0, .ref (ad 41))] dX3_lastLanding_21 rfl (by decide) rfl ?_
  refine v_goto X 4 dX3_lastLanding_24 (by decide) ?_
  refine v_iload_n X 0 dX3_lastLanding_4 rfl rfl ?_
  refine v_bipush X dX3_lastLanding_5 (by decide) ?_
  refine v_icmp_ge X 27 dX3_lastLanding_7 (by decide) ⟨by decide, by decide⟩ ⟨by decide, by decide⟩ (fun q => absurd q (by decide)) (fun _ => ?_)
  refine v_iload_n X 1 dX3_lastLanding_10 rfl rfl ?_
  refine v_aload_n X 2 dX3_lastLanding_11 rfl rfl ?_
  refine gt_X3_landing X iwX3 (Std.lt hS rfl) (Std.k hS rfl rfl) (List.mem_cons_of_mem _ bw_7_1) dX3_lastLanding_12 46 (Std.r hS 4 rfl) ?_
  refine v_iload_n X 0 dX3_lastLanding_15 rfl rfl ?_
  refine v_iald X (M 46 4) (Std.lt hS rfl) (Std.at hS rfl rfl) (by omega) (by omega) dX3_lastLanding_16 rfl (fun hr13 => ?_)
  obtain ⟨x14, u15⟩ : ∃ z : Int, z = max x11 (M 46 4) := ⟨_, rfl⟩
  refine v_max X x14 hRm (List.mem_cons_of_mem _ bw_34_8) (List.mem_cons_of_mem _ bw_18_7) (List.mem_cons_of_mem _ bw_18_8) (List.mem_cons_of_mem _ bw_18_9) ⟨Nat.le_of_ble_eq_true rfl, Nat.le_of_ble_eq_true rfl, Nat.le_of_ble_eq_true rfl, Nat.le_of_ble_eq_true rfl⟩ ⟨by omega, by omega⟩ ⟨by omega, by omega⟩ u15 dX3_lastLanding_17 ?_
  refine v_istore_n X [(1, .int (iz x14)), (2, .int (iz 4)), (0, .ref (ad 41))] dX3_lastLanding_20 rfl (by decide) rfl ?_
  refine v_iinc X 1 [(2, .int (iz 5)), (1, .int (iz x14)), (0, .ref (ad 41))] dX3_lastLanding_21 rfl (by decide) rfl ?_
  refine v_goto X 4 dX3_lastLanding_24 (by decide) ?_
  refine v_iload_n X 0 dX3_lastLanding_4 rfl rfl ?_
  refine v_bipush X dX3_lastLanding_5 (by decide) ?_
  refine v_icmp_ge X 27 dX3_lastLanding_7 (by decide) ⟨by decide, by decide⟩ ⟨by decide, by decide⟩ (fun q => absurd q (by decide)) (fun _ => ?_)
  refine v_iload_n X 1 dX3_lastLanding_10 rfl rfl ?_
  refine v_aload_n X 2 dX3_lastLanding_11 rfl rfl ?_
  refine gt_X3_landing X iwX3 (Std.lt hS rfl) (Std.k hS rfl rfl) (List.mem_cons_of_mem _ bw_7_1) dX3_lastLanding_12 46 (Std.r hS 4 rfl) ?_
  refine v_iload_n X 0 dX3_lastLanding_15 rfl rfl ?_
  refine v_iald X (M 46 5) (Std.lt hS rfl) (Std.at hS rfl rfl) (by omega) (by omega) dX3_lastLanding_16 rfl (fun hr16 => ?_)
  obtain ⟨x17, u18⟩ : ∃ z : Int, z = max x14 (M 46 5) := ⟨_, rfl⟩
  refine v_max X x17 hRm (List.mem_cons_of_mem _ bw_34_8) (List.mem_cons_of_mem _ bw_18_7) (List.mem_cons_of_mem _ bw_18_8) (List.mem_cons_of_mem _ bw_18_9) ⟨Nat.le_of_ble_eq_true rfl, Nat.le_of_ble_eq_true rfl, Nat.le_of_ble_eq_true rfl, Nat.le_of_ble_eq_true rfl⟩ ⟨by omega, by omega⟩ ⟨by omega, by omega⟩ u18 dX3_lastLanding_17 ?_
  refine v_istore_n X [(1, .int (iz x17)), (2, .int (iz 5)), (0, .ref (ad 41))] dX3_lastLanding_20 rfl (by decide) rfl ?_
  refine v_iinc X 1 [(2, .int (iz 6)), (1, .int (iz x17)), (0, .ref (ad 41))] dX3_lastLanding_21 rfl (by decide) rfl ?_
  refine v_goto X 4 dX3_lastLanding_24 (by decide) ?_
  refine v_iload_n X 0 dX3_lastLanding_4 rfl rfl ?_
  refine v_bipush X dX3_lastLanding_5 (by decide) ?_
  refine v_icmp_ge X 27 dX3_lastLanding_7 (by decide) ⟨by decide, by decide⟩ ⟨by decide, by decide⟩ (fun _ => ?_) (fun q => absurd (by decide) q)
  refine v_iload_n X 1 dX3_lastLanding_27 rfl rfl ?_
  refine hret _ _ _ _ _ _ _ _ _ _ _ (some (.int (iz x17))) dX3_lastLanding_28 ⟨rfl, _, rfl⟩ (by decide) (by decide) (fun hmok => ?_)
  refine ⟨rfl, rfl, rfl, rfl, rfl, rfl, x17, rfl, ⟨by omega, by omega⟩, ?_⟩
  try dsimp only
  unfold lastL
  omega

-- Flights.add
set_option maxHeartbeats 4000000 in
set_option maxRecDepth 100000 in
theorem c_X3_add_41 (l : Launch) (D : va_G) (cy : Nat → ClassId) {N : Nat} {sh : MS} {ad : Nat → Nat} {M L : MI} {R : MR} (hS : Std N sh R) (a w c b m d : Int) (ha : 0 ≤ a ∧ a < 6) (hw : inR w) (hc : inR c) (hb : inR b) (hm : inR m) (hd : inR d) (hz : 0 ≤ M 41 5 ∧ M 41 5 < 6) (hW : inR (M 41 6 + w)) : Ctr l D cy yX3_add wsX3_add ({ frames := 0, cells := 0, slots := 0, locals := 0 } : Room) N sh ad M L R [.ref (ad 41), .int (iz a), .int (iz w), .int (iz c), .int (iz b), .int (iz m), .int (iz d)] (eV N sh ad L R (fun M' => M' = (mu (mu (mu (mu (mu (mu (mu M 42 (M 41 5) a) 43 a c) 44 a b) 45 a m) 46 a d) 41 5 ((M 41 5) + 1)) 41 6 ((M 41 6) + w)))) := by
  refine Ctr.ofV (by decide) rfl (Nat.le_of_ble_eq_true rfl) ?_
  intro K hKl hKd hRm hnm X hret
  have X : VX K cX3_add 7 wsX3_add RX3 := X
  show V K 7 0 0 N sh ad M L R [(0, .ref (ad 41)), (1, .int (iz a)), (2, .int (iz w)), (3, .int (iz c)), (4, .int (iz b)), (5, .int (iz m)), (6, .int (iz d))] [] 0
  refine v_aload_n X 0 dX3_add_0 rfl rfl ?_
  refine gt_X3_size X iwX3 (Std.lt hS rfl) (Std.k hS rfl rfl) (List.mem_cons_of_mem _ bw_7_6) dX3_add_1 (M 41 5) rfl (fun hr1 => ?_)
  refine v_bipush X dX3_add_4 (by decide) ?_
  refine v_icmp_ge X 80 dX3_add_6 (by decide) ⟨by omega, by omega⟩ ⟨by decide, by decide⟩ (fun q => absurd q (by omega)) (fun u2 => ?_)
  refine v_iload_n X 1 dX3_add_9 rfl rfl ?_
  refine v_if_lt X 80 dX3_add_10 (by decide) ⟨by omega, by omega⟩ (fun q => absurd q (by omega)) (fun u3 => ?_)
  refine v_iload_n X 1 dX3_add_13 rfl rfl ?_
  refine v_bipush X dX3_add_14 (by decide) ?_
  refine v_icmp_ge X 80 dX3_add_16 (by decide) ⟨by omega, by omega⟩ ⟨by decide, by decide⟩ (fun q => absurd q (by omega)) (fun u4 => ?_)
  refine v_aload_n X 0 dX3_add_19 rfl rfl ?_
  refine gt_X3_order X iwX3 (Std.lt hS rfl) (Std.k hS rfl rfl) (List.mem_cons_of_mem _ bw_6_21) dX3_add_20 42 (Std.r hS 0 rfl) ?_
  refine v_aload_n X 0 dX3_add_23 rfl rfl ?_
  refine gt_X3_size X iwX3 (Std.lt hS rfl) (Std.k hS rfl rfl) (List.mem_cons_of_mem _ bw_7_6) dX3_add_24 (M 41 5) rfl (fun hr5 => ?_)
  refine v_iload_n X 1 dX3_add_27 rfl rfl ?_
  refine v_iast X (Std.lt hS rfl) (Std.at hS rfl rfl) (by omega) (by omega) ⟨by omega, by omega⟩ dX3_add_28 ?_
  refine v_aload_n X 0 dX3_add_29 rfl rfl ?_
  refine gt_X3_takeOff X iwX3 (Std.lt hS rfl) (Std.k hS rfl rfl) (List.mem_cons_of_mem _ bw_6_22) dX3_add_30 43 (Std.r hS 1 rfl) ?_
  refine v_iload_n X 1 dX3_add_33 rfl rfl ?_
  refine v_iload_n X 3 dX3_add_34 rfl rfl ?_
  refine v_iast X (Std.lt hS rfl) (Std.at hS rfl rfl) (by omega) (by omega) ⟨by omega, by omega⟩ dX3_add_35 ?_
  refine v_aload_n X 0 dX3_add_36 rfl rfl ?_
  refine gt_X3_begin X iwX3 (Std.lt hS rfl) (Std.k hS rfl rfl) (List.mem_cons_of_mem _ bw_6_23) dX3_add_37 44 (Std.r hS 2 rfl) ?_
  refine v_iload_n X 1 dX3_add_40 rfl rfl ?_
  refine v_iload X 4 dX3_add_41 rfl ?_
  refine v_iast X (Std.lt hS rfl) (Std.at hS rfl rfl) (by omega) (by omega) ⟨by omega, by omega⟩ dX3_add_43 ?_
  refine v_aload_n X 0 dX3_add_44 rfl rfl ?_
  refine gt_X3_minutes X iwX3 (Std.lt hS rfl) (Std.k hS rfl rfl) (List.mem_cons_of_mem _ bw_7_0) dX3_add_45 45 (Std.r hS 3 rfl) ?_
  refine v_iload_n X 1 dX3_add_48 rfl rfl ?_
  refine v_iload X 5 dX3_add_49 rfl ?_
  refine v_iast X (Std.lt hS rfl) (Std.at hS rfl rfl) (by omega) (by omega) ⟨by omega, by omega⟩ dX3_add_51 ?_
  refine v_aload_n X 0 dX3_add_52 rfl rfl ?_
  refine gt_X3_landing X iwX3 (Std.lt hS rfl) (Std.k hS rfl rfl) (List.mem_cons_of_mem _ bw_7_1) dX3_add_53 46 (Std.r hS 4 rfl) ?_
  refine v_iload_n X 1 dX3_add_56 rfl rfl ?_
  refine v_iload X 6 dX3_add_57 rfl ?_
  refine v_iast X (Std.lt hS rfl) (Std.at hS rfl rfl) (by omega) (by omega) ⟨by omega, by omega⟩ dX3_add_59 ?_
  refine v_aload_n X 0 dX3_add_60 rfl rfl ?_
  refine v_dup X dX3_add_61 rfl ?_
  refine gt_X3_size X iwX3 (Std.lt hS rfl) (Std.k hS rfl rfl) (List.mem_cons_of_mem _ bw_7_6) dX3_add_62 (M 41 5) rfl (fun hr6 => ?_)
  refine v_iconst X dX3_add_65 ?_
  refine v_iadd X dX3_add_66 ?_
  refine pt_X3_size X iwX3 (Std.lt hS rfl) (Std.k hS rfl rfl) (List.mem_cons_of_mem _ bw_7_6) ⟨by omega, by omega⟩ dX3_add_67 ?_
  refine v_aload_n X 0 dX3_add_70 rfl rfl ?_
  refine v_dup X dX3_add_71 rfl ?_
  refine gt_X3_worth X iwX3 (Std.lt hS rfl) (Std.k hS rfl rfl) (List.mem_cons_of_mem _ bw_7_7) dX3_add_72 (M 41 6) rfl (fun hr7 => ?_)
  refine v_iload_n X 2 dX3_add_75 rfl rfl ?_
  refine v_iadd X dX3_add_76 ?_
  refine pt_X3_worth X iwX3 (Std.lt hS rfl) (Std.k hS rfl rfl) (List.mem_cons_of_mem _ bw_7_7) ⟨by omega, by omega⟩ dX3_add_77 ?_
  refine hret _ _ _ _ _ _ _ _ _ _ _ none dX3_add_80 ⟨rfl, rfl⟩ (by decide) (by decide) (fun hmok => ?_)
  refine ⟨rfl, rfl, rfl, rfl, rfl, rfl, ?_⟩
  try dsimp only
  all_goals rfl

-- Flights.dropLast
set_option maxHeartbeats 4000000 in
set_option maxRecDepth 100000 in
theorem c_X3_dropLast_41 (l : Launch) (D : va_G) (cy : Nat → ClassId) {N : Nat} {sh : MS} {ad : Nat → Nat} {M L : MI} {R : MR} (hS : Std N sh R) (w : Int) (hw : inR w) (hz : 0 < M 41 5 ∧ M 41 5 ≤ 6) (hla : 0 ≤ M 42 (M 41 5 - 1) ∧ M 42 (M 41 5 - 1) < 6 ∧ M 44 (M 42 (M 41 5 - 1)) ≠ -1) (hW : inR (M 41 6 - w)) : Ctr l D cy yX3_dropLast wsX3_dropLast ({ frames := 1, cells := 0, slots := 0, locals := 21 } : Room) N sh ad M L R [.ref (ad 41), .int (iz w)] (eV N sh ad L R (fun M' => M' = (mu (mu (mu (mu (mu (mu (mu M 43 (M 42 (M 41 5 - 1)) (-1)) 44 (M 42 (M 41 5 - 1)) (-1)) 45 (M 42 (M 41 5 - 1)) (-1)) 46 (M 42 (M 41 5 - 1)) (-1)) 41 5 ((M 41 5) - 1)) 42 ((M 41 5) - 1) (-1)) 41 6 ((M 41 6) - w)))) := by
  refine Ctr.ofV (by decide) rfl (Nat.le_of_ble_eq_true rfl) ?_
  intro K hKl hKd hRm hnm X hret
  have X : VX K cX3_dropLast 3 wsX3_dropLast RX3 := X
  show V K 3 0 0 N sh ad M L R [(0, .ref (ad 41)), (1, .int (iz w))] [] 0
  refine v_aload_n X 0 dX3_dropLast_0 rfl rfl ?_
  refine v_callV X [] hRm (c_X3_lastAct_41 _ _ _ hS) (gV bw_36_5 bw_35_18 bw_35_19 bw_2_19 bw_35_20) rfl ddX3_lastAct (by decide) (Std.lt hS rfl) (Std.k hS rfl rfl) ⟨rfl, by decide⟩ (Nat.le_of_ble_eq_true rfl) dX3_dropLast_1 (k_pI (fun r1 hr2 e3 => ?_))
  rw [if_pos ⟨by omega, by omega⟩] at e3
  subst e3
  refine v_istore_n X [(2, .int (iz (M 42 (M 41 5 - 1)))), (0, .ref (ad 41)), (1, .int (iz w))] dX3_dropLast_4 rfl (by decide) rfl ?_
  refine v_aload_n X 1 dX3_dropLast_5 rfl rfl ?_
  refine v_iload_n X 0 dX3_dropLast_6 rfl rfl ?_
  refine v_callV X [.int (iz (M 42 (M 41 5 - 1)))] hRm (c_X3_has_41 _ _ _ hS (M 42 (M 41 5 - 1)) ⟨by omega, by omega⟩) (gV bw_36_6 bw_34_23 bw_35_0 bw_2_19 bw_35_1) rfl ddX3_has (by decide) (Std.lt hS rfl) (Std.k hS rfl rfl) ⟨rfl, by decide⟩ (Nat.le_of_ble_eq_true rfl) dX3_dropLast_7 (k_pB (fun b4 => ?_) (fun q => absurd (by omega) q))
  refine v_if_eq X 71 dX3_dropLast_10 (by decide) ⟨by decide, by decide⟩ (fun q => absurd q (by decide)) (fun _ => ?_)
  refine v_aload_n X 1 dX3_dropLast_13 rfl rfl ?_
  refine gt_X3_takeOff X iwX3 (Std.lt hS rfl) (Std.k hS rfl rfl) (List.mem_cons_of_mem _ bw_6_22) dX3_dropLast_14 43 (Std.r hS 1 rfl) ?_
  refine v_iload_n X 0 dX3_dropLast_17 rfl rfl ?_
  refine v_iconst X dX3_dropLast_18 ?_
  refine v_iast X (Std.lt hS rfl) (Std.at hS rfl rfl) (by omega) (by omega) ⟨by decide, by decide⟩ dX3_dropLast_19 ?_
  refine v_aload_n X 1 dX3_dropLast_20 rfl rfl ?_
  refine gt_X3_begin X iwX3 (Std.lt hS rfl) (Std.k hS rfl rfl) (List.mem_cons_of_mem _ bw_6_23) dX3_dropLast_21 44 (Std.r hS 2 rfl) ?_
  refine v_iload_n X 0 dX3_dropLast_24 rfl rfl ?_
  refine v_iconst X dX3_dropLast_25 ?_
  refine v_iast X (Std.lt hS rfl) (Std.at hS rfl rfl) (by omega) (by omega) ⟨by decide, by decide⟩ dX3_dropLast_26 ?_
  refine v_aload_n X 1 dX3_dropLast_27 rfl rfl ?_
  refine gt_X3_minutes X iwX3 (Std.lt hS rfl) (Std.k hS rfl rfl) (List.mem_cons_of_mem _ bw_7_0) dX3_dropLast_28 45 (Std.r hS 3 rfl) ?_
  refine v_iload_n X 0 dX3_dropLast_31 rfl rfl ?_
  refine v_iconst X dX3_dropLast_32 ?_
  refine v_iast X (Std.lt hS rfl) (Std.at hS rfl rfl) (by omega) (by omega) ⟨by decide, by decide⟩ dX3_dropLast_33 ?_
  refine v_aload_n X 1 dX3_dropLast_34 rfl rfl ?_
  refine gt_X3_landing X iwX3 (Std.lt hS rfl) (Std.k hS rfl rfl) (List.mem_cons_of_mem _ bw_7_1) dX3_dropLast_35 46 (Std.r hS 4 rfl) ?_
  refine v_iload_n X 0 dX3_dropLast_38 rfl rfl ?_
  refine v_iconst X dX3_dropLast_39 ?_
  refine v_iast X (Std.lt hS rfl) (Std.at hS rfl rfl) (by omega) (by omega) ⟨by decide, by decide⟩ dX3_dropLast_40 ?_
  refine v_aload_n X 1 dX3_dropLast_41 rfl rfl ?_
  refine v_dup X dX3_dropLast_42 rfl ?_
  refine gt_X3_size X iwX3 (Std.lt hS rfl) (Std.k hS rfl rfl) (List.mem_cons_of_mem _ bw_7_6) dX3_dropLast_43 (M 41 5) rfl (fun hr5 => ?_)
  refine v_iconst X dX3_dropLast_46 ?_
  refine v_isub X dX3_dropLast_47 ?_
  refine pt_X3_size X iwX3 (Std.lt hS rfl) (Std.k hS rfl rfl) (List.mem_cons_of_mem _ bw_7_6) ⟨by omega, by omega⟩ dX3_dropLast_48 ?_
  refine v_aload_n X 1 dX3_dropLast_51 rfl rfl ?_
  refine gt_X3_order X iwX3 (Std.lt hS rfl) (Std.k hS rfl rfl) (List.mem_cons_of_mem _ bw_6_21) dX3_dropLast_52 42 (Std.r hS 0 rfl) ?_
  refine v_aload_n X 1 dX3_dropLast_55 rfl rfl ?_
  refine gt_X3_size X iwX3 (Std.lt hS rfl) (Std.k hS rfl rfl) (List.mem_cons_of_mem _ bw_7_6) dX3_dropLast_56 ((M 41 5) - 1) rfl (fun hr6 => ?_)
  refine v_iconst X dX3_dropLast_59 ?_
  refine v_iast X (Std.lt hS rfl) (Std.at hS rfl rfl) (by omega) (by omega) ⟨by decide, by decide⟩ dX3_dropLast_60 ?_
  refine v_aload_n X 1 dX3_dropLast_61 rfl rfl ?_
  refine v_dup X dX3_dropLast_62 rfl ?_
  refine gt_X3_worth X iwX3 (Std.lt hS rfl) (Std.k hS rfl rfl) (List.mem_cons_of_mem _ bw_7_7) dX3_dropLast_63 (M 41 6) rfl (fun hr7 => ?_)
  refine v_iload_n X 2 dX3_dropLast_66 rfl rfl ?_
  refine v_isub X dX3_dropLast_67 ?_
  refine pt_X3_worth X iwX3 (Std.lt hS rfl) (Std.k hS rfl rfl) (List.mem_cons_of_mem _ bw_7_7) ⟨by omega, by omega⟩ dX3_dropLast_68 ?_
  refine hret _ _ _ _ _ _ _ _ _ _ _ none dX3_dropLast_71 ⟨rfl, rfl⟩ (by decide) (by decide) (fun hmok => ?_)
  refine ⟨rfl, rfl, rfl, rfl, rfl, rfl, ?_⟩
  try dsimp only
  all_goals rfl

-- Flights.clear
set_option maxHeartbeats 4000000 in
set_option maxRecDepth 100000 in
theorem c_X3_clear_47 (l : Launch) (D : va_G) (cy : Nat → ClassId) {N : Nat} {sh : MS} {ad : Nat → Nat} {M L : MI} {R : MR} (hS : Std N sh R) : Ctr l D cy yX3_clear wsX3_clear ({ frames := 1, cells := 0, slots := 0, locals := 23 } : Room) N sh ad M L R [.ref (ad 47)] (eV N sh ad L R (fun M' => M' = (mu (mu (mrow (mrow (mrow (mrow (mrow M 48 (filz (M 48) 6 (-1))) 49 (filz (M 49) 6 (-1))) 50 (filz (M 50) 6 (-1))) 51 (filz (M 51) 6 (-1))) 52 (filz (M 52) 6 (-1))) 47 5 0) 47 6 0))) := by
  refine Ctr.ofV (by decide) rfl (Nat.le_of_ble_eq_true rfl) ?_
  intro K hKl hKd hRm hnm X hret
  have X : VX K cX3_clear 1 wsX3_clear RX3 := X
  show V K 1 0 0 N sh ad M L R [(0, .ref (ad 47))] [] 0
  refine v_aload_n X 0 dX3_clear_0 rfl rfl ?_
  refine gt_X3_order X iwX3 (Std.lt hS rfl) (Std.k hS rfl rfl) (List.mem_cons_of_mem _ bw_6_21) dX3_clear_1 48 (Std.r hS 0 rfl) ?_
  refine v_iconst X dX3_clear_4 ?_
  refine v_callSO X [.ref (ad 48), .int (iz (-1))] hRm (c_J7_fill_53178 _ _ _ 48 6 (-1) (Std.lt hS rfl) (Std.at hS rfl rfl) ⟨by decide, by decide⟩ (by decide)) (gSO bw_7_8 bw_5_12 bw_5_13 bw_5_14) rfl ddJ7_fill_53178.2 (by decide) (Nat.le_of_ble_eq_true rfl) dX3_clear_5 (k_eV (fun M2 e1 => ?_))
  replace e1 : M2 = (mrow M 48 (filz (M 48) 6 (-1))) := e1
  subst e1
  refine v_aload_n X 0 dX3_clear_8 rfl rfl ?_
  refine gt_X3_takeOff X iwX3 (Std.lt hS rfl) (Std.k hS rfl rfl) (List.mem_cons_of_mem _ bw_6_22) dX3_clear_9 49 (Std.r hS 1 rfl) ?_
  refine v_iconst X dX3_clear_12 ?_
  refine v_callSO X [.ref (ad 49), .int (iz (-1))] hRm (c_J7_fill_53178 _ _ _ 49 6 (-1) (Std.lt hS rfl) (Std.at hS rfl rfl) ⟨by decide, by decide⟩ (by decide)) (gSO bw_7_8 bw_5_12 bw_5_13 bw_5_14) rfl ddJ7_fill_53178.2 (by decide) (Nat.le_of_ble_eq_true rfl) dX3_clear_13 (k_eV (fun M4 e3 => ?_))
  replace e3 : M4 = (mrow (mrow M 48 (filz (M 48) 6 (-1))) 49 (filz (M 49) 6 (-1))) := e3
  subst e3
  refine v_aload_n X 0 dX3_clear_16 rfl rfl ?_
  refine gt_X3_begin X iwX3 (Std.lt hS rfl) (Std.k hS rfl rfl) (List.mem_cons_of_mem _ bw_6_23) dX3_clear_17 50 (Std.r hS 2 rfl) ?_
  refine v_iconst X dX3_clear_20 ?_
  refine v_callSO X [.ref (ad 50), .int (iz (-1))] hRm (c_J7_fill_53178 _ _ _ 50 6 (-1) (Std.lt hS rfl) (Std.at hS rfl rfl) ⟨by decide, by decide⟩ (by decide)) (gSO bw_7_8 bw_5_12 bw_5_13 bw_5_14) rfl ddJ7_fill_53178.2 (by decide) (Nat.le_of_ble_eq_true rfl) dX3_clear_21 (k_eV (fun M6 e5 => ?_))
  replace e5 : M6 = (mrow (mrow (mrow M 48 (filz (M 48) 6 (-1))) 49 (filz (M 49) 6 (-1))) 50 (filz (M 50) 6 (-1))) := e5
  subst e5
  refine v_aload_n X 0 dX3_clear_24 rfl rfl ?_
  refine gt_X3_minutes X iwX3 (Std.lt hS rfl) (Std.k hS rfl rfl) (List.mem_cons_of_mem _ bw_7_0) dX3_clear_25 51 (Std.r hS 3 rfl) ?_
  refine v_iconst X dX3_clear_28 ?_
  refine v_callSO X [.ref (ad 51), .int (iz (-1))] hRm (c_J7_fill_53178 _ _ _ 51 6 (-1) (Std.lt hS rfl) (Std.at hS rfl rfl) ⟨by decide, by decide⟩ (by decide)) (gSO bw_7_8 bw_5_12 bw_5_13 bw_5_14) rfl ddJ7_fill_53178.2 (by decide) (Nat.le_of_ble_eq_true rfl) dX3_clear_29 (k_eV (fun M8 e7 => ?_))
  replace e7 : M8 = (mrow (mrow (mrow (mrow M 48 (filz (M 48) 6 (-1))) 49 (filz (M 49) 6 (-1))) 50 (filz (M 50) 6 (-1))) 51 (filz (M 51) 6 (-1))) := e7
  subst e7
  refine v_aload_n X 0 dX3_clear_32 rfl rfl ?_
  refine gt_X3_landing X iwX3 (Std.lt hS rfl) (Std.k hS rfl rfl) (List.mem_cons_of_mem _ bw_7_1) dX3_clear_33 52 (Std.r hS 4 rfl) ?_
  refine v_iconst X dX3_clear_36 ?_
  refine v_callSO X [.ref (ad 52), .int (iz (-1))] hRm (c_J7_fill_53178 _ _ _ 52 6 (-1) (Std.lt hS rfl) (Std.at hS rfl rfl) ⟨by decide, by decide⟩ (by decide)) (gSO bw_7_8 bw_5_12 bw_5_13 bw_5_14) rfl ddJ7_fill_53178.2 (by decide) (Nat.le_of_ble_eq_true rfl) dX3_clear_37 (k_eV (fun M10 e9 => ?_))
  replace e9 : M10 = (mrow (mrow (mrow (mrow (mrow M 48 (filz (M 48) 6 (-1))) 49 (filz (M 49) 6 (-1))) 50 (filz (M 50) 6 (-1))) 51 (filz (M 51) 6 (-1))) 52 (filz (M 52) 6 (-1))) := e9
  subst e9
  refine v_aload_n X 0 dX3_clear_40 rfl rfl ?_
  refine v_iconst X dX3_clear_41 ?_
  refine pt_X3_size X iwX3 (Std.lt hS rfl) (Std.k hS rfl rfl) (List.mem_cons_of_mem _ bw_7_6) ⟨by decide, by decide⟩ dX3_clear_42 ?_
  refine v_aload_n X 0 dX3_clear_45 rfl rfl ?_
  refine v_iconst X dX3_clear_46 ?_
  refine pt_X3_worth X iwX3 (Std.lt hS rfl) (Std.k hS rfl rfl) (List.mem_cons_of_mem _ bw_7_7) ⟨by decide, by decide⟩ dX3_clear_47 ?_
  refine hret _ _ _ _ _ _ _ _ _ _ _ none dX3_clear_50 ⟨rfl, rfl⟩ (by decide) (by decide) (fun hmok => ?_)
  refine ⟨rfl, rfl, rfl, rfl, rfl, rfl, ?_⟩
  try dsimp only
  all_goals rfl

-- Flights.has
set_option maxHeartbeats 4000000 in
set_option maxRecDepth 100000 in
theorem c_X3_has_47 (l : Launch) (D : va_G) (cy : Nat → ClassId) {N : Nat} {sh : MS} {ad : Nat → Nat} {M L : MI} {R : MR} (hS : Std N sh R) (a : Int) (ha : inR a) : Ctr l D cy yX3_has wsX3_has ({ frames := 0, cells := 0, slots := 0, locals := 0 } : Room) N sh ad M L R [.ref (ad 47), .int (iz a)] (pB N sh ad M L R (0 ≤ a ∧ a < 6 ∧ M 50 a ≠ -1)) := by
  refine Ctr.ofZ (by decide) rfl (Nat.le_of_ble_eq_true rfl) ?_
  intro K hKl hKd hRm hnm X hret
  have X : VX K cX3_has 2 wsX3_has RX3 := X
  show V K 2 0 0 N sh ad M L R [(0, .ref (ad 47)), (1, .int (iz a))] [] 0
  refine v_iload_n X 1 dX3_has_0 rfl rfl ?_
  refine v_if_lt X 24 dX3_has_1 (by decide) ⟨by omega, by omega⟩ (fun u1 => ?_) (fun u1 => ?_)
  · skip
    refine v_iconst X dX3_has_24 ?_
    refine hret _ _ _ _ _ _ _ _ _ _ _ (some (.int (iz 0))) dX3_has_25 ⟨rfl, 0, ⟨by omega, by omega⟩, rfl⟩ (by decide) (by decide) (fun hmok => ?_)
    refine ⟨rfl, rfl, rfl, rfl, rfl, rfl, 0, rfl, Or.inr ⟨rfl, ?_⟩⟩
    omega
  · skip
    refine v_iload_n X 1 dX3_has_4 rfl rfl ?_
    refine v_bipush X dX3_has_5 (by decide) ?_
    refine v_icmp_ge X 24 dX3_has_7 (by decide) ⟨by omega, by omega⟩ ⟨by decide, by decide⟩ (fun u2 => ?_) (fun u2 => ?_)
    · skip
      refine v_iconst X dX3_has_24 ?_
      refine hret _ _ _ _ _ _ _ _ _ _ _ (some (.int (iz 0))) dX3_has_25 ⟨rfl, 0, ⟨by omega, by omega⟩, rfl⟩ (by decide) (by decide) (fun hmok => ?_)
      refine ⟨rfl, rfl, rfl, rfl, rfl, rfl, 0, rfl, Or.inr ⟨rfl, ?_⟩⟩
      omega
    · skip
      refine v_aload_n X 0 dX3_has_10 rfl rfl ?_
      refine gt_X3_begin X iwX3 (Std.lt hS rfl) (Std.k hS rfl rfl) (List.mem_cons_of_mem _ bw_6_23) dX3_has_11 50 (Std.r hS 2 rfl) ?_
      refine v_iload_n X 1 dX3_has_14 rfl rfl ?_
      refine v_iald X (M 50 a) (Std.lt hS rfl) (Std.at hS rfl rfl) (by omega) (by omega) dX3_has_15 rfl (fun hr3 => ?_)
      refine v_iconst X dX3_has_16 ?_
      refine v_icmp_eq X 24 dX3_has_17 (by decide) ⟨by omega, by omega⟩ ⟨by decide, by decide⟩ (fun u4 => ?_) (fun u4 => ?_)
      · skip
        refine v_iconst X dX3_has_24 ?_
        refine hret _ _ _ _ _ _ _ _ _ _ _ (some (.int (iz 0))) dX3_has_25 ⟨rfl, 0, ⟨by omega, by omega⟩, rfl⟩ (by decide) (by decide) (fun hmok => ?_)
        refine ⟨rfl, rfl, rfl, rfl, rfl, rfl, 0, rfl, Or.inr ⟨rfl, ?_⟩⟩
        omega
      · skip
        refine v_iconst X dX3_has_20 ?_
        refine v_goto X 25 dX3_has_21 (by decide) ?_
        refine hret _ _ _ _ _ _ _ _ _ _ _ (some (.int (iz 1))) dX3_has_25 ⟨rfl, 1, ⟨by omega, by omega⟩, rfl⟩ (by decide) (by decide) (fun hmok => ?_)
        refine ⟨rfl, rfl, rfl, rfl, rfl, rfl, 1, rfl, Or.inl ⟨rfl, ?_⟩⟩
        omega

-- Flights.lastAct
set_option maxHeartbeats 4000000 in
set_option maxRecDepth 100000 in
theorem c_X3_lastAct_47 (l : Launch) (D : va_G) (cy : Nat → ClassId) {N : Nat} {sh : MS} {ad : Nat → Nat} {M L : MI} {R : MR} (hS : Std N sh R) : Ctr l D cy yX3_lastAct wsX3_lastAct ({ frames := 0, cells := 0, slots := 0, locals := 0 } : Room) N sh ad M L R [.ref (ad 47)] (pI N sh ad M L R (fun r => r = (if 0 < M 47 5 ∧ M 47 5 ≤ 6 then M 48 (M 47 5 - 1) else -1))) := by
  refine Ctr.ofI (by decide) rfl (Nat.le_of_ble_eq_true rfl) ?_
  intro K hKl hKd hRm hnm X hret
  have X : VX K cX3_lastAct 1 wsX3_lastAct RX3 := X
  show V K 1 0 0 N sh ad M L R [(0, .ref (ad 47))] [] 0
  refine v_aload_n X 0 dX3_lastAct_0 rfl rfl ?_
  refine gt_X3_size X iwX3 (Std.lt hS rfl) (Std.k hS rfl rfl) (List.mem_cons_of_mem _ bw_7_6) dX3_lastAct_1 (M 47 5) rfl (fun hr1 => ?_)
  refine v_if_le X 30 dX3_lastAct_4 (by decide) ⟨by omega, by omega⟩ (fun u2 => ?_) (fun u2 => ?_)
  · skip
    refine v_iconst X dX3_lastAct_30 ?_
    refine hret _ _ _ _ _ _ _ _ _ _ _ (some (.int (iz (-1)))) dX3_lastAct_31 ⟨rfl, _, rfl⟩ (by decide) (by decide) (fun hmok => ?_)
    refine ⟨rfl, rfl, rfl, rfl, rfl, rfl, (-1), rfl, ⟨by decide, by decide⟩, ?_⟩
    try dsimp only
    split <;> omega
  · skip
    refine v_aload_n X 0 dX3_lastAct_7 rfl rfl ?_
    refine gt_X3_size X iwX3 (Std.lt hS rfl) (Std.k hS rfl rfl) (List.mem_cons_of_mem _ bw_7_6) dX3_lastAct_8 (M 47 5) rfl (fun hr3 => ?_)
    refine v_bipush X dX3_lastAct_11 (by decide) ?_
    refine v_icmp_gt X 30 dX3_lastAct_13 (by decide) ⟨by omega, by omega⟩ ⟨by decide, by decide⟩ (fun u4 => ?_) (fun u4 => ?_)
    · skip
      refine v_iconst X dX3_lastAct_30 ?_
      refine hret _ _ _ _ _ _ _ _ _ _ _ (some (.int (iz (-1)))) dX3_lastAct_31 ⟨rfl, _, rfl⟩ (by decide) (by decide) (fun hmok => ?_)
      refine ⟨rfl, rfl, rfl, rfl, rfl, rfl, (-1), rfl, ⟨by decide, by decide⟩, ?_⟩
      try dsimp only
      split <;> omega
    · skip
      refine v_aload_n X 0 dX3_lastAct_16 rfl rfl ?_
      refine gt_X3_order X iwX3 (Std.lt hS rfl) (Std.k hS rfl rfl) (List.mem_cons_of_mem _ bw_6_21) dX3_lastAct_17 48 (Std.r hS 0 rfl) ?_
      refine v_aload_n X 0 dX3_lastAct_20 rfl rfl ?_
      refine gt_X3_size X iwX3 (Std.lt hS rfl) (Std.k hS rfl rfl) (List.mem_cons_of_mem _ bw_7_6) dX3_lastAct_21 (M 47 5) rfl (fun hr5 => ?_)
      refine v_iconst X dX3_lastAct_24 ?_
      refine v_isub X dX3_lastAct_25 ?_
      refine v_iald X (M 48 ((M 47 5) - 1)) (Std.lt hS rfl) (Std.at hS rfl rfl) (by omega) (by omega) dX3_lastAct_26 rfl (fun hr6 => ?_)
      refine v_goto X 31 dX3_lastAct_27 (by decide) ?_
      refine hret _ _ _ _ _ _ _ _ _ _ _ (some (.int (iz (M 48 ((M 47 5) - 1))))) dX3_lastAct_31 ⟨rfl, _, rfl⟩ (by decide) (by decide) (fun hmok => ?_)
      refine ⟨rfl, rfl, rfl, rfl, rfl, rfl, (M 48 ((M 47 5) - 1)), rfl, ⟨by omega, by omega⟩, ?_⟩
      try dsimp only
      split <;> omega

-- Flights.end
set_option maxHeartbeats 4000000 in
set_option maxRecDepth 100000 in
theorem c_X3_end_47 (l : Launch) (D : va_G) (cy : Nat → ClassId) {N : Nat} {sh : MS} {ad : Nat → Nat} {M L : MI} {R : MR} (hS : Std N sh R) (hE : ∀ k : Int, 0 ≤ k → k < 6 → inR (M 50 k + M 51 k)) : Ctr l D cy yX3_end wsX3_end ({ frames := 1, cells := 0, slots := 0, locals := 21 } : Room) N sh ad M L R [.ref (ad 47)] (pI N sh ad M L R (fun r => r = (fun a => if 0 ≤ a ∧ a < 6 ∧ M 50 a ≠ -1 then M 50 a + M 51 a else 0) (if 0 < M 47 5 ∧ M 47 5 ≤ 6 then M 48 (M 47 5 - 1) else -1))) := by
  refine Ctr.ofI (by decide) rfl (Nat.le_of_ble_eq_true rfl) ?_
  intro K hKl hKd hRm hnm X hret
  have X : VX K cX3_end 2 wsX3_end RX3 := X
  show V K 2 0 0 N sh ad M L R [(0, .ref (ad 47))] [] 0
  refine v_aload_n X 0 dX3_end_0 rfl rfl ?_
  refine v_callV X [] hRm (c_X3_lastAct_47 _ _ _ hS) (gV bw_36_5 bw_35_18 bw_35_19 bw_2_19 bw_35_20) rfl ddX3_lastAct (by decide) (Std.lt hS rfl) (Std.k hS rfl rfl) ⟨rfl, by decide⟩ (Nat.le_of_ble_eq_true rfl) dX3_end_1 (k_pI (fun r1 hr2 e3 => ?_))
  refine v_istore_n X [(1, .int (iz r1)), (0, .ref (ad 47))] dX3_end_4 rfl (by decide) rfl ?_
  refine v_aload_n X 1 dX3_end_5 rfl rfl ?_
  refine v_iload_n X 0 dX3_end_6 rfl rfl ?_
  refine v_callV X [.int (iz r1)] hRm (c_X3_has_47 _ _ _ hS r1 ⟨by omega, by omega⟩) (gV bw_36_6 bw_34_23 bw_35_0 bw_2_19 bw_35_1) rfl ddX3_has (by decide) (Std.lt hS rfl) (Std.k hS rfl rfl) ⟨rfl, by decide⟩ (Nat.le_of_ble_eq_true rfl) dX3_end_7 (k_pB (fun b4 => ?_) (fun b4 => ?_))
  · skip
    refine v_if_eq X 29 dX3_end_10 (by decide) ⟨by decide, by decide⟩ (fun q => absurd q (by decide)) (fun _ => ?_)
    refine v_aload_n X 1 dX3_end_13 rfl rfl ?_
    refine gt_X3_begin X iwX3 (Std.lt hS rfl) (Std.k hS rfl rfl) (List.mem_cons_of_mem _ bw_6_23) dX3_end_14 50 (Std.r hS 2 rfl) ?_
    refine v_iload_n X 0 dX3_end_17 rfl rfl ?_
    refine v_iald X (M 50 r1) (Std.lt hS rfl) (Std.at hS rfl rfl) (by omega) (by omega) dX3_end_18 rfl (fun hr5 => ?_)
    refine v_aload_n X 1 dX3_end_19 rfl rfl ?_
    refine gt_X3_minutes X iwX3 (Std.lt hS rfl) (Std.k hS rfl rfl) (List.mem_cons_of_mem _ bw_7_0) dX3_end_20 51 (Std.r hS 3 rfl) ?_
    refine v_iload_n X 0 dX3_end_23 rfl rfl ?_
    refine v_iald X (M 51 r1) (Std.lt hS rfl) (Std.at hS rfl rfl) (by omega) (by omega) dX3_end_24 rfl (fun hr6 => ?_)
    have hE1 := hE r1 (by omega) (by omega)
    refine v_iadd X dX3_end_25 ?_
    refine v_goto X 30 dX3_end_26 (by decide) ?_
    refine hret _ _ _ _ _ _ _ _ _ _ _ (some (.int (iz ((M 50 r1) + (M 51 r1))))) dX3_end_30 ⟨rfl, _, rfl⟩ (by decide) (by decide) (fun hmok => ?_)
    refine ⟨rfl, rfl, rfl, rfl, rfl, rfl, ((M 50 r1) + (M 51 r1)), rfl, ⟨by omega, by omega⟩, ?_⟩
    try dsimp only
    rw [← e3]
    rw [if_pos ⟨by omega, by omega, by omega⟩]
  · skip
    refine v_if_eq X 29 dX3_end_10 (by decide) ⟨by decide, by decide⟩ (fun _ => ?_) (fun q => absurd (by decide) q)
    refine v_iconst X dX3_end_29 ?_
    refine hret _ _ _ _ _ _ _ _ _ _ _ (some (.int (iz 0))) dX3_end_30 ⟨rfl, _, rfl⟩ (by decide) (by decide) (fun hmok => ?_)
    refine ⟨rfl, rfl, rfl, rfl, rfl, rfl, 0, rfl, ⟨by decide, by decide⟩, ?_⟩
    try dsimp only
    rw [← e3]
    rw [if_neg (by omega)]

-- Flights.lastLanding
set_option maxHeartbeats 4000000 in
set_option maxRecDepth 100000 in
theorem c_X3_lastLanding_47 (l : Launch) (D : va_G) (cy : Nat → ClassId) {N : Nat} {sh : MS} {ad : Nat → Nat} {M L : MI} {R : MR} (hS : Std N sh R) : Ctr l D cy yX3_lastLanding wsX3_lastLanding ({ frames := 1, cells := 0, slots := 0, locals := 13 } : Room) N sh ad M L R [.ref (ad 47)] (pI N sh ad M L R (fun r => r = lastL (M 52))) := by
  refine Ctr.ofI (by decide) rfl (Nat.le_of_ble_eq_true rfl) ?_
  intro K hKl hKd hRm hnm X hret
  have X : VX K cX3_lastLanding 3 wsX3_lastLanding RX3 := X
  show V K 3 0 0 N sh ad M L R [(0, .ref (ad 47))] [] 0
  refine v_iconst X dX3_lastLanding_0 ?_
  refine v_istore_n X [(1, .int (iz (-1))), (0, .ref (ad 47))] dX3_lastLanding_1 rfl (by decide) rfl ?_
  refine v_iconst X dX3_lastLanding_2 ?_
  refine v_istore_n X [(2, .int (iz 0)), (1, .int (iz (-1))), (0, .ref (ad 47))] dX3_lastLanding_3 rfl (by decide) rfl ?_
  refine v_iload_n X 0 dX3_lastLanding_4 rfl rfl ?_
  refine v_bipush X dX3_lastLanding_5 (by decide) ?_
  refine v_icmp_ge X 27 dX3_lastLanding_7 (by decide) ⟨by decide, by decide⟩ ⟨by decide, by decide⟩ (fun q => absurd q (by decide)) (fun _ => ?_)
  refine v_iload_n X 1 dX3_lastLanding_10 rfl rfl ?_
  refine v_aload_n X 2 dX3_lastLanding_11 rfl rfl ?_
  refine gt_X3_landing X iwX3 (Std.lt hS rfl) (Std.k hS rfl rfl) (List.mem_cons_of_mem _ bw_7_1) dX3_lastLanding_12 52 (Std.r hS 4 rfl) ?_
  refine v_iload_n X 0 dX3_lastLanding_15 rfl rfl ?_
  refine v_iald X (M 52 0) (Std.lt hS rfl) (Std.at hS rfl rfl) (by omega) (by omega) dX3_lastLanding_16 rfl (fun hr1 => ?_)
  obtain ⟨x2, u3⟩ : ∃ z : Int, z = max (-1) (M 52 0) := ⟨_, rfl⟩
  refine v_max X x2 hRm (List.mem_cons_of_mem _ bw_34_8) (List.mem_cons_of_mem _ bw_18_7) (List.mem_cons_of_mem _ bw_18_8) (List.mem_cons_of_mem _ bw_18_9) ⟨Nat.le_of_ble_eq_true rfl, Nat.le_of_ble_eq_true rfl, Nat.le_of_ble_eq_true rfl, Nat.le_of_ble_eq_true rfl⟩ ⟨by decide, by decide⟩ ⟨by omega, by omega⟩ u3 dX3_lastLanding_17 ?_
  refine v_istore_n X [(1, .int (iz x2)), (2, .int (iz 0)), (0, .ref (ad 47))] dX3_lastLanding_20 rfl (by decide) rfl ?_
  refine v_iinc X 1 [(2, .int (iz 1)), (1, .int (iz x2)), (0, .ref (ad 47))] dX3_lastLanding_21 rfl (by decide) rfl ?_
  refine v_goto X 4 dX3_lastLanding_24 (by decide) ?_
  refine v_iload_n X 0 dX3_lastLanding_4 rfl rfl ?_
  refine v_bipush X dX3_lastLanding_5 (by decide) ?_
  refine v_icmp_ge X 27 dX3_lastLanding_7 (by decide) ⟨by decide, by decide⟩ ⟨by decide, by decide⟩ (fun q => absurd q (by decide)) (fun _ => ?_)
  refine v_iload_n X 1 dX3_lastLanding_10 rfl rfl ?_
  refine v_aload_n X 2 dX3_lastLanding_11 rfl rfl ?_
  refine gt_X3_landing X iwX3 (Std.lt hS rfl) (Std.k hS rfl rfl) (List.mem_cons_of_mem _ bw_7_1) dX3_lastLanding_12 52 (Std.r hS 4 rfl) ?_
  refine v_iload_n X 0 dX3_lastLanding_15 rfl rfl ?_
  refine v_iald X (M 52 1) (Std.lt hS rfl) (Std.at hS rfl rfl) (by omega) (by omega) dX3_lastLanding_16 rfl (fun hr4 => ?_)
  obtain ⟨x5, u6⟩ : ∃ z : Int, z = max x2 (M 52 1) := ⟨_, rfl⟩
  refine v_max X x5 hRm (List.mem_cons_of_mem _ bw_34_8) (List.mem_cons_of_mem _ bw_18_7) (List.mem_cons_of_mem _ bw_18_8) (List.mem_cons_of_mem _ bw_18_9) ⟨Nat.le_of_ble_eq_true rfl, Nat.le_of_ble_eq_true rfl, Nat.le_of_ble_eq_true rfl, Nat.le_of_ble_eq_true rfl⟩ ⟨by omega, by omega⟩ ⟨by omega, by omega⟩ u6 dX3_lastLanding_17 ?_
  refine v_istore_n X [(1, .int (iz x5)), (2, .int (iz 1)), (0, .ref (ad 47))] dX3_lastLanding_20 rfl (by decide) rfl ?_
  refine v_iinc X 1 [(2, .int (iz 2)), (1, .int (iz x5)), (0, .ref (ad 47))] dX3_lastLanding_21 rfl (by decide) rfl ?_
  refine v_goto X 4 dX3_lastLanding_24 (by decide) ?_
  refine v_iload_n X 0 dX3_lastLanding_4 rfl rfl ?_
  refine v_bipush X dX3_lastLanding_5 (by decide) ?_
  refine v_icmp_ge X 27 dX3_lastLanding_7 (by decide) ⟨by decide, by decide⟩ ⟨by decide, by decide⟩ (fun q => absurd q (by decide)) (fun _ => ?_)
  refine v_iload_n X 1 dX3_lastLanding_10 rfl rfl ?_
  refine v_aload_n X 2 dX3_lastLanding_11 rfl rfl ?_
  refine gt_X3_landing X iwX3 (Std.lt hS rfl) (Std.k hS rfl rfl) (List.mem_cons_of_mem _ bw_7_1) dX3_lastLanding_12 52 (Std.r hS 4 rfl) ?_
  refine v_iload_n X 0 dX3_lastLanding_15 rfl rfl ?_
  refine v_iald X (M 52 2) (Std.lt hS rfl) (Std.at hS rfl rfl) (by omega) (by omega) dX3_lastLanding_16 rfl (fun hr7 => ?_)
  obtain ⟨x8, u9⟩ : ∃ z : Int, z = max x5 (M 52 2) := ⟨_, rfl⟩
  refine v_max X x8 hRm (List.mem_cons_of_mem _ bw_34_8) (List.mem_cons_of_mem _ bw_18_7) (List.mem_cons_of_mem _ bw_18_8) (List.mem_cons_of_mem _ bw_18_9) ⟨Nat.le_of_ble_eq_true rfl, Nat.le_of_ble_eq_true rfl, Nat.le_of_ble_eq_true rfl, Nat.le_of_ble_eq_true rfl⟩ ⟨by omega, by omega⟩ ⟨by omega, by omega⟩ u9 dX3_lastLanding_17 ?_
  refine v_istore_n X [(1, .int (iz x8)), (2, .int (iz 2)), (0, .ref (ad 47))] dX3_lastLanding_20 rfl (by decide) rfl ?_
  refine v_iinc X 1 [(2, .int (iz 3)), (1, .int (iz x8)), (0, .ref (ad 47))] dX3_lastLanding_21 rfl (by decide) rfl ?_
  refine v_goto X 4 dX3_lastLanding_24 (by decide) ?_
  refine v_iload_n X 0 dX3_lastLanding_4 rfl rfl ?_
  refine v_bipush X dX3_lastLanding_5 (by decide) ?_
  refine v_icmp_ge X 27 dX3_lastLanding_7 (by decide) ⟨by decide, by decide⟩ ⟨by decide, by decide⟩ (fun q => absurd q (by decide)) (fun _ => ?_)
  refine v_iload_n X 1 dX3_lastLanding_10 rfl rfl ?_
  refine v_aload_n X 2 dX3_lastLanding_11 rfl rfl ?_
  refine gt_X3_landing X iwX3 (Std.lt hS rfl) (Std.k hS rfl rfl) (List.mem_cons_of_mem _ bw_7_1) dX3_lastLanding_12 52 (Std.r hS 4 rfl) ?_
  refine v_iload_n X 0 dX3_lastLanding_15 rfl rfl ?_
  refine v_iald X (M 52 3) (Std.lt hS rfl) (Std.at hS rfl rfl) (by omega) (by omega) dX3_lastLanding_16 rfl (fun hr10 => ?_)
  obtain ⟨x11, u12⟩ : ∃ z : Int, z = max x8 (M 52 3) := ⟨_, rfl⟩
  refine v_max X x11 hRm (List.mem_cons_of_mem _ bw_34_8) (List.mem_cons_of_mem _ bw_18_7) (List.mem_cons_of_mem _ bw_18_8) (List.mem_cons_of_mem _ bw_18_9) ⟨Nat.le_of_ble_eq_true rfl, Nat.le_of_ble_eq_true rfl, Nat.le_of_ble_eq_true rfl, Nat.le_of_ble_eq_true rfl⟩ ⟨by omega, by omega⟩ ⟨by omega, by omega⟩ u12 dX3_lastLanding_17 ?_
  refine v_istore_n X [(1, .int (iz x11)), (2, .int (iz 3)), (0, .ref (ad 47))] dX3_lastLanding_20 rfl (by decide) rfl ?_
  refine v_iinc X 1 [(2, .int (iz 4)), (1, .int (iz x11)), (0, .ref (ad 47))] dX3_lastLanding_21 rfl (by decide) rfl ?_
  refine v_goto X 4 dX3_lastLanding_24 (by decide) ?_
  refine v_iload_n X 0 dX3_lastLanding_4 rfl rfl ?_
  refine v_bipush X dX3_lastLanding_5 (by decide) ?_
  refine v_icmp_ge X 27 dX3_lastLanding_7 (by decide) ⟨by decide, by decide⟩ ⟨by decide, by decide⟩ (fun q => absurd q (by decide)) (fun _ => ?_)
  refine v_iload_n X 1 dX3_lastLanding_10 rfl rfl ?_
  refine v_aload_n X 2 dX3_lastLanding_11 rfl rfl ?_
  refine gt_X3_landing X iwX3 (Std.lt hS rfl) (Std.k hS rfl rfl) (List.mem_cons_of_mem _ bw_7_1) dX3_lastLanding_12 52 (Std.r hS 4 rfl) ?_
  refine v_iload_n X 0 dX3_lastLanding_15 rfl rfl ?_
  refine v_iald X (M 52 4) (Std.lt hS rfl) (Std.at hS rfl rfl) (by omega) (by omega) dX3_lastLanding_16 rfl (fun hr13 => ?_)
  obtain ⟨x14, u15⟩ : ∃ z : Int, z = max x11 (M 52 4) := ⟨_, rfl⟩
  refine v_max X x14 hRm (List.mem_cons_of_mem _ bw_34_8) (List.mem_cons_of_mem _ bw_18_7) (List.mem_cons_of_mem _ bw_18_8) (List.mem_cons_of_mem _ bw_18_9) ⟨Nat.le_of_ble_eq_true rfl, Nat.le_of_ble_eq_true rfl, Nat.le_of_ble_eq_true rfl, Nat.le_of_ble_eq_true rfl⟩ ⟨by omega, by omega⟩ ⟨by omega, by omega⟩ u15 dX3_lastLanding_17 ?_
  refine v_istore_n X [(1, .int (iz x14)), (2, .int (iz 4)), (0, .ref (ad 47))] dX3_lastLanding_20 rfl (by decide) rfl ?_
  refine v_iinc X 1 [(2, .int (iz 5)), (1, .int (iz x14)), (0, .ref (ad 47))] dX3_lastLanding_21 rfl (by decide) rfl ?_
  refine v_goto X 4 dX3_lastLanding_24 (by decide) ?_
  refine v_iload_n X 0 dX3_lastLanding_4 rfl rfl ?_
  refine v_bipush X dX3_lastLanding_5 (by decide) ?_
  refine v_icmp_ge X 27 dX3_lastLanding_7 (by decide) ⟨by decide, by decide⟩ ⟨by decide, by decide⟩ (fun q => absurd q (by decide)) (fun _ => ?_)
  refine v_iload_n X 1 dX3_lastLanding_10 rfl rfl ?_
  refine v_aload_n X 2 dX3_lastLanding_11 rfl rfl ?_
  refine gt_X3_landing X iwX3 (Std.lt hS rfl) (Std.k hS rfl rfl) (List.mem_cons_of_mem _ bw_7_1) dX3_lastLanding_12 52 (Std.r hS 4 rfl) ?_
  refine v_iload_n X 0 dX3_lastLanding_15 rfl rfl ?_
  refine v_iald X (M 52 5) (Std.lt hS rfl) (Std.at hS rfl rfl) (by omega) (by omega) dX3_lastLanding_16 rfl (fun hr16 => ?_)
  obtain ⟨x17, u18⟩ : ∃ z : Int, z = max x14 (M 52 5) := ⟨_, rfl⟩
  refine v_max X x17 hRm (List.mem_cons_of_mem _ bw_34_8) (List.mem_cons_of_mem _ bw_18_7) (List.mem_cons_of_mem _ bw_18_8) (List.mem_cons_of_mem _ bw_18_9) ⟨Nat.le_of_ble_eq_true rfl, Nat.le_of_ble_eq_true rfl, Nat.le_of_ble_eq_true rfl, Nat.le_of_ble_eq_true rfl⟩ ⟨by omega, by omega⟩ ⟨by omega, by omega⟩ u18 dX3_lastLanding_17 ?_
  refine v_istore_n X [(1, .int (iz x17)), (2, .int (iz 5)), (0, .ref (ad 47))] dX3_lastLanding_20 rfl (by decide) rfl ?_
  refine v_iinc X 1 [(2, .int (iz 6)), (1, .int (iz x17)), (0, .ref (ad 47))] dX3_lastLanding_21 rfl (by decide) rfl ?_
  refine v_goto X 4 dX3_lastLanding_24 (by decide) ?_
  refine v_iload_n X 0 dX3_lastLanding_4 rfl rfl ?_
  refine v_bipush X dX3_lastLanding_5 (by decide) ?_
  refine v_icmp_ge X 27 dX3_lastLanding_7 (by decide) ⟨by decide, by decide⟩ ⟨by decide, by decide⟩ (fun _ => ?_) (fun q => absurd (by decide) q)
  refine v_iload_n X 1 dX3_lastLanding_27 rfl rfl ?_
  refine hret _ _ _ _ _ _ _ _ _ _ _ (some (.int (iz x17))) dX3_lastLanding_28 ⟨rfl, _, rfl⟩ (by decide) (by decide) (fun hmok => ?_)
  refine ⟨rfl, rfl, rfl, rfl, rfl, rfl, x17, rfl, ⟨by omega, by omega⟩, ?_⟩
  try dsimp only
  unfold lastL
  omega

-- Flights.add
set_option maxHeartbeats 4000000 in
set_option maxRecDepth 100000 in
theorem c_X3_add_47 (l : Launch) (D : va_G) (cy : Nat → ClassId) {N : Nat} {sh : MS} {ad : Nat → Nat} {M L : MI} {R : MR} (hS : Std N sh R) (a w c b m d : Int) (ha : 0 ≤ a ∧ a < 6) (hw : inR w) (hc : inR c) (hb : inR b) (hm : inR m) (hd : inR d) (hz : 0 ≤ M 47 5 ∧ M 47 5 < 6) (hW : inR (M 47 6 + w)) : Ctr l D cy yX3_add wsX3_add ({ frames := 0, cells := 0, slots := 0, locals := 0 } : Room) N sh ad M L R [.ref (ad 47), .int (iz a), .int (iz w), .int (iz c), .int (iz b), .int (iz m), .int (iz d)] (eV N sh ad L R (fun M' => M' = (mu (mu (mu (mu (mu (mu (mu M 48 (M 47 5) a) 49 a c) 50 a b) 51 a m) 52 a d) 47 5 ((M 47 5) + 1)) 47 6 ((M 47 6) + w)))) := by
  refine Ctr.ofV (by decide) rfl (Nat.le_of_ble_eq_true rfl) ?_
  intro K hKl hKd hRm hnm X hret
  have X : VX K cX3_add 7 wsX3_add RX3 := X
  show V K 7 0 0 N sh ad M L R [(0, .ref (ad 47)), (1, .int (iz a)), (2, .int (iz w)), (3, .int (iz c)), (4, .int (iz b)), (5, .int (iz m)), (6, .int (iz d))] [] 0
  refine v_aload_n X 0 dX3_add_0 rfl rfl ?_
  refine gt_X3_size X iwX3 (Std.lt hS rfl) (Std.k hS rfl rfl) (List.mem_cons_of_mem _ bw_7_6) dX3_add_1 (M 47 5) rfl (fun hr1 => ?_)
  refine v_bipush X dX3_add_4 (by decide) ?_
  refine v_icmp_ge X 80 dX3_add_6 (by decide) ⟨by omega, by omega⟩ ⟨by decide, by decide⟩ (fun q => absurd q (by omega)) (fun u2 => ?_)
  refine v_iload_n X 1 dX3_add_9 rfl rfl ?_
  refine v_if_lt X 80 dX3_add_10 (by decide) ⟨by omega, by omega⟩ (fun q => absurd q (by omega)) (fun u3 => ?_)
  refine v_iload_n X 1 dX3_add_13 rfl rfl ?_
  refine v_bipush X dX3_add_14 (by decide) ?_
  refine v_icmp_ge X 80 dX3_add_16 (by decide) ⟨by omega, by omega⟩ ⟨by decide, by decide⟩ (fun q => absurd q (by omega)) (fun u4 => ?_)
  refine v_aload_n X 0 dX3_add_19 rfl rfl ?_
  refine gt_X3_order X iwX3 (Std.lt hS rfl) (Std.k hS rfl rfl) (List.mem_cons_of_mem _ bw_6_21) dX3_add_20 48 (Std.r hS 0 rfl) ?_
  refine v_aload_n X 0 dX3_add_23 rfl rfl ?_
  refine gt_X3_size X iwX3 (Std.lt hS rfl) (Std.k hS rfl rfl) (List.mem_cons_of_mem _ bw_7_6) dX3_add_24 (M 47 5) rfl (fun hr5 => ?_)
  refine v_iload_n X 1 dX3_add_27 rfl rfl ?_
  refine v_iast X (Std.lt hS rfl) (Std.at hS rfl rfl) (by omega) (by omega) ⟨by omega, by omega⟩ dX3_add_28 ?_
  refine v_aload_n X 0 dX3_add_29 rfl rfl ?_
  refine gt_X3_takeOff X iwX3 (Std.lt hS rfl) (Std.k hS rfl rfl) (List.mem_cons_of_mem _ bw_6_22) dX3_add_30 49 (Std.r hS 1 rfl) ?_
  refine v_iload_n X 1 dX3_add_33 rfl rfl ?_
  refine v_iload_n X 3 dX3_add_34 rfl rfl ?_
  refine v_iast X (Std.lt hS rfl) (Std.at hS rfl rfl) (by omega) (by omega) ⟨by omega, by omega⟩ dX3_add_35 ?_
  refine v_aload_n X 0 dX3_add_36 rfl rfl ?_
  refine gt_X3_begin X iwX3 (Std.lt hS rfl) (Std.k hS rfl rfl) (List.mem_cons_of_mem _ bw_6_23) dX3_add_37 50 (Std.r hS 2 rfl) ?_
  refine v_iload_n X 1 dX3_add_40 rfl rfl ?_
  refine v_iload X 4 dX3_add_41 rfl ?_
  refine v_iast X (Std.lt hS rfl) (Std.at hS rfl rfl) (by omega) (by omega) ⟨by omega, by omega⟩ dX3_add_43 ?_
  refine v_aload_n X 0 dX3_add_44 rfl rfl ?_
  refine gt_X3_minutes X iwX3 (Std.lt hS rfl) (Std.k hS rfl rfl) (List.mem_cons_of_mem _ bw_7_0) dX3_add_45 51 (Std.r hS 3 rfl) ?_
  refine v_iload_n X 1 dX3_add_48 rfl rfl ?_
  refine v_iload X 5 dX3_add_49 rfl ?_
  refine v_iast X (Std.lt hS rfl) (Std.at hS rfl rfl) (by omega) (by omega) ⟨by omega, by omega⟩ dX3_add_51 ?_
  refine v_aload_n X 0 dX3_add_52 rfl rfl ?_
  refine gt_X3_landing X iwX3 (Std.lt hS rfl) (Std.k hS rfl rfl) (List.mem_cons_of_mem _ bw_7_1) dX3_add_53 52 (Std.r hS 4 rfl) ?_
  refine v_iload_n X 1 dX3_add_56 rfl rfl ?_
  refine v_iload X 6 dX3_add_57 rfl ?_
  refine v_iast X (Std.lt hS rfl) (Std.at hS rfl rfl) (by omega) (by omega) ⟨by omega, by omega⟩ dX3_add_59 ?_
  refine v_aload_n X 0 dX3_add_60 rfl rfl ?_
  refine v_dup X dX3_add_61 rfl ?_
  refine gt_X3_size X iwX3 (Std.lt hS rfl) (Std.k hS rfl rfl) (List.mem_cons_of_mem _ bw_7_6) dX3_add_62 (M 47 5) rfl (fun hr6 => ?_)
  refine v_iconst X dX3_add_65 ?_
  refine v_iadd X dX3_add_66 ?_
  refine pt_X3_size X iwX3 (Std.lt hS rfl) (Std.k hS rfl rfl) (List.mem_cons_of_mem _ bw_7_6) ⟨by omega, by omega⟩ dX3_add_67 ?_
  refine v_aload_n X 0 dX3_add_70 rfl rfl ?_
  refine v_dup X dX3_add_71 rfl ?_
  refine gt_X3_worth X iwX3 (Std.lt hS rfl) (Std.k hS rfl rfl) (List.mem_cons_of_mem _ bw_7_7) dX3_add_72 (M 47 6) rfl (fun hr7 => ?_)
  refine v_iload_n X 2 dX3_add_75 rfl rfl ?_
  refine v_iadd X dX3_add_76 ?_
  refine pt_X3_worth X iwX3 (Std.lt hS rfl) (Std.k hS rfl rfl) (List.mem_cons_of_mem _ bw_7_7) ⟨by omega, by omega⟩ dX3_add_77 ?_
  refine hret _ _ _ _ _ _ _ _ _ _ _ none dX3_add_80 ⟨rfl, rfl⟩ (by decide) (by decide) (fun hmok => ?_)
  refine ⟨rfl, rfl, rfl, rfl, rfl, rfl, ?_⟩
  try dsimp only
  all_goals rfl

-- Flights.dropLast
set_option maxHeartbeats 4000000 in
set_option maxRecDepth 100000 in
theorem c_X3_dropLast_47 (l : Launch) (D : va_G) (cy : Nat → ClassId) {N : Nat} {sh : MS} {ad : Nat → Nat} {M L : MI} {R : MR} (hS : Std N sh R) (w : Int) (hw : inR w) (hz : 0 < M 47 5 ∧ M 47 5 ≤ 6) (hla : 0 ≤ M 48 (M 47 5 - 1) ∧ M 48 (M 47 5 - 1) < 6 ∧ M 50 (M 48 (M 47 5 - 1)) ≠ -1) (hW : inR (M 47 6 - w)) : Ctr l D cy yX3_dropLast wsX3_dropLast ({ frames := 1, cells := 0, slots := 0, locals := 21 } : Room) N sh ad M L R [.ref (ad 47), .int (iz w)] (eV N sh ad L R (fun M' => M' = (mu (mu (mu (mu (mu (mu (mu M 49 (M 48 (M 47 5 - 1)) (-1)) 50 (M 48 (M 47 5 - 1)) (-1)) 51 (M 48 (M 47 5 - 1)) (-1)) 52 (M 48 (M 47 5 - 1)) (-1)) 47 5 ((M 47 5) - 1)) 48 ((M 47 5) - 1) (-1)) 47 6 ((M 47 6) - w)))) := by
  refine Ctr.ofV (by decide) rfl (Nat.le_of_ble_eq_true rfl) ?_
  intro K hKl hKd hRm hnm X hret
  have X : VX K cX3_dropLast 3 wsX3_dropLast RX3 := X
  show V K 3 0 0 N sh ad M L R [(0, .ref (ad 47)), (1, .int (iz w))] [] 0
  refine v_aload_n X 0 dX3_dropLast_0 rfl rfl ?_
  refine v_callV X [] hRm (c_X3_lastAct_47 _ _ _ hS) (gV bw_36_5 bw_35_18 bw_35_19 bw_2_19 bw_35_20) rfl ddX3_lastAct (by decide) (Std.lt hS rfl) (Std.k hS rfl rfl) ⟨rfl, by decide⟩ (Nat.le_of_ble_eq_true rfl) dX3_dropLast_1 (k_pI (fun r1 hr2 e3 => ?_))
  rw [if_pos ⟨by omega, by omega⟩] at e3
  subst e3
  refine v_istore_n X [(2, .int (iz (M 48 (M 47 5 - 1)))), (0, .ref (ad 47)), (1, .int (iz w))] dX3_dropLast_4 rfl (by decide) rfl ?_
  refine v_aload_n X 1 dX3_dropLast_5 rfl rfl ?_
  refine v_iload_n X 0 dX3_dropLast_6 rfl rfl ?_
  refine v_callV X [.int (iz (M 48 (M 47 5 - 1)))] hRm (c_X3_has_47 _ _ _ hS (M 48 (M 47 5 - 1)) ⟨by omega, by omega⟩) (gV bw_36_6 bw_34_23 bw_35_0 bw_2_19 bw_35_1) rfl ddX3_has (by decide) (Std.lt hS rfl) (Std.k hS rfl rfl) ⟨rfl, by decide⟩ (Nat.le_of_ble_eq_true rfl) dX3_dropLast_7 (k_pB (fun b4 => ?_) (fun q => absurd (by omega) q))
  refine v_if_eq X 71 dX3_dropLast_10 (by decide) ⟨by decide, by decide⟩ (fun q => absurd q (by decide)) (fun _ => ?_)
  refine v_aload_n X 1 dX3_dropLast_13 rfl rfl ?_
  refine gt_X3_takeOff X iwX3 (Std.lt hS rfl) (Std.k hS rfl rfl) (List.mem_cons_of_mem _ bw_6_22) dX3_dropLast_14 49 (Std.r hS 1 rfl) ?_
  refine v_iload_n X 0 dX3_dropLast_17 rfl rfl ?_
  refine v_iconst X dX3_dropLast_18 ?_
  refine v_iast X (Std.lt hS rfl) (Std.at hS rfl rfl) (by omega) (by omega) ⟨by decide, by decide⟩ dX3_dropLast_19 ?_
  refine v_aload_n X 1 dX3_dropLast_20 rfl rfl ?_
  refine gt_X3_begin X iwX3 (Std.lt hS rfl) (Std.k hS rfl rfl) (List.mem_cons_of_mem _ bw_6_23) dX3_dropLast_21 50 (Std.r hS 2 rfl) ?_
  refine v_iload_n X 0 dX3_dropLast_24 rfl rfl ?_
  refine v_iconst X dX3_dropLast_25 ?_
  refine v_iast X (Std.lt hS rfl) (Std.at hS rfl rfl) (by omega) (by omega) ⟨by decide, by decide⟩ dX3_dropLast_26 ?_
  refine v_aload_n X 1 dX3_dropLast_27 rfl rfl ?_
  refine gt_X3_minutes X iwX3 (Std.lt hS rfl) (Std.k hS rfl rfl) (List.mem_cons_of_mem _ bw_7_0) dX3_dropLast_28 51 (Std.r hS 3 rfl) ?_
  refine v_iload_n X 0 dX3_dropLast_31 rfl rfl ?_
  refine v_iconst X dX3_dropLast_32 ?_
  refine v_iast X (Std.lt hS rfl) (Std.at hS rfl rfl) (by omega) (by omega) ⟨by decide, by decide⟩ dX3_dropLast_33 ?_
  refine v_aload_n X 1 dX3_dropLast_34 rfl rfl ?_
  refine gt_X3_landing X iwX3 (Std.lt hS rfl) (Std.k hS rfl rfl) (List.mem_cons_of_mem _ bw_7_1) dX3_dropLast_35 52 (Std.r hS 4 rfl) ?_
  refine v_iload_n X 0 dX3_dropLast_38 rfl rfl ?_
  refine v_iconst X dX3_dropLast_39 ?_
  refine v_iast X (Std.lt hS rfl) (Std.at hS rfl rfl) (by omega) (by omega) ⟨by decide, by decide⟩ dX3_dropLast_40 ?_
  refine v_aload_n X 1 dX3_dropLast_41 rfl rfl ?_
  refine v_dup X dX3_dropLast_42 rfl ?_
  refine gt_X3_size X iwX3 (Std.lt hS rfl) (Std.k hS rfl rfl) (List.mem_cons_of_mem _ bw_7_6) dX3_dropLast_43 (M 47 5) rfl (fun hr5 => ?_)
  refine v_iconst X dX3_dropLast_46 ?_
  refine v_isub X dX3_dropLast_47 ?_
  refine pt_X3_size X iwX3 (Std.lt hS rfl) (Std.k hS rfl rfl) (List.mem_cons_of_mem _ bw_7_6) ⟨by omega, by omega⟩ dX3_dropLast_48 ?_
  refine v_aload_n X 1 dX3_dropLast_51 rfl rfl ?_
  refine gt_X3_order X iwX3 (Std.lt hS rfl) (Std.k hS rfl rfl) (List.mem_cons_of_mem _ bw_6_21) dX3_dropLast_52 48 (Std.r hS 0 rfl) ?_
  refine v_aload_n X 1 dX3_dropLast_55 rfl rfl ?_
  refine gt_X3_size X iwX3 (Std.lt hS rfl) (Std.k hS rfl rfl) (List.mem_cons_of_mem _ bw_7_6) dX3_dropLast_56 ((M 47 5) - 1) rfl (fun hr6 => ?_)
  refine v_iconst X dX3_dropLast_59 ?_
  refine v_iast X (Std.lt hS rfl) (Std.at hS rfl rfl) (by omega) (by omega) ⟨by decide, by decide⟩ dX3_dropLast_60 ?_
  refine v_aload_n X 1 dX3_dropLast_61 rfl rfl ?_
  refine v_dup X dX3_dropLast_62 rfl ?_
  refine gt_X3_worth X iwX3 (Std.lt hS rfl) (Std.k hS rfl rfl) (List.mem_cons_of_mem _ bw_7_7) dX3_dropLast_63 (M 47 6) rfl (fun hr7 => ?_)
  refine v_iload_n X 2 dX3_dropLast_66 rfl rfl ?_
  refine v_isub X dX3_dropLast_67 ?_
  refine pt_X3_worth X iwX3 (Std.lt hS rfl) (Std.k hS rfl rfl) (List.mem_cons_of_mem _ bw_7_7) ⟨by omega, by omega⟩ dX3_dropLast_68 ?_
  refine hret _ _ _ _ _ _ _ _ _ _ _ none dX3_dropLast_71 ⟨rfl, rfl⟩ (by decide) (by decide) (fun hmok => ?_)
  refine ⟨rfl, rfl, rfl, rfl, rfl, rfl, ?_⟩
  try dsimp only
  all_goals rfl

-- Flights.copy
set_option maxHeartbeats 4000000 in
set_option maxRecDepth 100000 in
theorem c_X3_copy_47_35 (l : Launch) (D : va_G) (cy : Nat → ClassId) {N : Nat} {sh : MS} {ad : Nat → Nat} {M L : MI} {R : MR} (hS : Std N sh R) : Ctr l D cy yX3_copy wsX3_copy ({ frames := 1, cells := 0, slots := 0, locals := 18 } : Room) N sh ad M L R [.ref (ad 47), .ref (ad 35)] (eV N sh ad L R (fun M' => M' = (mu (mu (mrow (mrow (mrow (mrow (mrow M 48 (fun z => if 0 ≤ z ∧ z < 6 then (M 36 z) else (M 48 z))) 49 (fun z => if 0 ≤ z ∧ z < 6 then (M 37 z) else (M 49 z))) 50 (fun z => if 0 ≤ z ∧ z < 6 then (M 38 z) else (M 50 z))) 51 (fun z => if 0 ≤ z ∧ z < 6 then (M 39 z) else (M 51 z))) 52 (fun z => if 0 ≤ z ∧ z < 6 then (M 40 z) else (M 52 z))) 47 5 (M 35 5)) 47 6 (M 35 6)))) := by
  refine Ctr.ofV (by decide) rfl (Nat.le_of_ble_eq_true rfl) ?_
  intro K hKl hKd hRm hnm X hret
  have X : VX K cX3_copy 2 wsX3_copy RX3 := X
  show V K 2 0 0 N sh ad M L R [(0, .ref (ad 47)), (1, .ref (ad 35))] [] 0
  refine v_aload_n X 1 dX3_copy_0 rfl rfl ?_
  refine gt_X3_order X iwX3 (Std.lt hS rfl) (Std.k hS rfl rfl) (List.mem_cons_of_mem _ bw_6_21) dX3_copy_1 36 (Std.r hS 0 rfl) ?_
  refine v_iconst X dX3_copy_4 ?_
  refine v_aload_n X 0 dX3_copy_5 rfl rfl ?_
  refine gt_X3_order X iwX3 (Std.lt hS rfl) (Std.k hS rfl rfl) (List.mem_cons_of_mem _ bw_6_21) dX3_copy_6 48 (Std.r hS 0 rfl) ?_
  refine v_iconst X dX3_copy_9 ?_
  refine v_bipush X dX3_copy_10 (by decide) ?_
  refine v_acopy X 6 hRm (List.mem_cons_of_mem _ bw_34_13) (List.mem_cons_of_mem _ bw_34_14) (List.mem_cons_of_mem _ bw_34_15) (List.mem_cons_of_mem _ bw_34_16) (Std.lt hS rfl) (Std.at hS rfl rfl) (Std.lt hS rfl) (Std.at hS rfl rfl) (by decide) ⟨Nat.le_of_ble_eq_true rfl, Nat.le_of_ble_eq_true rfl⟩ dX3_copy_12 ?_
  refine v_aload_n X 1 dX3_copy_15 rfl rfl ?_
  refine gt_X3_takeOff X iwX3 (Std.lt hS rfl) (Std.k hS rfl rfl) (List.mem_cons_of_mem _ bw_6_22) dX3_copy_16 37 (Std.r hS 1 rfl) ?_
  refine v_iconst X dX3_copy_19 ?_
  refine v_aload_n X 0 dX3_copy_20 rfl rfl ?_
  refine gt_X3_takeOff X iwX3 (Std.lt hS rfl) (Std.k hS rfl rfl) (List.mem_cons_of_mem _ bw_6_22) dX3_copy_21 49 (Std.r hS 1 rfl) ?_
  refine v_iconst X dX3_copy_24 ?_
  refine v_bipush X dX3_copy_25 (by decide) ?_
  refine v_acopy X 6 hRm (List.mem_cons_of_mem _ bw_34_13) (List.mem_cons_of_mem _ bw_34_14) (List.mem_cons_of_mem _ bw_34_15) (List.mem_cons_of_mem _ bw_34_16) (Std.lt hS rfl) (Std.at hS rfl rfl) (Std.lt hS rfl) (Std.at hS rfl rfl) (by decide) ⟨Nat.le_of_ble_eq_true rfl, Nat.le_of_ble_eq_true rfl⟩ dX3_copy_27 ?_
  refine v_aload_n X 1 dX3_copy_30 rfl rfl ?_
  refine gt_X3_begin X iwX3 (Std.lt hS rfl) (Std.k hS rfl rfl) (List.mem_cons_of_mem _ bw_6_23) dX3_copy_31 38 (Std.r hS 2 rfl) ?_
  refine v_iconst X dX3_copy_34 ?_
  refine v_aload_n X 0 dX3_copy_35 rfl rfl ?_
  refine gt_X3_begin X iwX3 (Std.lt hS rfl) (Std.k hS rfl rfl) (List.mem_cons_of_mem _ bw_6_23) dX3_copy_36 50 (Std.r hS 2 rfl) ?_
  refine v_iconst X dX3_copy_39 ?_
  refine v_bipush X dX3_copy_40 (by decide) ?_
  refine v_acopy X 6 hRm (List.mem_cons_of_mem _ bw_34_13) (List.mem_cons_of_mem _ bw_34_14) (List.mem_cons_of_mem _ bw_34_15) (List.mem_cons_of_mem _ bw_34_16) (Std.lt hS rfl) (Std.at hS rfl rfl) (Std.lt hS rfl) (Std.at hS rfl rfl) (by decide) ⟨Nat.le_of_ble_eq_true rfl, Nat.le_of_ble_eq_true rfl⟩ dX3_copy_42 ?_
  refine v_aload_n X 1 dX3_copy_45 rfl rfl ?_
  refine gt_X3_minutes X iwX3 (Std.lt hS rfl) (Std.k hS rfl rfl) (List.mem_cons_of_mem _ bw_7_0) dX3_copy_46 39 (Std.r hS 3 rfl) ?_
  refine v_iconst X dX3_copy_49 ?_
  refine v_aload_n X 0 dX3_copy_50 rfl rfl ?_
  refine gt_X3_minutes X iwX3 (Std.lt hS rfl) (Std.k hS rfl rfl) (List.mem_cons_of_mem _ bw_7_0) dX3_copy_51 51 (Std.r hS 3 rfl) ?_
  refine v_iconst X dX3_copy_54 ?_
  refine v_bipush X dX3_copy_55 (by decide) ?_
  refine v_acopy X 6 hRm (List.mem_cons_of_mem _ bw_34_13) (List.mem_cons_of_mem _ bw_34_14) (List.mem_cons_of_mem _ bw_34_15) (List.mem_cons_of_mem _ bw_34_16) (Std.lt hS rfl) (Std.at hS rfl rfl) (Std.lt hS rfl) (Std.at hS rfl rfl) (by decide) ⟨Nat.le_of_ble_eq_true rfl, Nat.le_of_ble_eq_true rfl⟩ dX3_copy_57 ?_
  refine v_aload_n X 1 dX3_copy_60 rfl rfl ?_
  refine gt_X3_landing X iwX3 (Std.lt hS rfl) (Std.k hS rfl rfl) (List.mem_cons_of_mem _ bw_7_1) dX3_copy_61 40 (Std.r hS 4 rfl) ?_
  refine v_iconst X dX3_copy_64 ?_
  refine v_aload_n X 0 dX3_copy_65 rfl rfl ?_
  refine gt_X3_landing X iwX3 (Std.lt hS rfl) (Std.k hS rfl rfl) (List.mem_cons_of_mem _ bw_7_1) dX3_copy_66 52 (Std.r hS 4 rfl) ?_
  refine v_iconst X dX3_copy_69 ?_
  refine v_bipush X dX3_copy_70 (by decide) ?_
  refine v_acopy X 6 hRm (List.mem_cons_of_mem _ bw_34_13) (List.mem_cons_of_mem _ bw_34_14) (List.mem_cons_of_mem _ bw_34_15) (List.mem_cons_of_mem _ bw_34_16) (Std.lt hS rfl) (Std.at hS rfl rfl) (Std.lt hS rfl) (Std.at hS rfl rfl) (by decide) ⟨Nat.le_of_ble_eq_true rfl, Nat.le_of_ble_eq_true rfl⟩ dX3_copy_72 ?_
  refine v_aload_n X 0 dX3_copy_75 rfl rfl ?_
  refine v_aload_n X 1 dX3_copy_76 rfl rfl ?_
  refine gt_X3_size X iwX3 (Std.lt hS rfl) (Std.k hS rfl rfl) (List.mem_cons_of_mem _ bw_7_6) dX3_copy_77 (M 35 5) rfl (fun hr1 => ?_)
  refine pt_X3_size X iwX3 (Std.lt hS rfl) (Std.k hS rfl rfl) (List.mem_cons_of_mem _ bw_7_6) ⟨by omega, by omega⟩ dX3_copy_80 ?_
  refine v_aload_n X 0 dX3_copy_83 rfl rfl ?_
  refine v_aload_n X 1 dX3_copy_84 rfl rfl ?_
  refine gt_X3_worth X iwX3 (Std.lt hS rfl) (Std.k hS rfl rfl) (List.mem_cons_of_mem _ bw_7_7) dX3_copy_85 (M 35 6) rfl (fun hr2 => ?_)
  refine pt_X3_worth X iwX3 (Std.lt hS rfl) (Std.k hS rfl rfl) (List.mem_cons_of_mem _ bw_7_7) ⟨by omega, by omega⟩ dX3_copy_88 ?_
  refine hret _ _ _ _ _ _ _ _ _ _ _ none dX3_copy_91 ⟨rfl, rfl⟩ (by decide) (by decide) (fun hmok => ?_)
  refine ⟨rfl, rfl, rfl, rfl, rfl, rfl, ?_⟩
  try dsimp only
  all_goals rfl

-- Flights.copy
set_option maxHeartbeats 4000000 in
set_option maxRecDepth 100000 in
theorem c_X3_copy_35_41 (l : Launch) (D : va_G) (cy : Nat → ClassId) {N : Nat} {sh : MS} {ad : Nat → Nat} {M L : MI} {R : MR} (hS : Std N sh R) : Ctr l D cy yX3_copy wsX3_copy ({ frames := 1, cells := 0, slots := 0, locals := 18 } : Room) N sh ad M L R [.ref (ad 35), .ref (ad 41)] (eV N sh ad L R (fun M' => M' = (mu (mu (mrow (mrow (mrow (mrow (mrow M 36 (fun z => if 0 ≤ z ∧ z < 6 then (M 42 z) else (M 36 z))) 37 (fun z => if 0 ≤ z ∧ z < 6 then (M 43 z) else (M 37 z))) 38 (fun z => if 0 ≤ z ∧ z < 6 then (M 44 z) else (M 38 z))) 39 (fun z => if 0 ≤ z ∧ z < 6 then (M 45 z) else (M 39 z))) 40 (fun z => if 0 ≤ z ∧ z < 6 then (M 46 z) else (M 40 z))) 35 5 (M 41 5)) 35 6 (M 41 6)))) := by
  refine Ctr.ofV (by decide) rfl (Nat.le_of_ble_eq_true rfl) ?_
  intro K hKl hKd hRm hnm X hret
  have X : VX K cX3_copy 2 wsX3_copy RX3 := X
  show V K 2 0 0 N sh ad M L R [(0, .ref (ad 35)), (1, .ref (ad 41))] [] 0
  refine v_aload_n X 1 dX3_copy_0 rfl rfl ?_
  refine gt_X3_order X iwX3 (Std.lt hS rfl) (Std.k hS rfl rfl) (List.mem_cons_of_mem _ bw_6_21) dX3_copy_1 42 (Std.r hS 0 rfl) ?_
  refine v_iconst X dX3_copy_4 ?_
  refine v_aload_n X 0 dX3_copy_5 rfl rfl ?_
  refine gt_X3_order X iwX3 (Std.lt hS rfl) (Std.k hS rfl rfl) (List.mem_cons_of_mem _ bw_6_21) dX3_copy_6 36 (Std.r hS 0 rfl) ?_
  refine v_iconst X dX3_copy_9 ?_
  refine v_bipush X dX3_copy_10 (by decide) ?_
  refine v_acopy X 6 hRm (List.mem_cons_of_mem _ bw_34_13) (List.mem_cons_of_mem _ bw_34_14) (List.mem_cons_of_mem _ bw_34_15) (List.mem_cons_of_mem _ bw_34_16) (Std.lt hS rfl) (Std.at hS rfl rfl) (Std.lt hS rfl) (Std.at hS rfl rfl) (by decide) ⟨Nat.le_of_ble_eq_true rfl, Nat.le_of_ble_eq_true rfl⟩ dX3_copy_12 ?_
  refine v_aload_n X 1 dX3_copy_15 rfl rfl ?_
  refine gt_X3_takeOff X iwX3 (Std.lt hS rfl) (Std.k hS rfl rfl) (List.mem_cons_of_mem _ bw_6_22) dX3_copy_16 43 (Std.r hS 1 rfl) ?_
  refine v_iconst X dX3_copy_19 ?_
  refine v_aload_n X 0 dX3_copy_20 rfl rfl ?_
  refine gt_X3_takeOff X iwX3 (Std.lt hS rfl) (Std.k hS rfl rfl) (List.mem_cons_of_mem _ bw_6_22) dX3_copy_21 37 (Std.r hS 1 rfl) ?_
  refine v_iconst X dX3_copy_24 ?_
  refine v_bipush X dX3_copy_25 (by decide) ?_
  refine v_acopy X 6 hRm (List.mem_cons_of_mem _ bw_34_13) (List.mem_cons_of_mem _ bw_34_14) (List.mem_cons_of_mem _ bw_34_15) (List.mem_cons_of_mem _ bw_34_16) (Std.lt hS rfl) (Std.at hS rfl rfl) (Std.lt hS rfl) (Std.at hS rfl rfl) (by decide) ⟨Nat.le_of_ble_eq_true rfl, Nat.le_of_ble_eq_true rfl⟩ dX3_copy_27 ?_
  refine v_aload_n X 1 dX3_copy_30 rfl rfl ?_
  refine gt_X3_begin X iwX3 (Std.lt hS rfl) (Std.k hS rfl rfl) (List.mem_cons_of_mem _ bw_6_23) dX3_copy_31 44 (Std.r hS 2 rfl) ?_
  refine v_iconst X dX3_copy_34 ?_
  refine v_aload_n X 0 dX3_copy_35 rfl rfl ?_
  refine gt_X3_begin X iwX3 (Std.lt hS rfl) (Std.k hS rfl rfl) (List.mem_cons_of_mem _ bw_6_23) dX3_copy_36 38 (Std.r hS 2 rfl) ?_
  refine v_iconst X dX3_copy_39 ?_
  refine v_bipush X dX3_copy_40 (by decide) ?_
  refine v_acopy X 6 hRm (List.mem_cons_of_mem _ bw_34_13) (List.mem_cons_of_mem _ bw_34_14) (List.mem_cons_of_mem _ bw_34_15) (List.mem_cons_of_mem _ bw_34_16) (Std.lt hS rfl) (Std.at hS rfl rfl) (Std.lt hS rfl) (Std.at hS rfl rfl) (by decide) ⟨Nat.le_of_ble_eq_true rfl, Nat.le_of_ble_eq_true rfl⟩ dX3_copy_42 ?_
  refine v_aload_n X 1 dX3_copy_45 rfl rfl ?_
  refine gt_X3_minutes X iwX3 (Std.lt hS rfl) (Std.k hS rfl rfl) (List.mem_cons_of_mem _ bw_7_0) dX3_copy_46 45 (Std.r hS 3 rfl) ?_
  refine v_iconst X dX3_copy_49 ?_
  refine v_aload_n X 0 dX3_copy_50 rfl rfl ?_
  refine gt_X3_minutes X iwX3 (Std.lt hS rfl) (Std.k hS rfl rfl) (List.mem_cons_of_mem _ bw_7_0) dX3_copy_51 39 (Std.r hS 3 rfl) ?_
  refine v_iconst X dX3_copy_54 ?_
  refine v_bipush X dX3_copy_55 (by decide) ?_
  refine v_acopy X 6 hRm (List.mem_cons_of_mem _ bw_34_13) (List.mem_cons_of_mem _ bw_34_14) (List.mem_cons_of_mem _ bw_34_15) (List.mem_cons_of_mem _ bw_34_16) (Std.lt hS rfl) (Std.at hS rfl rfl) (Std.lt hS rfl) (Std.at hS rfl rfl) (by decide) ⟨Nat.le_of_ble_eq_true rfl, Nat.le_of_ble_eq_true rfl⟩ dX3_copy_57 ?_
  refine v_aload_n X 1 dX3_copy_60 rfl rfl ?_
  refine gt_X3_landing X iwX3 (Std.lt hS rfl) (Std.k hS rfl rfl) (List.mem_cons_of_mem _ bw_7_1) dX3_copy_61 46 (Std.r hS 4 rfl) ?_
  refine v_iconst X dX3_copy_64 ?_
  refine v_aload_n X 0 dX3_copy_65 rfl rfl ?_
  refine gt_X3_landing X iwX3 (Std.lt hS rfl) (Std.k hS rfl rfl) (List.mem_cons_of_mem _ bw_7_1) dX3_copy_66 40 (Std.r hS 4 rfl) ?_
  refine v_iconst X dX3_copy_69 ?_
  refine v_bipush X dX3_copy_70 (by decide) ?_
  refine v_acopy X 6 hRm (List.mem_cons_of_mem _ bw_34_13) (List.mem_cons_of_mem _ bw_34_14) (List.mem_cons_of_mem _ bw_34_15) (List.mem_cons_of_mem _ bw_34_16) (Std.lt hS rfl) (Std.at hS rfl rfl) (Std.lt hS rfl) (Std.at hS rfl rfl) (by decide) ⟨Nat.le_of_ble_eq_true rfl, Nat.le_of_ble_eq_true rfl⟩ dX3_copy_72 ?_
  refine v_aload_n X 0 dX3_copy_75 rfl rfl ?_
  refine v_aload_n X 1 dX3_copy_76 rfl rfl ?_
  refine gt_X3_size X iwX3 (Std.lt hS rfl) (Std.k hS rfl rfl) (List.mem_cons_of_mem _ bw_7_6) dX3_copy_77 (M 41 5) rfl (fun hr1 => ?_)
  refine pt_X3_size X iwX3 (Std.lt hS rfl) (Std.k hS rfl rfl) (List.mem_cons_of_mem _ bw_7_6) ⟨by omega, by omega⟩ dX3_copy_80 ?_
  refine v_aload_n X 0 dX3_copy_83 rfl rfl ?_
  refine v_aload_n X 1 dX3_copy_84 rfl rfl ?_
  refine gt_X3_worth X iwX3 (Std.lt hS rfl) (Std.k hS rfl rfl) (List.mem_cons_of_mem _ bw_7_7) dX3_copy_85 (M 41 6) rfl (fun hr2 => ?_)
  refine pt_X3_worth X iwX3 (Std.lt hS rfl) (Std.k hS rfl rfl) (List.mem_cons_of_mem _ bw_7_7) ⟨by omega, by omega⟩ dX3_copy_88 ?_
  refine hret _ _ _ _ _ _ _ _ _ _ _ none dX3_copy_91 ⟨rfl, rfl⟩ (by decide) (by decide) (fun hmok => ?_)
  refine ⟨rfl, rfl, rfl, rfl, rfl, rfl, ?_⟩
  try dsimp only
  all_goals rfl

-- Flights.sameBegins
set_option maxHeartbeats 4000000 in
set_option maxRecDepth 100000 in
theorem c_X3_sameBegins_41_47 (l : Launch) (D : va_G) (cy : Nat → ClassId) {N : Nat} {sh : MS} {ad : Nat → Nat} {M L : MI} {R : MR} (hS : Std N sh R) : Ctr l D cy yX3_sameBegins wsX3_sameBegins ({ frames := 0, cells := 0, slots := 0, locals := 0 } : Room) N sh ad M L R [.ref (ad 41), .ref (ad 47)] (pI N sh ad M L R (fun r => r = sameB (M 44) (M 50) 6)) := by
  refine Ctr.ofI (by decide) rfl (Nat.le_of_ble_eq_true rfl) ?_
  intro K hKl hKd hRm hnm X hret
  have X : VX K cX3_sameBegins 4 wsX3_sameBegins RX3 := X
  show V K 4 0 0 N sh ad M L R [(0, .ref (ad 41)), (1, .ref (ad 47))] [] 0
  refine v_iconst X dX3_sameBegins_0 ?_
  refine v_istore_n X [(2, .int (iz 0)), (0, .ref (ad 41)), (1, .ref (ad 47))] dX3_sameBegins_1 rfl (by decide) rfl ?_
  refine v_iconst X dX3_sameBegins_2 ?_
  refine v_istore_n X [(3, .int (iz 0)), (2, .int (iz 0)), (0, .ref (ad 41)), (1, .ref (ad 47))] dX3_sameBegins_3 rfl (by decide) rfl ?_
  have hl1 : ∀ (n3 : Nat) (i : Int) (c : Int), (0 ≤ i ∧ i ≤ 6) → (c = sameB (M 44) (M 50) i) → (6 - i).toNat < n3 → V K 4 0 0 N sh ad M L R [(0, .ref (ad 41)), (1, .ref (ad 47)), (2, .int (iz c)), (3, .int (iz i))] [] 4 := by
    intro n3
    induction n3 with
    | zero => intro i c hi hc hn4; exact absurd hn4 (Nat.not_lt_zero _)
    | succ n3 ih2 =>
      intro i c hi hc hn4
      have hle := sameB_le (M 44) (M 50) (i := i) (by omega)
      refine v_iload_n X 3 dX3_sameBegins_4 rfl rfl ?_
      refine v_bipush X dX3_sameBegins_5 (by decide) ?_
      refine v_icmp_ge X 44 dX3_sameBegins_7 (by decide) ⟨by omega, by omega⟩ ⟨by decide, by decide⟩ (fun u5 => ?_) (fun u5 => ?_)
      · skip
        refine v_iload_n X 2 dX3_sameBegins_44 rfl rfl ?_
        refine hret _ _ _ _ _ _ _ _ _ _ _ (some (.int (iz c))) dX3_sameBegins_45 ⟨rfl, _, rfl⟩ (by decide) (by decide) (fun hmok => ?_)
        refine ⟨rfl, rfl, rfl, rfl, rfl, rfl, c, rfl, ⟨by omega, by omega⟩, ?_⟩
        try dsimp only
        have e : i = 6 := by omega
        rw [← e]; exact hc
      · skip
        refine v_aload_n X 0 dX3_sameBegins_10 rfl rfl ?_
        refine gt_X3_begin X iwX3 (Std.lt hS rfl) (Std.k hS rfl rfl) (List.mem_cons_of_mem _ bw_6_23) dX3_sameBegins_11 44 (Std.r hS 2 rfl) ?_
        refine v_iload_n X 3 dX3_sameBegins_14 rfl rfl ?_
        refine v_iald X (M 44 i) (Std.lt hS rfl) (Std.at hS rfl rfl) (by omega) (by omega) dX3_sameBegins_15 rfl (fun hr6 => ?_)
        refine v_iconst X dX3_sameBegins_16 ?_
        refine v_icmp_eq X 38 dX3_sameBegins_17 (by decide) ⟨by omega, by omega⟩ ⟨by decide, by decide⟩ (fun u7 => ?_) (fun u7 => ?_)
        · skip
          refine v_iinc X 3 [(3, .int (iz (i + 1))), (0, .ref (ad 41)), (1, .ref (ad 47)), (2, .int (iz c))] dX3_sameBegins_38 rfl (by decide) rfl ?_
          refine v_goto X 4 dX3_sameBegins_41 (by decide) ?_
          refine v_lv [1, 2, 3, 0] rfl ?_
          exact ih2 (i + 1) c (by omega) (by rw [sameB_s _ _ (by omega), hc]; split <;> omega) (by omega)
        · skip
          refine v_aload_n X 0 dX3_sameBegins_20 rfl rfl ?_
          refine gt_X3_begin X iwX3 (Std.lt hS rfl) (Std.k hS rfl rfl) (List.mem_cons_of_mem _ bw_6_23) dX3_sameBegins_21 44 (Std.r hS 2 rfl) ?_
          refine v_iload_n X 3 dX3_sameBegins_24 rfl rfl ?_
          refine v_iald X (M 44 i) (Std.lt hS rfl) (Std.at hS rfl rfl) (by omega) (by omega) dX3_sameBegins_25 rfl (fun hr8 => ?_)
          refine v_aload_n X 1 dX3_sameBegins_26 rfl rfl ?_
          refine gt_X3_begin X iwX3 (Std.lt hS rfl) (Std.k hS rfl rfl) (List.mem_cons_of_mem _ bw_6_23) dX3_sameBegins_27 50 (Std.r hS 2 rfl) ?_
          refine v_iload_n X 3 dX3_sameBegins_30 rfl rfl ?_
          refine v_iald X (M 50 i) (Std.lt hS rfl) (Std.at hS rfl rfl) (by omega) (by omega) dX3_sameBegins_31 rfl (fun hr9 => ?_)
          refine v_icmp_ne X 38 dX3_sameBegins_32 (by decide) ⟨by omega, by omega⟩ ⟨by omega, by omega⟩ (fun u10 => ?_) (fun u10 => ?_)
          · skip
            refine v_iinc X 3 [(3, .int (iz (i + 1))), (0, .ref (ad 41)), (1, .ref (ad 47)), (2, .int (iz c))] dX3_sameBegins_38 rfl (by decide) rfl ?_
            refine v_goto X 4 dX3_sameBegins_41 (by decide) ?_
            refine v_lv [1, 2, 3, 0] rfl ?_
            exact ih2 (i + 1) c (by omega) (by rw [sameB_s _ _ (by omega), hc]; split <;> omega) (by omega)
          · skip
            refine v_iinc X 2 [(2, .int (iz (c + 1))), (0, .ref (ad 41)), (1, .ref (ad 47)), (3, .int (iz i))] dX3_sameBegins_35 rfl (by decide) rfl ?_
            refine v_iinc X 3 [(3, .int (iz (i + 1))), (2, .int (iz (c + 1))), (0, .ref (ad 41)), (1, .ref (ad 47))] dX3_sameBegins_38 rfl (by decide) rfl ?_
            refine v_goto X 4 dX3_sameBegins_41 (by decide) ?_
            refine v_lv [2, 3, 1, 0] rfl ?_
            exact ih2 (i + 1) (c + 1) (by omega) (by rw [sameB_s _ _ (by omega), hc]; split <;> omega) (by omega)
  refine v_lv [2, 3, 1, 0] rfl ?_
  exact hl1 _ 0 0 (by omega) (rfl) (Nat.lt_succ_self _)

-- Flights.sameBegins
set_option maxHeartbeats 4000000 in
set_option maxRecDepth 100000 in
theorem c_X3_sameBegins_35_47 (l : Launch) (D : va_G) (cy : Nat → ClassId) {N : Nat} {sh : MS} {ad : Nat → Nat} {M L : MI} {R : MR} (hS : Std N sh R) : Ctr l D cy yX3_sameBegins wsX3_sameBegins ({ frames := 0, cells := 0, slots := 0, locals := 0 } : Room) N sh ad M L R [.ref (ad 35), .ref (ad 47)] (pI N sh ad M L R (fun r => r = sameB (M 38) (M 50) 6)) := by
  refine Ctr.ofI (by decide) rfl (Nat.le_of_ble_eq_true rfl) ?_
  intro K hKl hKd hRm hnm X hret
  have X : VX K cX3_sameBegins 4 wsX3_sameBegins RX3 := X
  show V K 4 0 0 N sh ad M L R [(0, .ref (ad 35)), (1, .ref (ad 47))] [] 0
  refine v_iconst X dX3_sameBegins_0 ?_
  refine v_istore_n X [(2, .int (iz 0)), (0, .ref (ad 35)), (1, .ref (ad 47))] dX3_sameBegins_1 rfl (by decide) rfl ?_
  refine v_iconst X dX3_sameBegins_2 ?_
  refine v_istore_n X [(3, .int (iz 0)), (2, .int (iz 0)), (0, .ref (ad 35)), (1, .ref (ad 47))] dX3_sameBegins_3 rfl (by decide) rfl ?_
  have hl1 : ∀ (n3 : Nat) (i : Int) (c : Int), (0 ≤ i ∧ i ≤ 6) → (c = sameB (M 38) (M 50) i) → (6 - i).toNat < n3 → V K 4 0 0 N sh ad M L R [(0, .ref (ad 35)), (1, .ref (ad 47)), (2, .int (iz c)), (3, .int (iz i))] [] 4 := by
    intro n3
    induction n3 with
    | zero => intro i c hi hc hn4; exact absurd hn4 (Nat.not_lt_zero _)
    | succ n3 ih2 =>
      intro i c hi hc hn4
      have hle := sameB_le (M 38) (M 50) (i := i) (by omega)
      refine v_iload_n X 3 dX3_sameBegins_4 rfl rfl ?_
      refine v_bipush X dX3_sameBegins_5 (by decide) ?_
      refine v_icmp_ge X 44 dX3_sameBegins_7 (by decide) ⟨by omega, by omega⟩ ⟨by decide, by decide⟩ (fun u5 => ?_) (fun u5 => ?_)
      · skip
        refine v_iload_n X 2 dX3_sameBegins_44 rfl rfl ?_
        refine hret _ _ _ _ _ _ _ _ _ _ _ (some (.int (iz c))) dX3_sameBegins_45 ⟨rfl, _, rfl⟩ (by decide) (by decide) (fun hmok => ?_)
        refine ⟨rfl, rfl, rfl, rfl, rfl, rfl, c, rfl, ⟨by omega, by omega⟩, ?_⟩
        try dsimp only
        have e : i = 6 := by omega
        rw [← e]; exact hc
      · skip
        refine v_aload_n X 0 dX3_sameBegins_10 rfl rfl ?_
        refine gt_X3_begin X iwX3 (Std.lt hS rfl) (Std.k hS rfl rfl) (List.mem_cons_of_mem _ bw_6_23) dX3_sameBegins_11 38 (Std.r hS 2 rfl) ?_
        refine v_iload_n X 3 dX3_sameBegins_14 rfl rfl ?_
        refine v_iald X (M 38 i) (Std.lt hS rfl) (Std.at hS rfl rfl) (by omega) (by omega) dX3_sameBegins_15 rfl (fun hr6 => ?_)
        refine v_iconst X dX3_sameBegins_16 ?_
        refine v_icmp_eq X 38 dX3_sameBegins_17 (by decide) ⟨by omega, by omega⟩ ⟨by decide, by decide⟩ (fun u7 => ?_) (fun u7 => ?_)
        · skip
          refine v_iinc X 3 [(3, .int (iz (i + 1))), (0, .ref (ad 35)), (1, .ref (ad 47)), (2, .int (iz c))] dX3_sameBegins_38 rfl (by decide) rfl ?_
          refine v_goto X 4 dX3_sameBegins_41 (by decide) ?_
          refine v_lv [1, 2, 3, 0] rfl ?_
          exact ih2 (i + 1) c (by omega) (by rw [sameB_s _ _ (by omega), hc]; split <;> omega) (by omega)
        · skip
          refine v_aload_n X 0 dX3_sameBegins_20 rfl rfl ?_
          refine gt_X3_begin X iwX3 (Std.lt hS rfl) (Std.k hS rfl rfl) (List.mem_cons_of_mem _ bw_6_23) dX3_sameBegins_21 38 (Std.r hS 2 rfl) ?_
          refine v_iload_n X 3 dX3_sameBegins_24 rfl rfl ?_
          refine v_iald X (M 38 i) (Std.lt hS rfl) (Std.at hS rfl rfl) (by omega) (by omega) dX3_sameBegins_25 rfl (fun hr8 => ?_)
          refine v_aload_n X 1 dX3_sameBegins_26 rfl rfl ?_
          refine gt_X3_begin X iwX3 (Std.lt hS rfl) (Std.k hS rfl rfl) (List.mem_cons_of_mem _ bw_6_23) dX3_sameBegins_27 50 (Std.r hS 2 rfl) ?_
          refine v_iload_n X 3 dX3_sameBegins_30 rfl rfl ?_
          refine v_iald X (M 50 i) (Std.lt hS rfl) (Std.at hS rfl rfl) (by omega) (by omega) dX3_sameBegins_31 rfl (fun hr9 => ?_)
          refine v_icmp_ne X 38 dX3_sameBegins_32 (by decide) ⟨by omega, by omega⟩ ⟨by omega, by omega⟩ (fun u10 => ?_) (fun u10 => ?_)
          · skip
            refine v_iinc X 3 [(3, .int (iz (i + 1))), (0, .ref (ad 35)), (1, .ref (ad 47)), (2, .int (iz c))] dX3_sameBegins_38 rfl (by decide) rfl ?_
            refine v_goto X 4 dX3_sameBegins_41 (by decide) ?_
            refine v_lv [1, 2, 3, 0] rfl ?_
            exact ih2 (i + 1) c (by omega) (by rw [sameB_s _ _ (by omega), hc]; split <;> omega) (by omega)
          · skip
            refine v_iinc X 2 [(2, .int (iz (c + 1))), (0, .ref (ad 35)), (1, .ref (ad 47)), (3, .int (iz i))] dX3_sameBegins_35 rfl (by decide) rfl ?_
            refine v_iinc X 3 [(3, .int (iz (i + 1))), (2, .int (iz (c + 1))), (0, .ref (ad 35)), (1, .ref (ad 47))] dX3_sameBegins_38 rfl (by decide) rfl ?_
            refine v_goto X 4 dX3_sameBegins_41 (by decide) ?_
            refine v_lv [2, 3, 1, 0] rfl ?_
            exact ih2 (i + 1) (c + 1) (by omega) (by rw [sameB_s _ _ (by omega), hc]; split <;> omega) (by omega)
  refine v_lv [2, 3, 1, 0] rfl ?_
  exact hl1 _ 0 0 (by omega) (rfl) (Nat.lt_succ_self _)

