theorem row6 (M : MI) (f1 g1 f2 g2 f3 g3 : Int → Int) : mrow (mrow (mrow (mrow (mrow (mrow M 14 f1) 16 f2) 15 f3) 14 g1) 15 g3) 16 g2 = mrow (mrow (mrow M 14 g1) 16 g2) 15 g3 := by
  funext a b
  simp only [mrow]
  by_cases h1 : a = 14
  · subst h1; rfl
  · by_cases h2 : a = 15
    · subst h2; rfl
    · by_cases h3 : a = 16
      · subst h3; rfl
      · simp only [h1, h2, h3, if_false]
theorem row4 (M : MI) (f1 g1 f2 f3 : Int → Int) : mrow (mrow (mrow (mrow M 14 f1) 16 f2) 15 f3) 14 g1 = mrow (mrow (mrow M 14 g1) 16 f2) 15 f3 := by
  funext a b
  simp only [mrow]
  by_cases h1 : a = 14
  · subst h1; rfl
  · simp only [h1, if_false]

-- learn
set_option maxHeartbeats 4000000 in
set_option maxRecDepth 100000 in
theorem c_X8_learn (l : Launch) (D : va_G) (cy : Nat → ClassId) {N : Nat} {sh : MS} {ad : Nat → Nat} {M L : MI} {R : MR} (hS : Std N sh R) (n : Int) (hn : 0 ≤ n ∧ n ≤ 100) (hF : ∀ k : Int, 0 ≤ k → k < n → FactOk (M 10 k) (M 11 k) (M 12 k) ∧ M 10 k ≠ 3) : Ctr l D cy yX8_learn wsX8_learn ({ frames := 2, cells := 0, slots := 0, locals := 36 } : Room) N sh ad M L R [.ref (ad 13), .ref (ad 9), .int (iz n)] (eV N sh ad L R (fun M' => M' = mrow (mrow (mrow M 14 (bsRow (M 10) (M 11) (M 12) n.toNat 240 (M 14))) 16 (rdRow (M 10) (M 11) (M 12) n.toNat (M 16))) 15 (opRow (fun z => shAt (M 10) (M 11) (M 12) z n.toNat) (M 15)))) := by
  refine Ctr.ofV (by decide) rfl (Nat.le_of_ble_eq_true rfl) ?_
  intro K hKl hKd hRm hnm X hret
  have X : VX K cX8_learn 4 wsX8_learn RX8 := X
  show V K 4 0 0 N sh ad M L R [(0, .ref (ad 13)), (1, .ref (ad 9)), (2, .int (iz n))] [] 0
  refine v_aload_n X 0 dX8_learn_0 rfl rfl ?_
  refine gt_X8_base X iwX8 (Std.lt hS rfl) (Std.k hS rfl rfl) (List.mem_cons_of_mem _ bw_5_8) dX8_learn_1 14 (Std.r hS 0 rfl) ?_
  refine v_iconst X dX8_learn_4 ?_
  refine v_callSO X [.ref (ad 14), .int (iz (-1))] hRm (c_J7_fill_53178 _ _ _ 14 240 (-1) (Std.lt hS rfl) (Std.at hS rfl rfl) ⟨by decide, by decide⟩ (by decide)) (gSO bw_5_11 bw_5_12 bw_5_13 bw_5_14) rfl ddJ7_fill_53178.2 (by decide) (Nat.le_of_ble_eq_true rfl) dX8_learn_5 (k_eV (fun M2 e1 => ?_))
  replace e1 : M2 = (mrow M 14 (filz (M 14) 240 (-1))) := e1
  subst e1
  refine v_aload_n X 0 dX8_learn_8 rfl rfl ?_
  refine gt_X8_ready X iwX8 (Std.lt hS rfl) (Std.k hS rfl rfl) (List.mem_cons_of_mem _ bw_5_10) dX8_learn_9 16 (Std.r hS 2 rfl) ?_
  refine v_iconst X dX8_learn_12 ?_
  refine v_callSO X [.ref (ad 16), .int (iz 0)] hRm (c_J7_fill_53178 _ _ _ 16 6 0 (Std.lt hS rfl) (Std.at hS rfl rfl) ⟨by decide, by decide⟩ (by decide)) (gSO bw_5_11 bw_5_12 bw_5_13 bw_5_14) rfl ddJ7_fill_53178.2 (by decide) (Nat.le_of_ble_eq_true rfl) dX8_learn_13 (k_eV (fun M4 e3 => ?_))
  replace e3 : M4 = (mrow (mrow M 14 (filz (M 14) 240 (-1))) 16 (filz (M 16) 6 0)) := e3
  subst e3
  refine v_aload_n X 0 dX8_learn_16 rfl rfl ?_
  refine gt_X8_openTill X iwX8 (Std.lt hS rfl) (Std.k hS rfl rfl) (List.mem_cons_of_mem _ bw_5_9) dX8_learn_17 15 (Std.r hS 1 rfl) ?_
  refine v_sipush X dX8_learn_20 (by decide) ?_
  refine v_callSO X [.ref (ad 15), .int (iz 240)] hRm (c_J7_fill_53178 _ _ _ 15 240 240 (Std.lt hS rfl) (Std.at hS rfl rfl) ⟨by decide, by decide⟩ (by decide)) (gSO bw_5_11 bw_5_12 bw_5_13 bw_5_14) rfl ddJ7_fill_53178.2 (by decide) (Nat.le_of_ble_eq_true rfl) dX8_learn_23 (k_eV (fun M6 e5 => ?_))
  replace e5 : M6 = (mrow (mrow (mrow M 14 (filz (M 14) 240 (-1))) 16 (filz (M 16) 6 0)) 15 (filz (M 15) 240 240)) := e5
  subst e5
  refine v_iconst X dX8_learn_26 ?_
  refine v_istore_n X [(3, .int (iz 0)), (0, .ref (ad 13)), (1, .ref (ad 9)), (2, .int (iz n))] dX8_learn_27 rfl (by decide) rfl ?_
  have hl7 : ∀ (n9 : Nat) (i : Int) (j : Nat), (i = (j : Int)) → (i ≤ n) → (n - i).toNat < n9 → V K 4 0 0 N sh ad (mrow (mrow (mrow M 14 (cbRow (M 10) (M 11) (M 12) j (M 14))) 16 (rdRow (M 10) (M 11) (M 12) j (M 16))) 15 (coRow (M 10) (M 11) (M 12) j (M 15))) L R [(0, .ref (ad 13)), (1, .ref (ad 9)), (2, .int (iz n)), (3, .int (iz i))] [] 28 := by
    intro n9
    induction n9 with
    | zero => intro i j ei hi hn10; exact absurd hn10 (Nat.not_lt_zero _)
    | succ n9 ih8 =>
      intro i j ei hi hn10
      refine v_iload_n X 3 dX8_learn_28 rfl rfl ?_
      refine v_iload_n X 2 dX8_learn_29 rfl rfl ?_
      refine v_icmp_ge X 70 dX8_learn_30 (by decide) ⟨by omega, by omega⟩ ⟨by omega, by omega⟩ (fun u11 => ?_) (fun u11 => ?_)
      · skip
        refine v_aload_n X 0 dX8_learn_70 rfl rfl ?_
        refine v_callV X [] hRm (c_X8_carryBaseOn _ _ _ hS) (gV bw_31_19 bw_31_20 bw_31_21 bw_2_6 bw_31_22) rfl ddX8_carryBaseOn (by decide) (Std.lt hS rfl) (Std.k hS rfl rfl) ⟨rfl, by decide⟩ (Nat.le_of_ble_eq_true rfl) dX8_learn_71 (k_eV (fun M13 e12 => ?_))
        replace e12 : M13 = (mrow (mrow (mrow M 14 (bsRow (M 10) (M 11) (M 12) n.toNat 240 (M 14))) 16 (rdRow (M 10) (M 11) (M 12) n.toNat (M 16))) 15 (coRow (M 10) (M 11) (M 12) n.toNat (M 15))) := e12.trans (by obtain rfl : j = n.toNat := (by omega); show mrow (mrow (mrow (mrow M 14 (cbRow (M 10) (M 11) (M 12) n.toNat (M 14))) 16 (rdRow (M 10) (M 11) (M 12) n.toNat (M 16))) 15 (coRow (M 10) (M 11) (M 12) n.toNat (M 15))) 14 (caRow (cbRow (M 10) (M 11) (M 12) n.toNat (M 14)) 240) = _; rw [ca_row (fun k q1 q2 => (hF k q1 (by omega)).1)]; exact row4 _ _ _ _ _)
        subst e12
        refine v_aload_n X 0 dX8_learn_74 rfl rfl ?_
        refine v_callV X [] hRm (c_X8_lookAhead _ _ _ hS) (gV bw_31_23 bw_32_0 bw_32_1 bw_2_6 bw_32_2) rfl ddX8_lookAhead (by decide) (Std.lt hS rfl) (Std.k hS rfl rfl) ⟨rfl, by decide⟩ (Nat.le_of_ble_eq_true rfl) dX8_learn_75 (k_eV (fun M15 e14 => ?_))
        replace e14 : M15 = (mrow (mrow (mrow M 14 (bsRow (M 10) (M 11) (M 12) n.toNat 240 (M 14))) 16 (rdRow (M 10) (M 11) (M 12) n.toNat (M 16))) 15 (opRow (fun z => shAt (M 10) (M 11) (M 12) z n.toNat) (M 15))) := e14.trans (by show mrow (mrow (mrow (mrow M 14 (bsRow (M 10) (M 11) (M 12) n.toNat 240 (M 14))) 16 (rdRow (M 10) (M 11) (M 12) n.toNat (M 16))) 15 (coRow (M 10) (M 11) (M 12) n.toNat (M 15))) 15 (laRow (coRow (M 10) (M 11) (M 12) n.toNat (M 15)) (-1)) = _; rw [la_row]; exact mrow_mrow _ _ _ _)
        subst e14
        refine hret _ _ _ _ _ _ _ _ _ _ _ none dX8_learn_78 ⟨rfl, rfl⟩ (by decide) (by decide) (fun hmok => ?_)
        refine ⟨rfl, rfl, rfl, rfl, rfl, rfl, ?_⟩
        try dsimp only
        all_goals rfl
      · skip
        refine v_iload_n X 3 dX8_learn_33 rfl rfl ?_
        refine v_aload_n X 1 dX8_learn_34 rfl rfl ?_
        refine gt_X1_kinds X iwX1 (Std.lt hS rfl) (Std.k hS rfl rfl) (List.mem_cons_of_mem _ bw_31_12) dX8_learn_35 10 (Std.r hS 0 rfl) ?_
        refine v_alenI X (Std.lt hS rfl) (Std.at hS rfl rfl) dX8_learn_38 ?_
        refine v_icmp_ge X 70 dX8_learn_39 (by decide) ⟨by omega, by omega⟩ ⟨by decide, by decide⟩ (fun q => absurd q (by omega)) (fun u16 => ?_)
        refine v_aload_n X 0 dX8_learn_42 rfl rfl ?_
        refine v_aload_n X 1 dX8_learn_43 rfl rfl ?_
        refine gt_X1_kinds X iwX1 (Std.lt hS rfl) (Std.k hS rfl rfl) (List.mem_cons_of_mem _ bw_31_12) dX8_learn_44 10 (Std.r hS 0 rfl) ?_
        refine v_iload_n X 3 dX8_learn_47 rfl rfl ?_
        refine v_iald X (M 10 i) (Std.lt hS rfl) (Std.at hS rfl rfl) (by omega) (by omega) dX8_learn_48 rfl (fun hr17 => ?_)
        refine v_aload_n X 1 dX8_learn_49 rfl rfl ?_
        refine gt_X1_firsts X iwX1 (Std.lt hS rfl) (Std.k hS rfl rfl) (List.mem_cons_of_mem _ bw_31_13) dX8_learn_50 11 (Std.r hS 1 rfl) ?_
        refine v_iload_n X 3 dX8_learn_53 rfl rfl ?_
        refine v_iald X (M 11 i) (Std.lt hS rfl) (Std.at hS rfl rfl) (by omega) (by omega) dX8_learn_54 rfl (fun hr18 => ?_)
        refine v_aload_n X 1 dX8_learn_55 rfl rfl ?_
        refine gt_X1_seconds X iwX1 (Std.lt hS rfl) (Std.k hS rfl rfl) (List.mem_cons_of_mem _ bw_31_14) dX8_learn_56 12 (Std.r hS 2 rfl) ?_
        refine v_iload_n X 3 dX8_learn_59 rfl rfl ?_
        refine v_iald X (M 12 i) (Std.lt hS rfl) (Std.at hS rfl rfl) (by omega) (by omega) dX8_learn_60 rfl (fun hr19 => ?_)
        refine v_callV X [.int (iz (M 10 i)), .int (iz (M 11 i)), .int (iz (M 12 i))] hRm (c_X8_learnOne _ _ _ hS (M 10 i) (M 11 i) (M 12 i) (hF i (by omega) (by omega)).1 (hF i (by omega) (by omega)).2) (gV bw_31_15 bw_31_16 bw_31_17 bw_2_6 bw_31_18) rfl ddX8_learnOne (by decide) (Std.lt hS rfl) (Std.k hS rfl rfl) ⟨rfl, by decide⟩ (Nat.le_of_ble_eq_true rfl) dX8_learn_61 (k_eV (fun M21 e20 => ?_))
        replace e20 : M21 = (mrow (mrow (mrow M 14 (cbRow (M 10) (M 11) (M 12) (j + 1) (M 14))) 16 (rdRow (M 10) (M 11) (M 12) (j + 1) (M 16))) 15 (coRow (M 10) (M 11) (M 12) (j + 1) (M 15))) := e20.trans (by subst ei; have hf := hF (j : Int) (by omega) (by omega); show mrow (mrow (mrow (mrow (mrow (mrow M 14 (cbRow (M 10) (M 11) (M 12) j (M 14))) 16 (rdRow (M 10) (M 11) (M 12) j (M 16))) 15 (coRow (M 10) (M 11) (M 12) j (M 15))) 14 (lb14 (cbRow (M 10) (M 11) (M 12) j (M 14)) (M 10 (j : Int)) (M 11 (j : Int)) (M 12 (j : Int)))) 15 (lb15 (coRow (M 10) (M 11) (M 12) j (M 15)) (M 10 (j : Int)) (M 11 (j : Int)) (M 12 (j : Int)))) 16 (lb16 (rdRow (M 10) (M 11) (M 12) j (M 16)) (M 10 (j : Int)) (M 11 (j : Int)) (M 12 (j : Int))) = _; rw [cbRow_s _ _ _ _ _ hf.1, coRow_s _ _ _ _ _ hf.1 hf.2, rdRow_s _ _ _ _ _ hf.1]; exact row6 _ _ _ _ _ _ _)
        subst e20
        refine v_iinc X 3 [(3, .int (iz (i + 1))), (0, .ref (ad 13)), (1, .ref (ad 9)), (2, .int (iz n))] dX8_learn_64 rfl (by decide) rfl ?_
        refine v_goto X 28 dX8_learn_67 (by decide) ?_
        refine v_lv [1, 2, 3, 0] rfl ?_
        refine v_mem (M' := (mrow (mrow (mrow M 14 (cbRow (M 10) (M 11) (M 12) (j + 1) (M 14))) 16 (rdRow (M 10) (M 11) (M 12) (j + 1) (M 16))) 15 (coRow (M 10) (M 11) (M 12) (j + 1) (M 15)))) (by rfl) rfl rfl ?_
        exact ih8 (i + 1) (j + 1) (by omega) (by omega) (by omega)
  refine v_lv [1, 2, 3, 0] rfl ?_
  refine v_mem (M' := (mrow (mrow (mrow M 14 (cbRow (M 10) (M 11) (M 12) 0 (M 14))) 16 (rdRow (M 10) (M 11) (M 12) 0 (M 16))) 15 (coRow (M 10) (M 11) (M 12) 0 (M 15)))) (by rw [cbRow_0, row_rd0, coRow_0]) rfl rfl ?_
  exact hl7 _ 0 0 (by omega) (by omega) (Nat.lt_succ_self _)

-- baseIn
set_option maxHeartbeats 4000000 in
set_option maxRecDepth 100000 in
theorem c_X11_baseIn (l : Launch) (D : va_G) (cy : Nat → ClassId) {N : Nat} {sh : MS} {ad : Nat → Nat} {M L : MI} {R : MR} (hS : Std N sh R) (m : Int) (n : Int) (hm : inR m) (hn : inR n) (hz : 0 ≤ M 9 3 ∧ M 9 3 ≤ 100) (hFc : ∀ k : Int, 0 ≤ k → k < M 9 3 → FactOk (M 10 k) (M 11 k) (M 12 k) ∧ M 10 k ≠ 3) : Ctr l D cy yX11_baseIn wsX11_baseIn ({ frames := 3, cells := 0, slots := 0, locals := 59 } : Room) N sh ad M L R [.ref (ad 0), .int (iz m), .int (iz n)] (eI N sh ad L R (fun r M' => if 0 ≤ m ∧ m < 240 ∧ 0 ≤ n ∧ n ≤ M 9 3 then r = bsAt (M 10) (M 11) (M 12) n.toNat m.toNat ∧ M' = mrow (mrow (mrow M 14 (bsRow (M 10) (M 11) (M 12) n.toNat 240 (M 14))) 16 (rdRow (M 10) (M 11) (M 12) n.toNat (M 16))) 15 (opRow (fun z => shAt (M 10) (M 11) (M 12) z n.toNat) (M 15)) else r = -1 ∧ M' = M)) := by
  refine Ctr.ofI (by decide) rfl (Nat.le_of_ble_eq_true rfl) ?_
  intro K hKl hKd hRm hnm X hret
  have X : VX K cX11_baseIn 3 wsX11_baseIn RX11 := X
  show V K 3 0 0 N sh ad M L R [(0, .ref (ad 0)), (1, .int (iz m)), (2, .int (iz n))] [] 0
  refine v_iload_n X 1 dX11_baseIn_0 rfl rfl ?_
  refine v_callS X [.int (iz m)] hRm (c_X11_isMinute _ _ _ m ⟨by omega, by omega⟩) (gS bw_26_19 bw_26_20 bw_1_2 bw_26_21) rfl ddX11_isMinute (by decide) (Nat.le_of_ble_eq_true rfl) dX11_baseIn_1 (k_pB (fun b1 => ?_) (fun b1 => ?_))
  · skip
    refine v_if_eq X 18 dX11_baseIn_4 (by decide) ⟨by decide, by decide⟩ (fun q => absurd q (by decide)) (fun _ => ?_)
    refine v_aload_n X 0 dX11_baseIn_7 rfl rfl ?_
    refine gt_X11_facts X iwX11 (Std.lt hS rfl) (Std.k hS rfl rfl) (List.mem_cons_of_mem _ bw_2_3) dX11_baseIn_8 9 (Std.r hS 3 rfl) ?_
    refine v_iload_n X 2 dX11_baseIn_11 rfl rfl ?_
    refine v_callV X [.int (iz n)] hRm (c_X1_has _ _ _ hS n ⟨by omega, by omega⟩) (gV bw_31_4 bw_31_5 bw_31_6 bw_2_2 bw_31_7) rfl ddX1_has (by decide) (Std.lt hS rfl) (Std.k hS rfl rfl) ⟨rfl, by decide⟩ (Nat.le_of_ble_eq_true rfl) dX11_baseIn_12 (k_pB (fun b2 => ?_) (fun b2 => ?_))
    · skip
      refine v_if_ne X 20 dX11_baseIn_15 (by decide) ⟨by decide, by decide⟩ (fun _ => ?_) (fun q => absurd (by decide) q)
      refine v_aload_n X 0 dX11_baseIn_20 rfl rfl ?_
      refine gt_X11_sky X iwX11 (Std.lt hS rfl) (Std.k hS rfl rfl) (List.mem_cons_of_mem _ bw_2_7) dX11_baseIn_21 13 (Std.r hS 4 rfl) ?_
      refine v_aload_n X 0 dX11_baseIn_24 rfl rfl ?_
      refine gt_X11_facts X iwX11 (Std.lt hS rfl) (Std.k hS rfl rfl) (List.mem_cons_of_mem _ bw_2_3) dX11_baseIn_25 9 (Std.r hS 3 rfl) ?_
      refine v_iload_n X 2 dX11_baseIn_28 rfl rfl ?_
      refine v_callV X [.ref (ad 9), .int (iz n)] hRm (c_X8_learn _ _ _ hS n (by omega) (fun k q1 q2 => hFc k q1 (by omega))) (gV bw_31_8 bw_31_9 bw_31_10 bw_2_6 bw_31_11) rfl ddX8_learn (by decide) (Std.lt hS rfl) (Std.k hS rfl rfl) ⟨rfl, by decide⟩ (Nat.le_of_ble_eq_true rfl) dX11_baseIn_29 (k_eV (fun M4 e3 => ?_))
      replace e3 : M4 = (mrow (mrow (mrow M 14 (bsRow (M 10) (M 11) (M 12) n.toNat 240 (M 14))) 16 (rdRow (M 10) (M 11) (M 12) n.toNat (M 16))) 15 (opRow (fun z => shAt (M 10) (M 11) (M 12) z n.toNat) (M 15))) := e3
      subst e3
      refine v_aload_n X 0 dX11_baseIn_32 rfl rfl ?_
      refine gt_X11_sky X iwX11 (Std.lt hS rfl) (Std.k hS rfl rfl) (List.mem_cons_of_mem _ bw_2_7) dX11_baseIn_33 13 (Std.r hS 4 rfl) ?_
      refine gt_X8_base X iwX8 (Std.lt hS rfl) (Std.k hS rfl rfl) (List.mem_cons_of_mem _ bw_31_3) dX11_baseIn_36 14 (Std.r hS 0 rfl) ?_
      refine v_iload_n X 1 dX11_baseIn_39 rfl rfl ?_
      refine v_iald X ((bsRow (M 10) (M 11) (M 12) n.toNat 240 (M 14)) m) (Std.lt hS rfl) (Std.at hS rfl rfl) (by omega) (by omega) dX11_baseIn_40 rfl (fun hr5 => ?_)
      refine hret _ _ _ _ _ _ _ _ _ _ _ (some (.int (iz ((bsRow (M 10) (M 11) (M 12) n.toNat 240 (M 14)) m)))) dX11_baseIn_41 ⟨rfl, _, rfl⟩ (by decide) (by decide) (fun hmok => ?_)
      refine ⟨rfl, rfl, rfl, rfl, rfl, ((bsRow (M 10) (M 11) (M 12) n.toNat 240 (M 14)) m), rfl, ⟨by omega, by omega⟩, ?_⟩
      try dsimp only
      rw [if_pos (by omega)]
      refine ⟨?_, rfl⟩
      unfold bsRow
      rw [if_pos (by omega)]
    · skip
      refine v_if_ne X 20 dX11_baseIn_15 (by decide) ⟨by decide, by decide⟩ (fun q => absurd q (by decide)) (fun _ => ?_)
      refine v_iconst X dX11_baseIn_18 ?_
      refine hret _ _ _ _ _ _ _ _ _ _ _ (some (.int (iz (-1)))) dX11_baseIn_19 ⟨rfl, _, rfl⟩ (by decide) (by decide) (fun hmok => ?_)
      refine ⟨rfl, rfl, rfl, rfl, rfl, (-1), rfl, ⟨by decide, by decide⟩, ?_⟩
      try dsimp only
      rw [if_neg (by omega)]
      exact ⟨rfl, rfl⟩
  · skip
    refine v_if_eq X 18 dX11_baseIn_4 (by decide) ⟨by decide, by decide⟩ (fun _ => ?_) (fun q => absurd (by decide) q)
    refine v_iconst X dX11_baseIn_18 ?_
    refine hret _ _ _ _ _ _ _ _ _ _ _ (some (.int (iz (-1)))) dX11_baseIn_19 ⟨rfl, _, rfl⟩ (by decide) (by decide) (fun hmok => ?_)
    refine ⟨rfl, rfl, rfl, rfl, rfl, (-1), rfl, ⟨by decide, by decide⟩, ?_⟩
    try dsimp only
    rw [if_neg (by omega)]
    exact ⟨rfl, rfl⟩

