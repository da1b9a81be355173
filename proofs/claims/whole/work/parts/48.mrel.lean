-- relation
set_option maxHeartbeats 4000000 in
set_option maxRecDepth 100000 in
theorem c_X12_relation (l : Launch) (D : va_G) (cy : Nat → ClassId) {N : Nat} {sh : MS} {ad : Nat → Nat} {M L : MI} {R : MR} (hS : Std N sh R) (f : Int → Int) (n : Int) (c0 : CSt) (pend : List Int) (cz0 : Int) (cd0 : Int → Int) (rr : CRt) (mz0 s q orf : Int) (t : Nat) (hor : 0 ≤ orf ∧ orf < 2) (hs : s = 0 ∨ s = 1) (hT : tokOk (bt f n) n M) (hG : GT (bt f n) n c0 t) (hc : cm (bt f n) n c0 t = (2, 1, 0, pend, cz0, cd0, rr)) (hp : ∀ x ∈ pend, x ≠ 23 ∧ rkI x ≤ 2) (hpl : pend.length ≤ 2) (hz0 : 0 ≤ cz0) (h0 : szC c0 ≤ 0) (h11 : M 53 11 = (t : Int)) (h12 : M 53 12 = 0) (h13 : M 53 13 = 0) (h32 : M 53 32 = mz0) (h19 : M 53 19 = s) (h67 : M 67 s = q) (hq : 0 ≤ q ∧ 2 * q ≤ (t : Int)) (hz : 0 ≤ mz0 ∧ mz0 + 401 - cz0 ≤ 1000) : Ctr l D cy yX12_relation wsX12_relation ({ frames := 3, cells := 0, slots := 0, locals := 68 } : Room) N sh ad M L R [.ref (ad 53), .int (iz orf)] (eV N sh ad L R (fun M' => (FlT (bt f n) n c0 M' ∧ frE mz0 (mz0 + 401 - cz0) M M') ∨ ∃ t1 : Nat, t + 2 < t1 ∧ RE (bt f n) n c0 pend cz0 cd0 rr mz0 s q orf t1 M' ∧ frL mz0 (mz0 + 401 - cz0) s q M M')) := by
  refine Ctr.ofV (by decide) rfl (Nat.le_of_ble_eq_true rfl) ?_
  intro K hKl hKd hRm hnm X hret
  have X : VX K cX12_relation 6 wsX12_relation RX12 := X
  show V K 6 0 0 N sh ad M L R [(0, .ref (ad 53)), (1, .int (iz orf))] [] 0
  refine v_aload_n X 0 dX12_relation_0 rfl rfl ?_
  refine gt_X12_codes X iwX12 (Std.lt hS rfl) (Std.k hS rfl rfl) (List.mem_cons_of_mem _ bw_19_17) dX12_relation_1 (M 53 32) rfl (fun hr1 => ?_)
  refine v_istore_n X [(2, .int (iz (M 53 32))), (0, .ref (ad 53)), (1, .int (iz orf))] dX12_relation_4 rfl (by decide) rfl ?_
  refine v_aload_n X 1 dX12_relation_5 rfl rfl ?_
  refine v_callV X [] hRm (c_X12_expression _ _ _ hS f n c0 1 pend cz0 cd0 rr mz0 t ⟨fun x hx => ⟨(hp x hx).1, by have := (hp x hx).2; omega⟩, by omega, hz0, h0⟩ hT hG hc h11 h12 h13 h32 hz) (gV bw_21_10 bw_21_11 bw_21_12 bw_1_5 bw_21_13) rfl ddX12_expression (by decide) (Std.lt hS rfl) (Std.k hS rfl rfl) ⟨rfl, by decide⟩ (Nat.le_of_ble_eq_true rfl) dX12_relation_6 (k_eV (fun Mp e1 => ?_))
  obtain ⟨e1, ef1⟩ := e1
  rcases e1 with efl | ⟨t1, ht1, ee⟩
  · skip
    have efp : 0 < Mp 53 13 := by obtain ⟨_, F9, _, _, f3, f4, _, _⟩ := efl; omega
    have efb : 0 ≤ Mp 53 11 ∧ Mp 53 11 ≤ 400 := by obtain ⟨_, F9, _, _, f3, f4, _, f6⟩ := efl; exact f6
    refine v_aload_n X 1 dX12_relation_9 rfl rfl ?_
    refine gt_X12_fault X iwX12 (Std.lt hS rfl) (Std.k hS rfl rfl) (List.mem_cons_of_mem _ bw_19_13) dX12_relation_10 (Mp 53 13) rfl (fun hr2 => ?_)
    refine v_if_le X 20 dX12_relation_13 (by decide) ⟨by omega, by omega⟩ (fun q => absurd q (by omega)) (fun u3 => ?_)
    refine v_iconst X dX12_relation_16 ?_
    refine v_goto X 32 dX12_relation_17 (by decide) ?_
    refine v_istore_n X [(3, .int (iz 0)), (2, .int (iz (M 53 32))), (0, .ref (ad 53)), (1, .int (iz orf))] dX12_relation_32 rfl (by decide) rfl ?_
    refine v_aload_n X 2 dX12_relation_33 rfl rfl ?_
    refine gt_X12_fault X iwX12 (Std.lt hS rfl) (Std.k hS rfl rfl) (List.mem_cons_of_mem _ bw_19_13) dX12_relation_34 (Mp 53 13) rfl (fun hr4 => ?_)
    refine v_if_ne X 54 dX12_relation_37 (by decide) ⟨by omega, by omega⟩ (fun u5 => ?_) (fun q => absurd (by omega) q)
    refine v_aload_n X 2 dX12_relation_54 rfl rfl ?_
    refine v_callV X [] hRm (c_X12_next _ _ _ hS (show 0 ≤ (Mp 53 11) ∧ (Mp 53 11) ≤ 400 by omega)) (gV bw_21_6 bw_21_7 bw_21_8 bw_1_5 bw_21_9) rfl ddX12_next (by decide) (Std.lt hS rfl) (Std.k hS rfl rfl) ⟨rfl, by decide⟩ (Nat.le_of_ble_eq_true rfl) dX12_relation_55 (k_eV (fun M6 e7 => ?_))
    by_cases ht8 : (Mp 53 11) = 400
    · skip
      replace e7 : M6 = Mp := e7.trans (mNext_f (show (Mp 53 11) = 400 from ht8) (show 0 < (Mp 53 13) by omega))
      rw [e7]
      refine v_aload_n X 2 dX12_relation_58 rfl rfl ?_
      refine gt_X12_codes X iwX12 (Std.lt hS rfl) (Std.k hS rfl rfl) (List.mem_cons_of_mem _ bw_19_17) dX12_relation_59 (Mp 53 32) rfl (fun hr9 => ?_)
      refine v_istore X [(4, .int (iz (Mp 53 32))), (3, .int (iz 0)), (2, .int (iz (M 53 32))), (0, .ref (ad 53)), (1, .int (iz orf))] dX12_relation_62 (by decide) rfl ?_
      refine v_aload_n X 3 dX12_relation_64 rfl rfl ?_
      refine v_callV X [] hRm (c_X12_expression_f _ _ _ hS (show 0 < (Mp 53 13) by omega)) (gV bw_21_10 bw_21_11 bw_21_12 bw_1_5 bw_21_13) rfl ddX12_expression (by decide) (Std.lt hS rfl) (Std.k hS rfl rfl) ⟨rfl, by decide⟩ (Nat.le_of_ble_eq_true rfl) dX12_relation_65 (k_eV (fun M11 e10 => ?_))
      replace e10 : M11 = (mu Mp 53 36 0) := e10
      subst e10
      refine v_aload_n X 3 dX12_relation_68 rfl rfl ?_
      refine gt_X12_fault X iwX12 (Std.lt hS rfl) (Std.k hS rfl rfl) (List.mem_cons_of_mem _ bw_19_13) dX12_relation_69 (Mp 53 13) rfl (fun hr12 => ?_)
      refine v_if_le X 76 dX12_relation_72 (by decide) ⟨by omega, by omega⟩ (fun q => absurd q (by omega)) (fun u13 => ?_)
      refine hret _ _ _ _ _ _ _ _ _ _ _ none dX12_relation_75 ⟨rfl, rfl⟩ (by decide) (by decide) (fun hmok => ?_)
      obtain ⟨t9, F9, f1, f2, f3, f4, f5, f6⟩ := efl
      exact ⟨rfl, rfl, rfl, rfl, rfl, rfl, Or.inl ⟨⟨t9, F9, f1, f2, f3, f4, f5, show 0 ≤ (Mp 53 11) ∧ (Mp 53 11) ≤ 400 by omega⟩, (frE_trans ef1 ⟨fun i i1 i2 i3 i4 => (by rw [mu_i _ _ _ i1]), fun z z1 z2 z3 z4 z5 z6 => (by rw [mu_z _ _ _ z6]), fun z hz => ⟨(by rw [mu_i _ _ _ (by decide)]), (by rw [mu_i _ _ _ (by decide)])⟩⟩ (Int.le_refl _) (Int.le_refl _) (Int.le_refl _) (Int.le_refl _))⟩⟩
    · skip
      replace e7 : M6 = (mu Mp 53 11 ((Mp 53 11) + 1)) := e7.trans (mNext_go (show (Mp 53 11) ≠ 400 from ht8))
      rw [e7]
      refine v_aload_n X 2 dX12_relation_58 rfl rfl ?_
      refine gt_X12_codes X iwX12 (Std.lt hS rfl) (Std.k hS rfl rfl) (List.mem_cons_of_mem _ bw_19_17) dX12_relation_59 (Mp 53 32) rfl (fun hr14 => ?_)
      refine v_istore X [(4, .int (iz (Mp 53 32))), (3, .int (iz 0)), (2, .int (iz (M 53 32))), (0, .ref (ad 53)), (1, .int (iz orf))] dX12_relation_62 (by decide) rfl ?_
      refine v_aload_n X 3 dX12_relation_64 rfl rfl ?_
      refine v_callV X [] hRm (c_X12_expression_f _ _ _ hS (show 0 < (Mp 53 13) by omega)) (gV bw_21_10 bw_21_11 bw_21_12 bw_1_5 bw_21_13) rfl ddX12_expression (by decide) (Std.lt hS rfl) (Std.k hS rfl rfl) ⟨rfl, by decide⟩ (Nat.le_of_ble_eq_true rfl) dX12_relation_65 (k_eV (fun M16 e15 => ?_))
      replace e15 : M16 = (mu (mu Mp 53 11 ((Mp 53 11) + 1)) 53 36 0) := e15
      subst e15
      refine v_aload_n X 3 dX12_relation_68 rfl rfl ?_
      refine gt_X12_fault X iwX12 (Std.lt hS rfl) (Std.k hS rfl rfl) (List.mem_cons_of_mem _ bw_19_13) dX12_relation_69 (Mp 53 13) rfl (fun hr17 => ?_)
      refine v_if_le X 76 dX12_relation_72 (by decide) ⟨by omega, by omega⟩ (fun q => absurd q (by omega)) (fun u18 => ?_)
      refine hret _ _ _ _ _ _ _ _ _ _ _ none dX12_relation_75 ⟨rfl, rfl⟩ (by decide) (by decide) (fun hmok => ?_)
      obtain ⟨t9, F9, f1, f2, f3, f4, f5, f6⟩ := efl
      exact ⟨rfl, rfl, rfl, rfl, rfl, rfl, Or.inl ⟨⟨t9, F9, f1, f2, f3, f4, f5, show 0 ≤ ((Mp 53 11) + 1) ∧ ((Mp 53 11) + 1) ≤ 400 by omega⟩, (frE_trans ef1 ⟨fun i i1 i2 i3 i4 => (by rw [mu_i _ _ _ i1, mu_i _ _ _ i1]), fun z z1 z2 z3 z4 z5 z6 => (by rw [mu_z _ _ _ z6, mu_z _ _ _ z1]), fun z hz => ⟨(by rw [mu_i _ _ _ (by decide), mu_i _ _ _ (by decide)]), (by rw [mu_i _ _ _ (by decide), mu_i _ _ _ (by decide)])⟩⟩ (Int.le_refl _) (Int.le_refl _) (Int.le_refl _) (Int.le_refl _))⟩⟩
  · skip
    obtain ⟨w1, cz1, cd1, k1, eG, ⟨e11, e12, e13, e32⟩, ec, ew, ez, ea, eo, el, en⟩ := ee
    have e400 := eG.1
    have eT := frE_tok ef1 hT
    have ek := GT_tok eG eT
    rw [← e11] at ek
    obtain ⟨eC, eP, eV9⟩ := ek
    have er := cOf_rel (m := Mp 56 (Mp 53 11))
    rw [eC] at er
    refine v_aload_n X 1 dX12_relation_9 rfl rfl ?_
    refine gt_X12_fault X iwX12 (Std.lt hS rfl) (Std.k hS rfl rfl) (List.mem_cons_of_mem _ bw_19_13) dX12_relation_10 (Mp 53 13) rfl (fun hr19 => ?_)
    refine v_if_le X 20 dX12_relation_13 (by decide) ⟨by omega, by omega⟩ (fun u20 => ?_) (fun q => absurd (by omega) q)
    refine v_aload_n X 1 dX12_relation_20 rfl rfl ?_
    refine gt_X12_tKind X iwX12 (Std.lt hS rfl) (Std.k hS rfl rfl) (List.mem_cons_of_mem _ bw_7_16) dX12_relation_21 56 (Std.r hS 5 rfl) ?_
    refine v_aload_n X 1 dX12_relation_24 rfl rfl ?_
    refine gt_X12_t X iwX12 (Std.lt hS rfl) (Std.k hS rfl rfl) (List.mem_cons_of_mem _ bw_19_11) dX12_relation_25 (Mp 53 11) rfl (fun hr21 => ?_)
    refine v_iald X (Mp 56 (Mp 53 11)) (Std.lt hS rfl) (Std.at hS rfl rfl) (by omega) (by omega) dX12_relation_28 rfl (fun hr22 => ?_)
    refine v_bipush X dX12_relation_29 (by decide) ?_
    refine v_isub X dX12_relation_31 ?_
    refine v_st (st' := [.int (iz (wrp ((Mp 56 (Mp 53 11)) - 11)))]) (by rw [wrp_iz]) ?_
    have hw9 := wrp_in ((Mp 56 (Mp 53 11)) - 11)
    have hw8 := wrp_11 (m := Mp 56 (Mp 53 11)) (by assumption)
    refine v_istore_n X [(3, .int (iz (wrp ((Mp 56 (Mp 53 11)) - 11)))), (2, .int (iz (M 53 32))), (0, .ref (ad 53)), (1, .int (iz orf))] dX12_relation_32 rfl (by decide) rfl ?_
    refine v_aload_n X 2 dX12_relation_33 rfl rfl ?_
    refine gt_X12_fault X iwX12 (Std.lt hS rfl) (Std.k hS rfl rfl) (List.mem_cons_of_mem _ bw_19_13) dX12_relation_34 (Mp 53 13) rfl (fun hr23 => ?_)
    refine v_if_ne X 54 dX12_relation_37 (by decide) ⟨by omega, by omega⟩ (fun q => absurd q (by omega)) (fun u24 => ?_)
    refine v_iload_n X 0 dX12_relation_40 rfl rfl ?_
    refine v_if_lt X 49 dX12_relation_41 (by decide) ⟨by omega, by omega⟩ (fun u25 => ?_) (fun u25 => ?_)
    · skip
      refine v_aload_n X 2 dX12_relation_49 rfl rfl ?_
      refine v_iconst X dX12_relation_50 ?_
      refine v_callV X [.int (iz 1)] hRm (c_X12_fail _ _ _ hS 1 ⟨by decide, by decide⟩ (show 0 ≤ (Mp 53 11) ∧ (Mp 53 11) < 403 by omega)) (gV bw_21_2 bw_21_3 bw_21_4 bw_1_5 bw_21_5) rfl ddX12_fail (by decide) (Std.lt hS rfl) (Std.k hS rfl rfl) ⟨rfl, by decide⟩ (Nat.le_of_ble_eq_true rfl) dX12_relation_51 (k_eV (fun M26 e27 => ?_))
      replace e27 : M26 = (mu (mu Mp 53 13 1) 53 14 (Mp 57 (Mp 53 11))) := e27.trans (mFail_n (show ¬ 0 < (Mp 53 13) by omega))
      subst e27
      have fl28 : FlT (bt f n) n c0 (mu (mu Mp 53 13 1) 53 14 (Mp 57 (Mp 53 11))) := FlT_mk eG ec (Or.inl ⟨rfl, fun z => by rw [goW_3 (by decide) (by decide) (by decide), goU_1 (by omega) (by decide) rfl] at z; omega, fun z => by omega⟩) rfl (show (Mp 57 (Mp 53 11)) = _ from eP) (show 0 ≤ Mp 53 11 ∧ Mp 53 11 ≤ 400 by omega)
      refine v_aload_n X 2 dX12_relation_54 rfl rfl ?_
      refine v_callV X [] hRm (c_X12_next _ _ _ hS (show 0 ≤ (Mp 53 11) ∧ (Mp 53 11) ≤ 400 by omega)) (gV bw_21_6 bw_21_7 bw_21_8 bw_1_5 bw_21_9) rfl ddX12_next (by decide) (Std.lt hS rfl) (Std.k hS rfl rfl) ⟨rfl, by decide⟩ (Nat.le_of_ble_eq_true rfl) dX12_relation_55 (k_eV (fun M29 e30 => ?_))
      by_cases ht31 : (Mp 53 11) = 400
      · skip
        replace e30 : M29 = (mu (mu Mp 53 13 1) 53 14 (Mp 57 (Mp 53 11))) := e30.trans (mNext_f (show (Mp 53 11) = 400 from ht31) (show 0 < 1 by omega))
        rw [e30]
        refine v_aload_n X 2 dX12_relation_58 rfl rfl ?_
        refine gt_X12_codes X iwX12 (Std.lt hS rfl) (Std.k hS rfl rfl) (List.mem_cons_of_mem _ bw_19_17) dX12_relation_59 (Mp 53 32) rfl (fun hr32 => ?_)
        refine v_istore X [(4, .int (iz (Mp 53 32))), (3, .int (iz (wrp ((Mp 56 (Mp 53 11)) - 11)))), (2, .int (iz (M 53 32))), (0, .ref (ad 53)), (1, .int (iz orf))] dX12_relation_62 (by decide) rfl ?_
        refine v_aload_n X 3 dX12_relation_64 rfl rfl ?_
        refine v_callV X [] hRm (c_X12_expression_f _ _ _ hS (show 0 < 1 by omega)) (gV bw_21_10 bw_21_11 bw_21_12 bw_1_5 bw_21_13) rfl ddX12_expression (by decide) (Std.lt hS rfl) (Std.k hS rfl rfl) ⟨rfl, by decide⟩ (Nat.le_of_ble_eq_true rfl) dX12_relation_65 (k_eV (fun M34 e33 => ?_))
        replace e33 : M34 = (mu (mu (mu Mp 53 13 1) 53 14 (Mp 57 (Mp 53 11))) 53 36 0) := e33
        subst e33
        refine v_aload_n X 3 dX12_relation_68 rfl rfl ?_
        refine gt_X12_fault X iwX12 (Std.lt hS rfl) (Std.k hS rfl rfl) (List.mem_cons_of_mem _ bw_19_13) dX12_relation_69 1 rfl (fun hr35 => ?_)
        refine v_if_le X 76 dX12_relation_72 (by decide) ⟨by decide, by decide⟩ (fun q => absurd q (by decide)) (fun _ => ?_)
        refine hret _ _ _ _ _ _ _ _ _ _ _ none dX12_relation_75 ⟨rfl, rfl⟩ (by decide) (by decide) (fun hmok => ?_)
        obtain ⟨t9, F9, f1, f2, f3, f4, f5, f6⟩ := fl28
        exact ⟨rfl, rfl, rfl, rfl, rfl, rfl, Or.inl ⟨⟨t9, F9, f1, f2, f3, f4, f5, show 0 ≤ (Mp 53 11) ∧ (Mp 53 11) ≤ 400 by omega⟩, (frE_trans ef1 ⟨fun i i1 i2 i3 i4 => (by rw [mu_i _ _ _ i1, mu_i _ _ _ i1, mu_i _ _ _ i1]), fun z z1 z2 z3 z4 z5 z6 => (by rw [mu_z _ _ _ z6, mu_z _ _ _ z4, mu_z _ _ _ z3]), fun z hz => ⟨(by rw [mu_i _ _ _ (by decide), mu_i _ _ _ (by decide), mu_i _ _ _ (by decide)]), (by rw [mu_i _ _ _ (by decide), mu_i _ _ _ (by decide), mu_i _ _ _ (by decide)])⟩⟩ (Int.le_refl _) (Int.le_refl _) (Int.le_refl _) (Int.le_refl _))⟩⟩
      · skip
        replace e30 : M29 = (mu (mu (mu Mp 53 13 1) 53 14 (Mp 57 (Mp 53 11))) 53 11 ((Mp 53 11) + 1)) := e30.trans (mNext_go (show (Mp 53 11) ≠ 400 from ht31))
        rw [e30]
        refine v_aload_n X 2 dX12_relation_58 rfl rfl ?_
        refine gt_X12_codes X iwX12 (Std.lt hS rfl) (Std.k hS rfl rfl) (List.mem_cons_of_mem _ bw_19_17) dX12_relation_59 (Mp 53 32) rfl (fun hr36 => ?_)
        refine v_istore X [(4, .int (iz (Mp 53 32))), (3, .int (iz (wrp ((Mp 56 (Mp 53 11)) - 11)))), (2, .int (iz (M 53 32))), (0, .ref (ad 53)), (1, .int (iz orf))] dX12_relation_62 (by decide) rfl ?_
        refine v_aload_n X 3 dX12_relation_64 rfl rfl ?_
        refine v_callV X [] hRm (c_X12_expression_f _ _ _ hS (show 0 < 1 by omega)) (gV bw_21_10 bw_21_11 bw_21_12 bw_1_5 bw_21_13) rfl ddX12_expression (by decide) (Std.lt hS rfl) (Std.k hS rfl rfl) ⟨rfl, by decide⟩ (Nat.le_of_ble_eq_true rfl) dX12_relation_65 (k_eV (fun M38 e37 => ?_))
        replace e37 : M38 = (mu (mu (mu (mu Mp 53 13 1) 53 14 (Mp 57 (Mp 53 11))) 53 11 ((Mp 53 11) + 1)) 53 36 0) := e37
        subst e37
        refine v_aload_n X 3 dX12_relation_68 rfl rfl ?_
        refine gt_X12_fault X iwX12 (Std.lt hS rfl) (Std.k hS rfl rfl) (List.mem_cons_of_mem _ bw_19_13) dX12_relation_69 1 rfl (fun hr39 => ?_)
        refine v_if_le X 76 dX12_relation_72 (by decide) ⟨by decide, by decide⟩ (fun q => absurd q (by decide)) (fun _ => ?_)
        refine hret _ _ _ _ _ _ _ _ _ _ _ none dX12_relation_75 ⟨rfl, rfl⟩ (by decide) (by decide) (fun hmok => ?_)
        obtain ⟨t9, F9, f1, f2, f3, f4, f5, f6⟩ := fl28
        exact ⟨rfl, rfl, rfl, rfl, rfl, rfl, Or.inl ⟨⟨t9, F9, f1, f2, f3, f4, f5, show 0 ≤ ((Mp 53 11) + 1) ∧ ((Mp 53 11) + 1) ≤ 400 by omega⟩, (frE_trans ef1 ⟨fun i i1 i2 i3 i4 => (by rw [mu_i _ _ _ i1, mu_i _ _ _ i1, mu_i _ _ _ i1, mu_i _ _ _ i1]), fun z z1 z2 z3 z4 z5 z6 => (by rw [mu_z _ _ _ z6, mu_z _ _ _ z1, mu_z _ _ _ z4, mu_z _ _ _ z3]), fun z hz => ⟨(by rw [mu_i _ _ _ (by decide), mu_i _ _ _ (by decide), mu_i _ _ _ (by decide), mu_i _ _ _ (by decide)]), (by rw [mu_i _ _ _ (by decide), mu_i _ _ _ (by decide), mu_i _ _ _ (by decide), mu_i _ _ _ (by decide)])⟩⟩ (Int.le_refl _) (Int.le_refl _) (Int.le_refl _) (Int.le_refl _))⟩⟩
    · skip
      refine v_iload_n X 0 dX12_relation_44 rfl rfl ?_
      refine v_iconst X dX12_relation_45 ?_
      refine v_icmp_le X 54 dX12_relation_46 (by decide) ⟨by omega, by omega⟩ ⟨by decide, by decide⟩ (fun u40 => ?_) (fun u40 => ?_)
      · skip
        refine v_aload_n X 2 dX12_relation_54 rfl rfl ?_
        refine v_callV X [] hRm (c_X12_next _ _ _ hS (show 0 ≤ (Mp 53 11) ∧ (Mp 53 11) ≤ 400 by omega)) (gV bw_21_6 bw_21_7 bw_21_8 bw_1_5 bw_21_9) rfl ddX12_next (by decide) (Std.lt hS rfl) (Std.k hS rfl rfl) ⟨rfl, by decide⟩ (Nat.le_of_ble_eq_true rfl) dX12_relation_55 (k_eV (fun M41 e42 => ?_))
        by_cases ht43 : Mp 53 11 = 400
        · skip
          replace e42 : M41 = (mu (mu Mp 53 13 2) 53 14 (Mp 57 (Mp 53 11))) := e42.trans (mNext_full ht43 (show ¬ 0 < Mp 53 13 by omega))
          subst e42
          have fl44 : FlT (bt f n) n c0 (mu (mu Mp 53 13 2) 53 14 (Mp 57 (Mp 53 11))) := FlT_mk eG ec (Or.inr ⟨rfl, Or.inr (Or.inr (Or.inr ⟨ng3, Or.inr (Or.inr (Or.inr (Or.inl ⟨by decide, rfl, by omega⟩)))⟩)), Or.inl (by omega)⟩) rfl (show (Mp 57 (Mp 53 11)) = _ from eP) (show 0 ≤ Mp 53 11 ∧ Mp 53 11 ≤ 400 by omega)
          refine v_aload_n X 2 dX12_relation_58 rfl rfl ?_
          refine gt_X12_codes X iwX12 (Std.lt hS rfl) (Std.k hS rfl rfl) (List.mem_cons_of_mem _ bw_19_17) dX12_relation_59 (Mp 53 32) rfl (fun hr45 => ?_)
          refine v_istore X [(4, .int (iz (Mp 53 32))), (3, .int (iz (wrp ((Mp 56 (Mp 53 11)) - 11)))), (2, .int (iz (M 53 32))), (0, .ref (ad 53)), (1, .int (iz orf))] dX12_relation_62 (by decide) rfl ?_
          refine v_aload_n X 3 dX12_relation_64 rfl rfl ?_
          refine v_callV X [] hRm (c_X12_expression_f _ _ _ hS (show 0 < 2 by omega)) (gV bw_21_10 bw_21_11 bw_21_12 bw_1_5 bw_21_13) rfl ddX12_expression (by decide) (Std.lt hS rfl) (Std.k hS rfl rfl) ⟨rfl, by decide⟩ (Nat.le_of_ble_eq_true rfl) dX12_relation_65 (k_eV (fun M47 e46 => ?_))
          replace e46 : M47 = (mu (mu (mu Mp 53 13 2) 53 14 (Mp 57 (Mp 53 11))) 53 36 0) := e46
          subst e46
          refine v_aload_n X 3 dX12_relation_68 rfl rfl ?_
          refine gt_X12_fault X iwX12 (Std.lt hS rfl) (Std.k hS rfl rfl) (List.mem_cons_of_mem _ bw_19_13) dX12_relation_69 2 rfl (fun hr48 => ?_)
          refine v_if_le X 76 dX12_relation_72 (by decide) ⟨by decide, by decide⟩ (fun q => absurd q (by decide)) (fun _ => ?_)
          refine hret _ _ _ _ _ _ _ _ _ _ _ none dX12_relation_75 ⟨rfl, rfl⟩ (by decide) (by decide) (fun hmok => ?_)
          obtain ⟨t9, F9, f1, f2, f3, f4, f5, f6⟩ := fl44
          exact ⟨rfl, rfl, rfl, rfl, rfl, rfl, Or.inl ⟨⟨t9, F9, f1, f2, f3, f4, f5, show 0 ≤ (Mp 53 11) ∧ (Mp 53 11) ≤ 400 by omega⟩, (frE_trans ef1 ⟨fun i i1 i2 i3 i4 => (by rw [mu_i _ _ _ i1, mu_i _ _ _ i1, mu_i _ _ _ i1]), fun z z1 z2 z3 z4 z5 z6 => (by rw [mu_z _ _ _ z6, mu_z _ _ _ z4, mu_z _ _ _ z3]), fun z hz => ⟨(by rw [mu_i _ _ _ (by decide), mu_i _ _ _ (by decide), mu_i _ _ _ (by decide)]), (by rw [mu_i _ _ _ (by decide), mu_i _ _ _ (by decide), mu_i _ _ _ (by decide)])⟩⟩ (Int.le_refl _) (Int.le_refl _) (Int.le_refl _) (Int.le_refl _))⟩⟩
        · skip
          replace e42 : M41 = (mu Mp 53 11 ((Mp 53 11) + 1)) := e42.trans (mNext_go ht43)
          subst e42
          have hst := st_rel eG ec ew hp hpl (by omega) (by omega)
          have hkk : rkI (kdT (bt f n) n t1) = 3 := by rcases (show kdT (bt f n) n t1 = 19 ∨ kdT (bt f n) n t1 = 20 ∨ kdT (bt f n) n t1 = 21 ∨ kdT (bt f n) n t1 = 22 by omega) with h | h | h | h <;> rw [h] <;> rfl
          have hpk : ∀ x ∈ kdT (bt f n) n t1 :: pend, x ≠ 23 ∧ rkI x ≤ 3 := by intro x hx; rcases List.mem_cons.mp hx with hx | hx; (rw [hx]; exact ⟨by omega, by omega⟩); exact ⟨(hp x hx).1, by have := (hp x hx).2; omega⟩
          refine v_aload_n X 2 dX12_relation_58 rfl rfl ?_
          refine gt_X12_codes X iwX12 (Std.lt hS rfl) (Std.k hS rfl rfl) (List.mem_cons_of_mem _ bw_19_17) dX12_relation_59 (Mp 53 32) rfl (fun hr49 => ?_)
          refine v_istore X [(4, .int (iz (Mp 53 32))), (3, .int (iz (wrp ((Mp 56 (Mp 53 11)) - 11)))), (2, .int (iz (M 53 32))), (0, .ref (ad 53)), (1, .int (iz orf))] dX12_relation_62 (by decide) rfl ?_
          refine v_aload_n X 3 dX12_relation_64 rfl rfl ?_
          refine v_callV X [] hRm (c_X12_expression _ _ _ hS f n c0 2 (kdT (bt f n) n t1 :: pend) (cz0 + (k1 : Int)) (rlD 4 w1 cz1 cd1) rr (mz0 + (k1 : Int)) (t1 + 1) ⟨hpk, by simp only [List.length_cons]; omega, by omega, h0⟩ (frE_tok (show frE 0 0 Mp (mu Mp 53 11 ((Mp 53 11) + 1)) from ⟨fun i i1 i2 i3 i4 => (by rw [mu_i _ _ _ i1]), fun z z1 z2 z3 z4 z5 z6 => (by rw [mu_z _ _ _ z1]), fun z hz => ⟨(by rw [mu_i _ _ _ (by decide)]), (by rw [mu_i _ _ _ (by decide)])⟩⟩) eT) hst.1 (by rw [hst.2, ez]) (show Mp 53 11 + 1 = _ by omega) (show Mp 53 12 = 0 from e12) (show Mp 53 13 = 0 from e13) (show Mp 53 32 = _ from e32) (by omega)) (gV bw_21_10 bw_21_11 bw_21_12 bw_1_5 bw_21_13) rfl ddX12_expression (by decide) (Std.lt hS rfl) (Std.k hS rfl rfl) ⟨rfl, by decide⟩ (Nat.le_of_ble_eq_true rfl) dX12_relation_65 (k_eV (fun Mq e2 => ?_))
          obtain ⟨e2, ef2⟩ := e2
          have hfr : frE mz0 (mz0 + 401 - cz0) M Mq := frE_trans ef1 (frE_trans ⟨fun i i1 i2 i3 i4 => (by rw [mu_i _ _ _ i1]), fun z z1 z2 z3 z4 z5 z6 => (by rw [mu_z _ _ _ z1]), fun z hz => ⟨(by rw [mu_i _ _ _ (by decide)]), (by rw [mu_i _ _ _ (by decide)])⟩⟩ ef2 (lo := mz0) (hi := (mz0 + 401 - cz0)) (Int.le_refl _) (by omega) (Int.le_refl _) (by omega)) (Int.le_refl _) (Int.le_refl _) (Int.le_refl _) (Int.le_refl _)
          rcases e2 with efl | ⟨t2, ht2, ee2⟩
          · skip
            have efp : 0 < Mq 53 13 := by obtain ⟨_, F9, _, _, f3, f4, _, _⟩ := efl; omega
            refine v_aload_n X 3 dX12_relation_68 rfl rfl ?_
            refine gt_X12_fault X iwX12 (Std.lt hS rfl) (Std.k hS rfl rfl) (List.mem_cons_of_mem _ bw_19_13) dX12_relation_69 (Mq 53 13) rfl (fun hr50 => ?_)
            refine v_if_le X 76 dX12_relation_72 (by decide) ⟨by omega, by omega⟩ (fun q => absurd q (by omega)) (fun u51 => ?_)
            refine hret _ _ _ _ _ _ _ _ _ _ _ none dX12_relation_75 ⟨rfl, rfl⟩ (by decide) (by decide) (fun hmok => ?_)
            obtain ⟨t9, F9, f1, f2, f3, f4, f5, f6⟩ := efl
            exact ⟨rfl, rfl, rfl, rfl, rfl, rfl, Or.inl ⟨⟨t9, F9, f1, f2, f3, f4, f5, show 0 ≤ (Mq 53 11) ∧ (Mq 53 11) ≤ 400 by omega⟩, hfr⟩⟩
          · skip
            obtain ⟨w2, cz2, cd2, k2, dG, ⟨d11, d12, d13, d32⟩, dc, dw, dz, da, dO, dl, dn⟩ := ee2
            have d400 := dG.1
            have d19 : Mq 53 19 = s := (hfr.2.1 19 (by decide) (by decide) (by decide) (by decide) (by decide) (by decide)).trans h19
            have d67 : Mq 67 = M 67 := hfr.1 67 (by decide) (by decide) (by decide) (by decide)
            have d67b : Mq 67 (Mq 53 19) = q := by rw [d67, d19]; exact h67
            simp only [List.length_cons] at dl
            obtain ⟨i9, hi9⟩ : ∃ z : Int, z = 200 * (Mq 53 19) + Mq 67 (Mq 53 19) := ⟨_, rfl⟩
            have hix : i9 = 200 * s + q := by omega
            refine v_aload_n X 3 dX12_relation_68 rfl rfl ?_
            refine gt_X12_fault X iwX12 (Std.lt hS rfl) (Std.k hS rfl rfl) (List.mem_cons_of_mem _ bw_19_13) dX12_relation_69 (Mq 53 13) rfl (fun hr52 => ?_)
            refine v_if_le X 76 dX12_relation_72 (by decide) ⟨by omega, by omega⟩ (fun u53 => ?_) (fun q => absurd (by omega) q)
            refine v_sipush X dX12_relation_76 (by decide) ?_
            refine v_aload_n X 3 dX12_relation_79 rfl rfl ?_
            refine gt_X12_side X iwX12 (Std.lt hS rfl) (Std.k hS rfl rfl) (List.mem_cons_of_mem _ bw_19_16) dX12_relation_80 (Mq 53 19) rfl (fun hr54 => ?_)
            refine v_imul X dX12_relation_83 ?_
            refine v_aload_n X 3 dX12_relation_84 rfl rfl ?_
            refine gt_X12_relations X iwX12 (Std.lt hS rfl) (Std.k hS rfl rfl) (List.mem_cons_of_mem _ bw_8_5) dX12_relation_85 67 (Std.r hS 26 rfl) ?_
            refine v_aload_n X 3 dX12_relation_88 rfl rfl ?_
            refine gt_X12_side X iwX12 (Std.lt hS rfl) (Std.k hS rfl rfl) (List.mem_cons_of_mem _ bw_19_16) dX12_relation_89 (Mq 53 19) rfl (fun hr55 => ?_)
            refine v_iald X (Mq 67 (Mq 53 19)) (Std.lt hS rfl) (Std.at hS rfl rfl) (by omega) (by omega) dX12_relation_92 rfl (fun hr56 => ?_)
            refine v_iadd X dX12_relation_93 ?_
            refine v_istore X [(5, .int (iz ((200 * (Mq 53 19)) + (Mq 67 (Mq 53 19))))), (4, .int (iz (Mp 53 32))), (3, .int (iz (wrp ((Mp 56 (Mp 53 11)) - 11)))), (2, .int (iz (M 53 32))), (0, .ref (ad 53)), (1, .int (iz orf))] dX12_relation_94 (by decide) rfl ?_
            rw [← hi9]
            refine v_aload_n X 4 dX12_relation_96 rfl rfl ?_
            refine gt_X12_relSort X iwX12 (Std.lt hS rfl) (Std.k hS rfl rfl) (List.mem_cons_of_mem _ bw_8_6) dX12_relation_97 68 (Std.r hS 27 rfl) ?_
            refine v_iload X 0 dX12_relation_100 rfl ?_
            refine v_iload_n X 2 dX12_relation_102 rfl rfl ?_
            refine v_iast X (Std.lt hS rfl) (Std.at hS rfl rfl) (by omega) (by omega) ⟨by omega, by omega⟩ dX12_relation_103 ?_
            refine v_aload_n X 4 dX12_relation_104 rfl rfl ?_
            refine gt_X12_relLeft X iwX12 (Std.lt hS rfl) (Std.k hS rfl rfl) (List.mem_cons_of_mem _ bw_8_7) dX12_relation_105 69 (Std.r hS 28 rfl) ?_
            refine v_iload X 0 dX12_relation_108 rfl ?_
            refine v_iload_n X 3 dX12_relation_110 rfl rfl ?_
            refine v_iast X (Std.lt hS rfl) (Std.at hS rfl rfl) (by omega) (by omega) ⟨by omega, by omega⟩ dX12_relation_111 ?_
            refine v_aload_n X 4 dX12_relation_112 rfl rfl ?_
            refine gt_X12_relRight X iwX12 (Std.lt hS rfl) (Std.k hS rfl rfl) (List.mem_cons_of_mem _ bw_8_8) dX12_relation_113 70 (Std.r hS 29 rfl) ?_
            refine v_iload X 0 dX12_relation_116 rfl ?_
            refine v_iload X 1 dX12_relation_118 rfl ?_
            refine v_iast X (Std.lt hS rfl) (Std.at hS rfl rfl) (by omega) (by omega) ⟨by omega, by omega⟩ dX12_relation_120 ?_
            refine v_aload_n X 4 dX12_relation_121 rfl rfl ?_
            refine gt_X12_relEnd X iwX12 (Std.lt hS rfl) (Std.k hS rfl rfl) (List.mem_cons_of_mem _ bw_8_9) dX12_relation_122 71 (Std.r hS 30 rfl) ?_
            refine v_iload X 0 dX12_relation_125 rfl ?_
            refine v_aload_n X 4 dX12_relation_127 rfl rfl ?_
            refine gt_X12_codes X iwX12 (Std.lt hS rfl) (Std.k hS rfl rfl) (List.mem_cons_of_mem _ bw_19_17) dX12_relation_128 (Mq 53 32) rfl (fun hr57 => ?_)
            refine v_iast X (Std.lt hS rfl) (Std.at hS rfl rfl) (by omega) (by omega) ⟨by omega, by omega⟩ dX12_relation_131 ?_
            refine v_aload_n X 4 dX12_relation_132 rfl rfl ?_
            refine gt_X12_relOr X iwX12 (Std.lt hS rfl) (Std.k hS rfl rfl) (List.mem_cons_of_mem _ bw_8_10) dX12_relation_133 72 (Std.r hS 31 rfl) ?_
            refine v_iload X 0 dX12_relation_136 rfl ?_
            refine v_iload_n X 5 dX12_relation_138 rfl rfl ?_
            refine v_zast X (Std.lt hS rfl) (Std.at hS rfl rfl) (by omega) (by omega) ⟨by omega, by omega⟩ dX12_relation_139 ?_
            refine v_aload_n X 4 dX12_relation_140 rfl rfl ?_
            refine gt_X12_relations X iwX12 (Std.lt hS rfl) (Std.k hS rfl rfl) (List.mem_cons_of_mem _ bw_8_5) dX12_relation_141 67 (Std.r hS 26 rfl) ?_
            refine v_aload_n X 4 dX12_relation_144 rfl rfl ?_
            refine gt_X12_side X iwX12 (Std.lt hS rfl) (Std.k hS rfl rfl) (List.mem_cons_of_mem _ bw_19_16) dX12_relation_145 (Mq 53 19) rfl (fun hr58 => ?_)
            refine v_dup2 X dX12_relation_148 rfl rfl ?_
            refine v_iald X (Mq 67 (Mq 53 19)) (Std.lt hS rfl) (Std.at hS rfl rfl) (by omega) (by omega) dX12_relation_149 rfl (fun hr59 => ?_)
            refine v_iconst X dX12_relation_150 ?_
            refine v_iadd X dX12_relation_151 ?_
            refine v_iast X (Std.lt hS rfl) (Std.at hS rfl rfl) (by omega) (by omega) ⟨by omega, by omega⟩ dX12_relation_152 ?_
            refine hret _ _ _ _ _ _ _ _ _ _ _ none dX12_relation_153 ⟨rfl, rfl⟩ (by decide) (by decide) (fun hmok => ?_)
            refine ⟨rfl, rfl, rfl, rfl, rfl, rfl, Or.inr ⟨t2, by omega, ⟨w2, kdT (bt f n) n t1, cz2, cd2, k1, k2, dG, ⟨d11, d12, d13, d32⟩, dc, dw, by omega, by rw [dz], fun z hz9 => (da z (by omega)).trans (ea z hz9), ?_, dO, by omega, dn, ?_, ?_, ?_, ?_, ?_, ?_⟩, ?_⟩⟩
            · exact EOk_congr eo (fun i hi => da _ (by omega)) (fun i hi => ef2.2.2 _ (Or.inl (by omega)))
            · rw [← hix, mu_i _ _ _ (by decide), mu_i _ _ _ (by decide), mu_i _ _ _ (by decide), mu_i _ _ _ (by decide), mu_i _ _ _ (by decide), mu_s]; omega
            · rw [← hix, mu_i _ _ _ (by decide), mu_i _ _ _ (by decide), mu_i _ _ _ (by decide), mu_i _ _ _ (by decide), mu_s]; exact h32
            · rw [← hix, mu_i _ _ _ (by decide), mu_i _ _ _ (by decide), mu_i _ _ _ (by decide), mu_s]; exact e32
            · rw [← hix, mu_i _ _ _ (by decide), mu_i _ _ _ (by decide), mu_s]; exact d32
            · rw [← hix, mu_i _ _ _ (by decide), mu_s]
            · rw [← d19, mu_s, d67b]
            · refine frL_trans (frE_L hfr) ⟨fun i i1 i2 => ?_, fun z _ _ _ _ _ _ => rfl, fun z _ => ⟨rfl, rfl⟩, fun z hz9 => ?_, fun i i1 i2 z hz9 => ?_⟩
              · rw [mu_i _ _ _ (by omega), mu_i _ _ _ (by omega), mu_i _ _ _ (by omega), mu_i _ _ _ (by omega), mu_i _ _ _ (by omega), mu_i _ _ _ (by omega)]
              · rw [mu_z _ _ _ (by rw [d19]; exact hz9), mu_i _ _ _ (by decide), mu_i _ _ _ (by decide), mu_i _ _ _ (by decide), mu_i _ _ _ (by decide), mu_i _ _ _ (by decide)]
              · rcases (show i = 68 ∨ i = 69 ∨ i = 70 ∨ i = 71 ∨ i = 72 by omega) with h9 | h9 | h9 | h9 | h9 <;> subst h9
                · rw [mu_i _ _ _ (by decide), mu_i _ _ _ (by decide), mu_i _ _ _ (by decide), mu_i _ _ _ (by decide), mu_i _ _ _ (by decide), mu_z _ _ _ (by rw [hix]; exact hz9)]
                · rw [mu_i _ _ _ (by decide), mu_i _ _ _ (by decide), mu_i _ _ _ (by decide), mu_i _ _ _ (by decide), mu_z _ _ _ (by rw [hix]; exact hz9), mu_i _ _ _ (by decide)]
                · rw [mu_i _ _ _ (by decide), mu_i _ _ _ (by decide), mu_i _ _ _ (by decide), mu_z _ _ _ (by rw [hix]; exact hz9), mu_i _ _ _ (by decide), mu_i _ _ _ (by decide)]
                · rw [mu_i _ _ _ (by decide), mu_i _ _ _ (by decide), mu_z _ _ _ (by rw [hix]; exact hz9), mu_i _ _ _ (by decide), mu_i _ _ _ (by decide), mu_i _ _ _ (by decide)]
                · rw [mu_i _ _ _ (by decide), mu_z _ _ _ (by rw [hix]; exact hz9), mu_i _ _ _ (by decide), mu_i _ _ _ (by decide), mu_i _ _ _ (by decide), mu_i _ _ _ (by decide)]
      · skip
        refine v_aload_n X 2 dX12_relation_49 rfl rfl ?_
        refine v_iconst X dX12_relation_50 ?_
        refine v_callV X [.int (iz 1)] hRm (c_X12_fail _ _ _ hS 1 ⟨by decide, by decide⟩ (show 0 ≤ (Mp 53 11) ∧ (Mp 53 11) < 403 by omega)) (gV bw_21_2 bw_21_3 bw_21_4 bw_1_5 bw_21_5) rfl ddX12_fail (by decide) (Std.lt hS rfl) (Std.k hS rfl rfl) ⟨rfl, by decide⟩ (Nat.le_of_ble_eq_true rfl) dX12_relation_51 (k_eV (fun M60 e61 => ?_))
        replace e61 : M60 = (mu (mu Mp 53 13 1) 53 14 (Mp 57 (Mp 53 11))) := e61.trans (mFail_n (show ¬ 0 < (Mp 53 13) by omega))
        subst e61
        have fl62 : FlT (bt f n) n c0 (mu (mu Mp 53 13 1) 53 14 (Mp 57 (Mp 53 11))) := FlT_mk eG ec (Or.inl ⟨rfl, fun z => by rw [goW_3 (by decide) (by decide) (by decide), goU_1 (by omega) (by decide) rfl] at z; omega, fun z => by omega⟩) rfl (show (Mp 57 (Mp 53 11)) = _ from eP) (show 0 ≤ Mp 53 11 ∧ Mp 53 11 ≤ 400 by omega)
        refine v_aload_n X 2 dX12_relation_54 rfl rfl ?_
        refine v_callV X [] hRm (c_X12_next _ _ _ hS (show 0 ≤ (Mp 53 11) ∧ (Mp 53 11) ≤ 400 by omega)) (gV bw_21_6 bw_21_7 bw_21_8 bw_1_5 bw_21_9) rfl ddX12_next (by decide) (Std.lt hS rfl) (Std.k hS rfl rfl) ⟨rfl, by decide⟩ (Nat.le_of_ble_eq_true rfl) dX12_relation_55 (k_eV (fun M63 e64 => ?_))
        by_cases ht65 : (Mp 53 11) = 400
        · skip
          replace e64 : M63 = (mu (mu Mp 53 13 1) 53 14 (Mp 57 (Mp 53 11))) := e64.trans (mNext_f (show (Mp 53 11) = 400 from ht65) (show 0 < 1 by omega))
          rw [e64]
          refine v_aload_n X 2 dX12_relation_58 rfl rfl ?_
          refine gt_X12_codes X iwX12 (Std.lt hS rfl) (Std.k hS rfl rfl) (List.mem_cons_of_mem _ bw_19_17) dX12_relation_59 (Mp 53 32) rfl (fun hr66 => ?_)
          refine v_istore X [(4, .int (iz (Mp 53 32))), (3, .int (iz (wrp ((Mp 56 (Mp 53 11)) - 11)))), (2, .int (iz (M 53 32))), (0, .ref (ad 53)), (1, .int (iz orf))] dX12_relation_62 (by decide) rfl ?_
          refine v_aload_n X 3 dX12_relation_64 rfl rfl ?_
          refine v_callV X [] hRm (c_X12_expression_f _ _ _ hS (show 0 < 1 by omega)) (gV bw_21_10 bw_21_11 bw_21_12 bw_1_5 bw_21_13) rfl ddX12_expression (by decide) (Std.lt hS rfl) (Std.k hS rfl rfl) ⟨rfl, by decide⟩ (Nat.le_of_ble_eq_true rfl) dX12_relation_65 (k_eV (fun M68 e67 => ?_))
          replace e67 : M68 = (mu (mu (mu Mp 53 13 1) 53 14 (Mp 57 (Mp 53 11))) 53 36 0) := e67
          subst e67
          refine v_aload_n X 3 dX12_relation_68 rfl rfl ?_
          refine gt_X12_fault X iwX12 (Std.lt hS rfl) (Std.k hS rfl rfl) (List.mem_cons_of_mem _ bw_19_13) dX12_relation_69 1 rfl (fun hr69 => ?_)
          refine v_if_le X 76 dX12_relation_72 (by decide) ⟨by decide, by decide⟩ (fun q => absurd q (by decide)) (fun _ => ?_)
          refine hret _ _ _ _ _ _ _ _ _ _ _ none dX12_relation_75 ⟨rfl, rfl⟩ (by decide) (by decide) (fun hmok => ?_)
          obtain ⟨t9, F9, f1, f2, f3, f4, f5, f6⟩ := fl62
          exact ⟨rfl, rfl, rfl, rfl, rfl, rfl, Or.inl ⟨⟨t9, F9, f1, f2, f3, f4, f5, show 0 ≤ (Mp 53 11) ∧ (Mp 53 11) ≤ 400 by omega⟩, (frE_trans ef1 ⟨fun i i1 i2 i3 i4 => (by rw [mu_i _ _ _ i1, mu_i _ _ _ i1, mu_i _ _ _ i1]), fun z z1 z2 z3 z4 z5 z6 => (by rw [mu_z _ _ _ z6, mu_z _ _ _ z4, mu_z _ _ _ z3]), fun z hz => ⟨(by rw [mu_i _ _ _ (by decide), mu_i _ _ _ (by decide), mu_i _ _ _ (by decide)]), (by rw [mu_i _ _ _ (by decide), mu_i _ _ _ (by decide), mu_i _ _ _ (by decide)])⟩⟩ (Int.le_refl _) (Int.le_refl _) (Int.le_refl _) (Int.le_refl _))⟩⟩
        · skip
          replace e64 : M63 = (mu (mu (mu Mp 53 13 1) 53 14 (Mp 57 (Mp 53 11))) 53 11 ((Mp 53 11) + 1)) := e64.trans (mNext_go (show (Mp 53 11) ≠ 400 from ht65))
          rw [e64]
          refine v_aload_n X 2 dX12_relation_58 rfl rfl ?_
          refine gt_X12_codes X iwX12 (Std.lt hS rfl) (Std.k hS rfl rfl) (List.mem_cons_of_mem _ bw_19_17) dX12_relation_59 (Mp 53 32) rfl (fun hr70 => ?_)
          refine v_istore X [(4, .int (iz (Mp 53 32))), (3, .int (iz (wrp ((Mp 56 (Mp 53 11)) - 11)))), (2, .int (iz (M 53 32))), (0, .ref (ad 53)), (1, .int (iz orf))] dX12_relation_62 (by decide) rfl ?_
          refine v_aload_n X 3 dX12_relation_64 rfl rfl ?_
          refine v_callV X [] hRm (c_X12_expression_f _ _ _ hS (show 0 < 1 by omega)) (gV bw_21_10 bw_21_11 bw_21_12 bw_1_5 bw_21_13) rfl ddX12_expression (by decide) (Std.lt hS rfl) (Std.k hS rfl rfl) ⟨rfl, by decide⟩ (Nat.le_of_ble_eq_true rfl) dX12_relation_65 (k_eV (fun M72 e71 => ?_))
          replace e71 : M72 = (mu (mu (mu (mu Mp 53 13 1) 53 14 (Mp 57 (Mp 53 11))) 53 11 ((Mp 53 11) + 1)) 53 36 0) := e71
          subst e71
          refine v_aload_n X 3 dX12_relation_68 rfl rfl ?_
          refine gt_X12_fault X iwX12 (Std.lt hS rfl) (Std.k hS rfl rfl) (List.mem_cons_of_mem _ bw_19_13) dX12_relation_69 1 rfl (fun hr73 => ?_)
          refine v_if_le X 76 dX12_relation_72 (by decide) ⟨by decide, by decide⟩ (fun q => absurd q (by decide)) (fun _ => ?_)
          refine hret _ _ _ _ _ _ _ _ _ _ _ none dX12_relation_75 ⟨rfl, rfl⟩ (by decide) (by decide) (fun hmok => ?_)
          obtain ⟨t9, F9, f1, f2, f3, f4, f5, f6⟩ := fl62
          exact ⟨rfl, rfl, rfl, rfl, rfl, rfl, Or.inl ⟨⟨t9, F9, f1, f2, f3, f4, f5, show 0 ≤ ((Mp 53 11) + 1) ∧ ((Mp 53 11) + 1) ≤ 400 by omega⟩, (frE_trans ef1 ⟨fun i i1 i2 i3 i4 => (by rw [mu_i _ _ _ i1, mu_i _ _ _ i1, mu_i _ _ _ i1, mu_i _ _ _ i1]), fun z z1 z2 z3 z4 z5 z6 => (by rw [mu_z _ _ _ z6, mu_z _ _ _ z1, mu_z _ _ _ z4, mu_z _ _ _ z3]), fun z hz => ⟨(by rw [mu_i _ _ _ (by decide), mu_i _ _ _ (by decide), mu_i _ _ _ (by decide), mu_i _ _ _ (by decide)]), (by rw [mu_i _ _ _ (by decide), mu_i _ _ _ (by decide), mu_i _ _ _ (by decide), mu_i _ _ _ (by decide)])⟩⟩ (Int.le_refl _) (Int.le_refl _) (Int.le_refl _) (Int.le_refl _))⟩⟩

