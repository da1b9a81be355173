theorem rep_tail {f : Int → Int} : ∀ {w : List Int}, rep f w → rep f w.tail
  | [], h => h
  | _ :: _, h => h.2

-- expression
set_option maxHeartbeats 4000000 in
set_option maxRecDepth 100000 in
theorem c_X12_expression (l : Launch) (D : va_G) (cy : Nat → ClassId) {N : Nat} {sh : MS} {ad : Nat → Nat} {M L : MI} {R : MR} (hS : Std N sh R) (f : Int → Int) (n : Int) (c0 : CSt) (sd : Int) (wt0 : List Int) (cz0 : Int) (cd0 : Int → Int) (rr : CRt) (mz0 : Int) (t : Nat) (H : EH wt0 cz0 c0) (hT : tokOk (bt f n) n M) (hG : GT (bt f n) n c0 t) (hc : cm (bt f n) n c0 t = (2, sd, 0, wt0, cz0, cd0, rr)) (h11 : M 53 11 = (t : Int)) (h12 : M 53 12 = 0) (h13 : M 53 13 = 0) (h32 : M 53 32 = mz0) (hz : 0 ≤ mz0 ∧ mz0 + 401 - cz0 ≤ 1000) : Ctr l D cy yX12_expression wsX12_expression ({ frames := 2, cells := 0, slots := 0, locals := 44 } : Room) N sh ad M L R [.ref (ad 53)] (eV N sh ad L R (fun M' => (FlT (bt f n) n c0 M' ∨ ∃ t1 : Nat, t < t1 ∧ EE (bt f n) n c0 sd wt0 cz0 cd0 rr mz0 t1 M') ∧ frE mz0 (mz0 + 401 - cz0) M M')) := by
  refine Ctr.ofV (by decide) rfl (Nat.le_of_ble_eq_true rfl) ?_
  intro K hKl hKd hRm hnm X hret
  have X : VX K cX12_expression 5 wsX12_expression RX12 := X
  show V K 5 0 0 N sh ad M L R [(0, .ref (ad 53))] [] 0
  have hH2 := H.2.1
  have hH3 := H.2.2.1
  have hG1 := hG.1
  refine v_aload_n X 0 dX12_expression_0 rfl rfl ?_
  refine v_iconst X dX12_expression_1 ?_
  refine pt_X12_waiting X iwX12 (Std.lt hS rfl) (Std.k hS rfl rfl) (List.mem_cons_of_mem _ bw_21_14) ⟨by decide, by decide⟩ dX12_expression_2 ?_
  refine v_aload_n X 0 dX12_expression_5 rfl rfl ?_
  refine gt_X12_open X iwX12 (Std.lt hS rfl) (Std.k hS rfl rfl) (List.mem_cons_of_mem _ bw_19_12) dX12_expression_6 (M 53 12) rfl (fun hr1 => ?_)
  refine v_istore_n X [(1, .int (iz (M 53 12))), (0, .ref (ad 53))] dX12_expression_9 rfl (by decide) rfl ?_
  refine v_iconst X dX12_expression_10 ?_
  refine v_istore_n X [(2, .int (iz 1)), (1, .int (iz (M 53 12))), (0, .ref (ad 53))] dX12_expression_11 rfl (by decide) rfl ?_
  have hl2 : ∀ (n4 : Nat) (Mx : MI) (t2 : Nat) (w2 : List Int) (k2 : Nat) (cd2 : Int → Int), (ES (bt f n) n c0 sd wt0 cz0 cd0 rr mz0 2 t2 w2 k2 cd2 Mx) → (t ≤ t2) → (frE mz0 (mz0 + 401 - cz0) M Mx) → 401 - t2 < n4 → V K 5 0 0 N sh ad Mx L R [(0, .ref (ad 53)), (1, .int (iz (M 53 12))), (2, .int (iz 1))] [] 12 := by
    intro n4
    induction n4 with
    | zero => intro Mx t2 w2 k2 cd2 aE at0 af hn5; exact absurd hn5 (Nat.not_lt_zero _)
    | succ n4 ih3 =>
      intro Mx t2 w2 k2 cd2 aE at0 af hn5
      obtain ⟨a11, a12, a13, a32, a36⟩ := aE.2.1
      have al := ES_len aE H
      have att := aE.1.1
      have ak := GT_tok aE.1 (frE_tok af hT)
      rw [← a11] at ak
      obtain ⟨aC, aP, aV⟩ := ak
      have ao := aE.2.2.2.2.1
      have aw := op_len w2
      have ag := cOf_ge (m := Mx 56 (Mx 53 11))
      have am := cOf_le (m := Mx 56 (Mx 53 11))
      rw [aC] at ag am
      refine v_iload_n X 2 dX12_expression_12 rfl rfl ?_
      refine v_if_eq X 360 dX12_expression_13 (by decide) ⟨by decide, by decide⟩ (fun q => absurd q (by decide)) (fun _ => ?_)
      refine v_aload_n X 0 dX12_expression_16 rfl rfl ?_
      refine gt_X12_fault X iwX12 (Std.lt hS rfl) (Std.k hS rfl rfl) (List.mem_cons_of_mem _ bw_19_13) dX12_expression_17 (Mx 53 13) rfl (fun hr6 => ?_)
      refine v_if_ne X 360 dX12_expression_20 (by decide) ⟨by omega, by omega⟩ (fun q => absurd q (by omega)) (fun u7 => ?_)
      refine v_aload_n X 0 dX12_expression_23 rfl rfl ?_
      refine v_bipush X dX12_expression_24 (by decide) ?_
      refine v_callV X [.int (iz 6)] hRm (c_X12_is _ _ _ hS 6 ⟨by decide, by decide⟩ (show 0 ≤ (Mx 53 11) ∧ (Mx 53 11) < 403 by omega)) (gV bw_20_18 bw_20_19 bw_20_20 bw_1_5 bw_20_21) rfl ddX12_is (by decide) (Std.lt hS rfl) (Std.k hS rfl rfl) ⟨rfl, by decide⟩ (Nat.le_of_ble_eq_true rfl) dX12_expression_26 (k_pB (fun b8 => ?_) (fun b8 => ?_))
      · skip
        replace b8 : Mx 56 (Mx 53 11) = 6 := b8.2
        refine v_if_eq X 92 dX12_expression_29 (by decide) ⟨by decide, by decide⟩ (fun q => absurd q (by decide)) (fun _ => ?_)
        refine v_aload_n X 0 dX12_expression_32 rfl rfl ?_
        refine gt_X12_open X iwX12 (Std.lt hS rfl) (Std.k hS rfl rfl) (List.mem_cons_of_mem _ bw_19_12) dX12_expression_33 (Mx 53 12) rfl (fun hr9 => ?_)
        refine v_bipush X dX12_expression_36 (by decide) ?_
        refine v_icmp_ne X 46 dX12_expression_38 (by decide) ⟨by omega, by omega⟩ ⟨by decide, by decide⟩ (fun u10 => ?_) (fun u10 => ?_)
        · skip
          refine v_aload_n X 0 dX12_expression_46 rfl rfl ?_
          refine gt_X12_fault X iwX12 (Std.lt hS rfl) (Std.k hS rfl rfl) (List.mem_cons_of_mem _ bw_19_13) dX12_expression_47 (Mx 53 13) rfl (fun hr11 => ?_)
          refine v_if_le X 54 dX12_expression_50 (by decide) ⟨by omega, by omega⟩ (fun u12 => ?_) (fun q => absurd (by omega) q)
          refine v_aload_n X 0 dX12_expression_54 rfl rfl ?_
          refine v_dup X dX12_expression_55 rfl ?_
          refine gt_X12_open X iwX12 (Std.lt hS rfl) (Std.k hS rfl rfl) (List.mem_cons_of_mem _ bw_19_12) dX12_expression_56 (Mx 53 12) rfl (fun hr13 => ?_)
          refine v_iconst X dX12_expression_59 ?_
          refine v_iadd X dX12_expression_60 ?_
          refine pt_X12_open X iwX12 (Std.lt hS rfl) (Std.k hS rfl rfl) (List.mem_cons_of_mem _ bw_19_12) ⟨by omega, by omega⟩ dX12_expression_61 ?_
          refine v_aload_n X 0 dX12_expression_64 rfl rfl ?_
          refine v_callV X [] hRm (c_X12_next _ _ _ hS (show 0 ≤ (Mx 53 11) ∧ (Mx 53 11) ≤ 400 by omega)) (gV bw_21_6 bw_21_7 bw_21_8 bw_1_5 bw_21_9) rfl ddX12_next (by decide) (Std.lt hS rfl) (Std.k hS rfl rfl) ⟨rfl, by decide⟩ (Nat.le_of_ble_eq_true rfl) dX12_expression_65 (k_eV (fun M14 e15 => ?_))
          by_cases ht16 : (Mx 53 11) = 400
          · skip
            replace e15 : M14 = (mu (mu (mu Mx 53 12 ((Mx 53 12) + 1)) 53 13 2) 53 14 (Mx 57 (Mx 53 11))) := e15.trans (mNext_full (show (Mx 53 11) = 400 from ht16) (show ¬ 0 < (Mx 53 13) by omega))
            subst e15
            have fl17 : FlT (bt f n) n c0 (mu (mu (mu Mx 53 12 ((Mx 53 12) + 1)) 53 13 2) 53 14 (Mx 57 (Mx 53 11))) := ES_fl aE (Or.inr ⟨rfl, Or.inr (Or.inr (Or.inl ⟨rfl, by omega⟩)), Or.inl (by omega)⟩) rfl (show (Mx 57 (Mx 53 11)) = _ by exact aP) (show 0 ≤ (Mx 53 11) ∧ (Mx 53 11) ≤ 400 by omega)
            refine v_aload_n X 0 dX12_expression_68 rfl rfl ?_
            refine gt_X12_waits X iwX12 (Std.lt hS rfl) (Std.k hS rfl rfl) (List.mem_cons_of_mem _ bw_8_13) dX12_expression_69 75 (Std.r hS 35 rfl) ?_
            refine v_aload_n X 0 dX12_expression_72 rfl rfl ?_
            refine gt_X12_waiting X iwX12 (Std.lt hS rfl) (Std.k hS rfl rfl) (List.mem_cons_of_mem _ bw_21_14) dX12_expression_73 (Mx 53 36) rfl (fun hr18 => ?_)
            refine v_bipush X dX12_expression_76 (by decide) ?_
            refine v_iast X (Std.lt hS rfl) (Std.at hS rfl rfl) (by omega) (by omega) ⟨by decide, by decide⟩ dX12_expression_78 ?_
            refine v_aload_n X 0 dX12_expression_79 rfl rfl ?_
            refine v_dup X dX12_expression_80 rfl ?_
            refine gt_X12_waiting X iwX12 (Std.lt hS rfl) (Std.k hS rfl rfl) (List.mem_cons_of_mem _ bw_21_14) dX12_expression_81 (Mx 53 36) rfl (fun hr19 => ?_)
            refine v_iconst X dX12_expression_84 ?_
            refine v_iadd X dX12_expression_85 ?_
            refine pt_X12_waiting X iwX12 (Std.lt hS rfl) (Std.k hS rfl rfl) (List.mem_cons_of_mem _ bw_21_14) ⟨by omega, by omega⟩ dX12_expression_86 ?_
            refine v_goto X 12 dX12_expression_89 (by decide) ?_
            refine v_iload_n X 2 dX12_expression_12 rfl rfl ?_
            refine v_if_eq X 360 dX12_expression_13 (by decide) ⟨by decide, by decide⟩ (fun q => absurd q (by decide)) (fun _ => ?_)
            refine v_aload_n X 0 dX12_expression_16 rfl rfl ?_
            refine gt_X12_fault X iwX12 (Std.lt hS rfl) (Std.k hS rfl rfl) (List.mem_cons_of_mem _ bw_19_13) dX12_expression_17 2 rfl (fun hr20 => ?_)
            refine v_if_ne X 360 dX12_expression_20 (by decide) ⟨by decide, by decide⟩ (fun _ => ?_) (fun q => absurd (by decide) q)
            refine hret _ _ _ _ _ _ _ _ _ _ _ none dX12_expression_360 ⟨rfl, rfl⟩ (by decide) (by decide) (fun hmok => ?_)
            obtain ⟨t9, F9, f1, f2, f3, f4, f5, f6⟩ := fl17
            exact ⟨rfl, rfl, rfl, rfl, rfl, rfl, Or.inl ⟨t9, F9, f1, f2, f3, f4, f5, f6⟩, (frE_trans af ⟨fun i i1 i2 i3 i4 => (by rw [mu_i _ _ _ i1, mu_i _ _ _ i4, mu_i _ _ _ i1, mu_i _ _ _ i1, mu_i _ _ _ i1]), fun z z1 z2 z3 z4 z5 z6 => (by rw [mu_z _ _ _ z6, mu_i _ _ _ (by decide), mu_z _ _ _ z4, mu_z _ _ _ z3, mu_z _ _ _ z2]), fun z hz => ⟨(by rw [mu_i _ _ _ (by decide), mu_i _ _ _ (by decide), mu_i _ _ _ (by decide), mu_i _ _ _ (by decide), mu_i _ _ _ (by decide)]), (by rw [mu_i _ _ _ (by decide), mu_i _ _ _ (by decide), mu_i _ _ _ (by decide), mu_i _ _ _ (by decide), mu_i _ _ _ (by decide)])⟩⟩ (Int.le_refl _) (Int.le_refl _) (Int.le_refl _) (Int.le_refl _))⟩
          · skip
            replace e15 : M14 = (mu (mu Mx 53 12 ((Mx 53 12) + 1)) 53 11 ((Mx 53 11) + 1)) := e15.trans (mNext_go (show (Mx 53 11) ≠ 400 from ht16))
            subst e15
            refine v_aload_n X 0 dX12_expression_68 rfl rfl ?_
            refine gt_X12_waits X iwX12 (Std.lt hS rfl) (Std.k hS rfl rfl) (List.mem_cons_of_mem _ bw_8_13) dX12_expression_69 75 (Std.r hS 35 rfl) ?_
            refine v_aload_n X 0 dX12_expression_72 rfl rfl ?_
            refine gt_X12_waiting X iwX12 (Std.lt hS rfl) (Std.k hS rfl rfl) (List.mem_cons_of_mem _ bw_21_14) dX12_expression_73 (Mx 53 36) rfl (fun hr21 => ?_)
            refine v_bipush X dX12_expression_76 (by decide) ?_
            refine v_iast X (Std.lt hS rfl) (Std.at hS rfl rfl) (by omega) (by omega) ⟨by decide, by decide⟩ dX12_expression_78 ?_
            refine v_aload_n X 0 dX12_expression_79 rfl rfl ?_
            refine v_dup X dX12_expression_80 rfl ?_
            refine gt_X12_waiting X iwX12 (Std.lt hS rfl) (Std.k hS rfl rfl) (List.mem_cons_of_mem _ bw_21_14) dX12_expression_81 (Mx 53 36) rfl (fun hr22 => ?_)
            refine v_iconst X dX12_expression_84 ?_
            refine v_iadd X dX12_expression_85 ?_
            refine pt_X12_waiting X iwX12 (Std.lt hS rfl) (Std.k hS rfl rfl) (List.mem_cons_of_mem _ bw_21_14) ⟨by omega, by omega⟩ dX12_expression_86 ?_
            refine v_goto X 12 dX12_expression_89 (by decide) ?_
            exact ih3 (mu (mu (mu (mu Mx 53 12 ((Mx 53 12) + 1)) 53 11 ((Mx 53 11) + 1)) 75 (Mx 53 36) 6) 53 36 ((Mx 53 36) + 1)) (t2 + 1) (6 :: w2) k2 cd2 (ES_open aE H (by omega) (by omega) (by omega) (show Mx 53 11 + 1 = _ by omega) (show Mx 53 12 + 1 = _ by omega) (show Mx 53 13 = 0 by omega) rfl (show Mx 53 36 + 1 = _ by omega) (by rw [← a36]; rfl) rfl rfl) (by omega) ((frE_trans af ⟨fun i i1 i2 i3 i4 => (by rw [mu_i _ _ _ i1, mu_i _ _ _ i4, mu_i _ _ _ i1, mu_i _ _ _ i1]), fun z z1 z2 z3 z4 z5 z6 => (by rw [mu_z _ _ _ z6, mu_i _ _ _ (by decide), mu_z _ _ _ z1, mu_z _ _ _ z2]), fun z hz => ⟨(by rw [mu_i _ _ _ (by decide), mu_i _ _ _ (by decide), mu_i _ _ _ (by decide), mu_i _ _ _ (by decide)]), (by rw [mu_i _ _ _ (by decide), mu_i _ _ _ (by decide), mu_i _ _ _ (by decide), mu_i _ _ _ (by decide)])⟩⟩ (Int.le_refl _) (Int.le_refl _) (Int.le_refl _) (Int.le_refl _))) (by omega)
        · skip
          refine v_aload_n X 0 dX12_expression_41 rfl rfl ?_
          refine v_iconst X dX12_expression_42 ?_
          refine v_callV X [.int (iz 2)] hRm (c_X12_fail _ _ _ hS 2 ⟨by decide, by decide⟩ (show 0 ≤ (Mx 53 11) ∧ (Mx 53 11) < 403 by omega)) (gV bw_21_2 bw_21_3 bw_21_4 bw_1_5 bw_21_5) rfl ddX12_fail (by decide) (Std.lt hS rfl) (Std.k hS rfl rfl) ⟨rfl, by decide⟩ (Nat.le_of_ble_eq_true rfl) dX12_expression_43 (k_eV (fun M23 e24 => ?_))
          replace e24 : M23 = (mu (mu Mx 53 13 2) 53 14 (Mx 57 (Mx 53 11))) := e24.trans (mFail_n (show ¬ 0 < (Mx 53 13) by omega))
          subst e24
          have fl25 : FlT (bt f n) n c0 (mu (mu Mx 53 13 2) 53 14 (Mx 57 (Mx 53 11))) := ES_fl aE (Or.inr ⟨rfl, Or.inr (Or.inr (Or.inl ⟨rfl, by omega⟩)), Or.inr ⟨by omega, by omega⟩⟩) rfl (show (Mx 57 (Mx 53 11)) = _ by exact aP) (show 0 ≤ (Mx 53 11) ∧ (Mx 53 11) ≤ 400 by omega)
          refine v_aload_n X 0 dX12_expression_46 rfl rfl ?_
          refine gt_X12_fault X iwX12 (Std.lt hS rfl) (Std.k hS rfl rfl) (List.mem_cons_of_mem _ bw_19_13) dX12_expression_47 2 rfl (fun hr26 => ?_)
          refine v_if_le X 54 dX12_expression_50 (by decide) ⟨by decide, by decide⟩ (fun q => absurd q (by decide)) (fun _ => ?_)
          refine hret _ _ _ _ _ _ _ _ _ _ _ none dX12_expression_53 ⟨rfl, rfl⟩ (by decide) (by decide) (fun hmok => ?_)
          exact ⟨rfl, rfl, rfl, rfl, rfl, rfl, Or.inl fl25, (frE_trans af ⟨fun i i1 i2 i3 i4 => (by rw [mu_i _ _ _ i1, mu_i _ _ _ i1]), fun z z1 z2 z3 z4 z5 z6 => (by rw [mu_z _ _ _ z4, mu_z _ _ _ z3]), fun z hz => ⟨(by rw [mu_i _ _ _ (by decide), mu_i _ _ _ (by decide)]), (by rw [mu_i _ _ _ (by decide), mu_i _ _ _ (by decide)])⟩⟩ (Int.le_refl _) (Int.le_refl _) (Int.le_refl _) (Int.le_refl _))⟩
      · skip
        replace b8 : ¬ Mx 56 (Mx 53 11) = 6 := fun z => b8 ⟨a13, z⟩
        refine v_if_eq X 92 dX12_expression_29 (by decide) ⟨by decide, by decide⟩ (fun _ => ?_) (fun q => absurd (by decide) q)
        refine v_aload_n X 0 dX12_expression_92 rfl rfl ?_
        refine gt_X12_fault X iwX12 (Std.lt hS rfl) (Std.k hS rfl rfl) (List.mem_cons_of_mem _ bw_19_13) dX12_expression_93 (Mx 53 13) rfl (fun hr27 => ?_)
        refine v_if_ne X 131 dX12_expression_96 (by decide) ⟨by omega, by omega⟩ (fun q => absurd q (by omega)) (fun u28 => ?_)
        refine v_aload_n X 0 dX12_expression_99 rfl rfl ?_
        refine gt_X12_tKind X iwX12 (Std.lt hS rfl) (Std.k hS rfl rfl) (List.mem_cons_of_mem _ bw_7_16) dX12_expression_100 56 (Std.r hS 5 rfl) ?_
        refine v_aload_n X 0 dX12_expression_103 rfl rfl ?_
        refine gt_X12_t X iwX12 (Std.lt hS rfl) (Std.k hS rfl rfl) (List.mem_cons_of_mem _ bw_19_11) dX12_expression_104 (Mx 53 11) rfl (fun hr29 => ?_)
        refine v_iald X (Mx 56 (Mx 53 11)) (Std.lt hS rfl) (Std.at hS rfl rfl) (by omega) (by omega) dX12_expression_107 rfl (fun hr30 => ?_)
        refine v_bipush X dX12_expression_108 (by decide) ?_
        refine v_icmp_lt X 131 dX12_expression_110 (by decide) ⟨by omega, by omega⟩ ⟨by decide, by decide⟩ (fun u31 => ?_) (fun u31 => ?_)
        · skip
          refine v_iconst X dX12_expression_131 ?_
          refine v_istore_n X [(3, .int (iz 0)), (0, .ref (ad 53)), (1, .int (iz (M 53 12))), (2, .int (iz 1))] dX12_expression_132 rfl (by decide) rfl ?_
          refine v_aload_n X 1 dX12_expression_133 rfl rfl ?_
          refine v_iconst X dX12_expression_134 ?_
          refine v_callV X [.int (iz 2)] hRm (c_X12_is _ _ _ hS 2 ⟨by decide, by decide⟩ (show 0 ≤ (Mx 53 11) ∧ (Mx 53 11) < 403 by omega)) (gV bw_20_18 bw_20_19 bw_20_20 bw_1_5 bw_20_21) rfl ddX12_is (by decide) (Std.lt hS rfl) (Std.k hS rfl rfl) ⟨rfl, by decide⟩ (Nat.le_of_ble_eq_true rfl) dX12_expression_135 (k_pB (fun b32 => ?_) (fun b32 => ?_))
          · skip
            replace b32 : Mx 56 (Mx 53 11) = 2 := b32.2
            refine v_if_ne X 150 dX12_expression_138 (by decide) ⟨by decide, by decide⟩ (fun _ => ?_) (fun q => absurd (by decide) q)
            refine v_aload_n X 1 dX12_expression_150 rfl rfl ?_
            refine gt_X12_fault X iwX12 (Std.lt hS rfl) (Std.k hS rfl rfl) (List.mem_cons_of_mem _ bw_19_13) dX12_expression_151 (Mx 53 13) rfl (fun hr33 => ?_)
            refine v_if_le X 158 dX12_expression_154 (by decide) ⟨by omega, by omega⟩ (fun u34 => ?_) (fun q => absurd (by omega) q)
            refine v_iload_n X 0 dX12_expression_158 rfl rfl ?_
            refine v_if_eq X 182 dX12_expression_159 (by decide) ⟨by decide, by decide⟩ (fun _ => ?_) (fun q => absurd (by decide) q)
            refine v_aload_n X 1 dX12_expression_182 rfl rfl ?_
            refine v_iconst X dX12_expression_183 ?_
            refine v_aload_n X 1 dX12_expression_184 rfl rfl ?_
            refine gt_X12_tValue X iwX12 (Std.lt hS rfl) (Std.k hS rfl rfl) (List.mem_cons_of_mem _ bw_7_18) dX12_expression_185 58 (Std.r hS 7 rfl) ?_
            refine v_aload_n X 1 dX12_expression_188 rfl rfl ?_
            refine gt_X12_t X iwX12 (Std.lt hS rfl) (Std.k hS rfl rfl) (List.mem_cons_of_mem _ bw_19_11) dX12_expression_189 (Mx 53 11) rfl (fun hr35 => ?_)
            refine v_iald X (Mx 58 (Mx 53 11)) (Std.lt hS rfl) (Std.at hS rfl rfl) (by omega) (by omega) dX12_expression_192 rfl (fun hr36 => ?_)
            refine v_callV X [.int (iz 0), .int (iz (Mx 58 (Mx 53 11)))] hRm (c_X12_emit _ _ _ hS 0 (Mx 58 (Mx 53 11)) ⟨by decide, by decide⟩ ⟨by omega, by omega⟩ (show 0 ≤ (Mx 53 32) ∧ (Mx 53 32) < 1000 by omega)) (gV bw_21_15 bw_21_16 bw_21_17 bw_1_5 bw_21_18) rfl ddX12_emit (by decide) (Std.lt hS rfl) (Std.k hS rfl rfl) ⟨rfl, by decide⟩ (Nat.le_of_ble_eq_true rfl) dX12_expression_193 (k_eV (fun M38 e37 => ?_))
            replace e37 : M38 = (mu (mu (mu Mx 73 (Mx 53 32) 0) 74 (Mx 53 32) (Mx 58 (Mx 53 11))) 53 32 ((Mx 53 32) + 1)) := e37
            subst e37
            refine v_aload_n X 1 dX12_expression_196 rfl rfl ?_
            refine v_callV X [] hRm (c_X12_next _ _ _ hS (show 0 ≤ (Mx 53 11) ∧ (Mx 53 11) ≤ 400 by omega)) (gV bw_21_6 bw_21_7 bw_21_8 bw_1_5 bw_21_9) rfl ddX12_next (by decide) (Std.lt hS rfl) (Std.k hS rfl rfl) ⟨rfl, by decide⟩ (Nat.le_of_ble_eq_true rfl) dX12_expression_197 (k_eV (fun M39 e40 => ?_))
            by_cases ht41 : (Mx 53 11) = 400
            · skip
              replace e40 : M39 = (mu (mu (mu (mu (mu Mx 73 (Mx 53 32) 0) 74 (Mx 53 32) (Mx 58 (Mx 53 11))) 53 32 ((Mx 53 32) + 1)) 53 13 2) 53 14 (Mx 57 (Mx 53 11))) := e40.trans (mNext_full (show (Mx 53 11) = 400 from ht41) (show ¬ 0 < (Mx 53 13) by omega))
              subst e40
              have fl42 : FlT (bt f n) n c0 (mu (mu (mu (mu (mu Mx 73 (Mx 53 32) 0) 74 (Mx 53 32) (Mx 58 (Mx 53 11))) 53 32 ((Mx 53 32) + 1)) 53 13 2) 53 14 (Mx 57 (Mx 53 11))) := ES_fl aE (Or.inr ⟨rfl, Or.inr (Or.inr (Or.inl ⟨rfl, by omega⟩)), Or.inl (by omega)⟩) rfl (show (Mx 57 (Mx 53 11)) = _ by exact aP) (show 0 ≤ (Mx 53 11) ∧ (Mx 53 11) ≤ 400 by omega)
              refine v_aload_n X 1 dX12_expression_200 rfl rfl ?_
              refine v_bipush X dX12_expression_201 (by decide) ?_
              refine v_callV X [.int (iz 7)] hRm (c_X12_is _ _ _ hS 7 ⟨by decide, by decide⟩ (show 0 ≤ (Mx 53 11) ∧ (Mx 53 11) < 403 by omega)) (gV bw_20_18 bw_20_19 bw_20_20 bw_1_5 bw_20_21) rfl ddX12_is (by decide) (Std.lt hS rfl) (Std.k hS rfl rfl) ⟨rfl, by decide⟩ (Nat.le_of_ble_eq_true rfl) dX12_expression_203 (k_pB (fun q => absurd (show 2 = (0 : Int) from q.1) (by omega)) (fun _ => ?_))
              refine v_if_eq X 249 dX12_expression_206 (by decide) ⟨by decide, by decide⟩ (fun _ => ?_) (fun q => absurd (by decide) q)
              refine v_aload_n X 1 dX12_expression_249 rfl rfl ?_
              refine v_bipush X dX12_expression_250 (by decide) ?_
              refine v_callV X [.int (iz 8)] hRm (c_X12_is _ _ _ hS 8 ⟨by decide, by decide⟩ (show 0 ≤ (Mx 53 11) ∧ (Mx 53 11) < 403 by omega)) (gV bw_20_18 bw_20_19 bw_20_20 bw_1_5 bw_20_21) rfl ddX12_is (by decide) (Std.lt hS rfl) (Std.k hS rfl rfl) ⟨rfl, by decide⟩ (Nat.le_of_ble_eq_true rfl) dX12_expression_252 (k_pB (fun q => absurd (show 2 = (0 : Int) from q.1) (by omega)) (fun _ => ?_))
              refine v_if_ne X 276 dX12_expression_255 (by decide) ⟨by decide, by decide⟩ (fun q => absurd q (by decide)) (fun _ => ?_)
              refine v_aload_n X 1 dX12_expression_258 rfl rfl ?_
              refine v_bipush X dX12_expression_259 (by decide) ?_
              refine v_callV X [.int (iz 9)] hRm (c_X12_is _ _ _ hS 9 ⟨by decide, by decide⟩ (show 0 ≤ (Mx 53 11) ∧ (Mx 53 11) < 403 by omega)) (gV bw_20_18 bw_20_19 bw_20_20 bw_1_5 bw_20_21) rfl ddX12_is (by decide) (Std.lt hS rfl) (Std.k hS rfl rfl) ⟨rfl, by decide⟩ (Nat.le_of_ble_eq_true rfl) dX12_expression_261 (k_pB (fun q => absurd (show 2 = (0 : Int) from q.1) (by omega)) (fun _ => ?_))
              refine v_if_ne X 276 dX12_expression_264 (by decide) ⟨by decide, by decide⟩ (fun q => absurd q (by decide)) (fun _ => ?_)
              refine v_aload_n X 1 dX12_expression_267 rfl rfl ?_
              refine v_bipush X dX12_expression_268 (by decide) ?_
              refine v_callV X [.int (iz 10)] hRm (c_X12_is _ _ _ hS 10 ⟨by decide, by decide⟩ (show 0 ≤ (Mx 53 11) ∧ (Mx 53 11) < 403 by omega)) (gV bw_20_18 bw_20_19 bw_20_20 bw_1_5 bw_20_21) rfl ddX12_is (by decide) (Std.lt hS rfl) (Std.k hS rfl rfl) ⟨rfl, by decide⟩ (Nat.le_of_ble_eq_true rfl) dX12_expression_270 (k_pB (fun q => absurd (show 2 = (0 : Int) from q.1) (by omega)) (fun _ => ?_))
              refine v_if_eq X 280 dX12_expression_273 (by decide) ⟨by decide, by decide⟩ (fun _ => ?_) (fun q => absurd (by decide) q)
              refine v_iconst X dX12_expression_280 ?_
              refine v_istore_n X [(2, .int (iz 0)), (3, .int (iz 0)), (0, .ref (ad 53)), (1, .int (iz (M 53 12)))] dX12_expression_281 rfl (by decide) rfl ?_
              refine v_iload_n X 0 dX12_expression_282 rfl rfl ?_
              refine v_if_ne X 305 dX12_expression_283 (by decide) ⟨by decide, by decide⟩ (fun q => absurd q (by decide)) (fun _ => ?_)
              refine v_aload_n X 2 dX12_expression_286 rfl rfl ?_
              refine gt_X12_open X iwX12 (Std.lt hS rfl) (Std.k hS rfl rfl) (List.mem_cons_of_mem _ bw_19_12) dX12_expression_287 (Mx 53 12) rfl (fun hr43 => ?_)
              refine v_iload_n X 3 dX12_expression_290 rfl rfl ?_
              refine v_icmp_le X 299 dX12_expression_291 (by decide) ⟨by omega, by omega⟩ ⟨by omega, by omega⟩ (fun u44 => ?_) (fun u44 => ?_)
              · skip
                refine v_aload_n X 2 dX12_expression_299 rfl rfl ?_
                refine v_iconst X dX12_expression_300 ?_
                refine v_callV X [.int (iz 0)] hRm (c_X12_comesOut _ _ _ hS 0 (by decide) w2 (show rep (Mx 75) w2 from aE.2.2.1) (show (Mx 53 36) = (w2.length : Int) by omega) (by omega) (show 0 ≤ ((Mx 53 32) + 1) ∧ ((Mx 53 32) + 1) + (w2.length : Int) ≤ 1000 by omega)) (gV bw_21_19 bw_21_20 bw_21_21 bw_1_5 bw_21_22) rfl ddX12_comesOut (by decide) (Std.lt hS rfl) (Std.k hS rfl rfl) ⟨rfl, by decide⟩ (Nat.le_of_ble_eq_true rfl) dX12_expression_301 (k_eV (fun M45 e46 => ?_))
                have e46L := mp_len (tm := 0) (w := w2) (z := ((Mx 53 32) + 1))
                have e4632 : M45 53 32 = mpZ 0 w2 ((Mx 53 32) + 1) := e46.2.1
                have e4611 := e46.2.2.2.2.2 11 (by decide) (by decide)
                have e4612 := e46.2.2.2.2.2 12 (by decide) (by decide)
                have e4613 := e46.2.2.2.2.2 13 (by decide) (by decide)
                have e4614 := e46.2.2.2.2.2 14 (by decide) (by decide)
                have e4675 := e46.2.2.2.2.1 75 (by decide) (by decide) (by decide)
                have e4636 := e46.1
                replace e4611 : M45 53 11 = (Mx 53 11) := e4611
                replace e4612 : M45 53 12 = (Mx 53 12) := e4612
                replace e4613 : M45 53 13 = 2 := e4613
                replace e4614 : M45 53 14 = (Mx 57 (Mx 53 11)) := e4614
                replace e4675 : M45 75 = Mx 75 := e4675
                refine hret _ _ _ _ _ _ _ _ _ _ _ none dX12_expression_304 ⟨rfl, rfl⟩ (by decide) (by decide) (fun hmok => ?_)
                obtain ⟨t9, F9, f1, f2, f3, f4, f5, f6⟩ := fl42
                exact ⟨rfl, rfl, rfl, rfl, rfl, rfl, Or.inl ⟨t9, F9, f1, f2, e4613.trans f3, f4, e4614.trans f5, by omega⟩, (frE_trans (frE_trans af ⟨fun i i1 i2 i3 i4 => (by rw [mu_i _ _ _ i1, mu_i _ _ _ i1, mu_i _ _ _ i1, mu_i _ _ _ i3, mu_i _ _ _ i2]), fun z z1 z2 z3 z4 z5 z6 => (by rw [mu_z _ _ _ z4, mu_z _ _ _ z3, mu_z _ _ _ z5, mu_i _ _ _ (by decide), mu_i _ _ _ (by decide)]), fun z hz => ⟨(by rw [mu_i _ _ _ (by decide), mu_i _ _ _ (by decide), mu_i _ _ _ (by decide), mu_i _ _ _ (by decide), mu_z _ _ _ (by omega)]), (by rw [mu_i _ _ _ (by decide), mu_i _ _ _ (by decide), mu_i _ _ _ (by decide), mu_z _ _ _ (by omega), mu_i _ _ _ (by decide)])⟩⟩ (Int.le_refl _) (Int.le_refl _) (Int.le_refl _) (Int.le_refl _)) (coP_fr (lo := mz0) (hi := (mz0 + 401 - cz0)) e46 (show mz0 ≤ ((Mx 53 32) + 1) by omega) (show ((Mx 53 32) + 1) + (w2.length : Int) ≤ (mz0 + 401 - cz0) by omega)) (Int.le_refl _) (Int.le_refl _) (Int.le_refl _) (Int.le_refl _))⟩
              · skip
                refine v_aload_n X 2 dX12_expression_294 rfl rfl ?_
                refine v_iconst X dX12_expression_295 ?_
                refine v_callV X [.int (iz 1)] hRm (c_X12_fail _ _ _ hS 1 ⟨by decide, by decide⟩ (show 0 ≤ (Mx 53 11) ∧ (Mx 53 11) < 403 by omega)) (gV bw_21_2 bw_21_3 bw_21_4 bw_1_5 bw_21_5) rfl ddX12_fail (by decide) (Std.lt hS rfl) (Std.k hS rfl rfl) ⟨rfl, by decide⟩ (Nat.le_of_ble_eq_true rfl) dX12_expression_296 (k_eV (fun M47 e48 => ?_))
                replace e48 : M47 = (mu (mu (mu (mu (mu Mx 73 (Mx 53 32) 0) 74 (Mx 53 32) (Mx 58 (Mx 53 11))) 53 32 ((Mx 53 32) + 1)) 53 13 2) 53 14 (Mx 57 (Mx 53 11))) := e48.trans (mFail_y (show 0 < 2 by omega))
                subst e48
                refine v_aload_n X 2 dX12_expression_299 rfl rfl ?_
                refine v_iconst X dX12_expression_300 ?_
                refine v_callV X [.int (iz 0)] hRm (c_X12_comesOut _ _ _ hS 0 (by decide) w2 (show rep (Mx 75) w2 from aE.2.2.1) (show (Mx 53 36) = (w2.length : Int) by omega) (by omega) (show 0 ≤ ((Mx 53 32) + 1) ∧ ((Mx 53 32) + 1) + (w2.length : Int) ≤ 1000 by omega)) (gV bw_21_19 bw_21_20 bw_21_21 bw_1_5 bw_21_22) rfl ddX12_comesOut (by decide) (Std.lt hS rfl) (Std.k hS rfl rfl) ⟨rfl, by decide⟩ (Nat.le_of_ble_eq_true rfl) dX12_expression_301 (k_eV (fun M49 e50 => ?_))
                have e50L := mp_len (tm := 0) (w := w2) (z := ((Mx 53 32) + 1))
                have e5032 : M49 53 32 = mpZ 0 w2 ((Mx 53 32) + 1) := e50.2.1
                have e5011 := e50.2.2.2.2.2 11 (by decide) (by decide)
                have e5012 := e50.2.2.2.2.2 12 (by decide) (by decide)
                have e5013 := e50.2.2.2.2.2 13 (by decide) (by decide)
                have e5014 := e50.2.2.2.2.2 14 (by decide) (by decide)
                have e5075 := e50.2.2.2.2.1 75 (by decide) (by decide) (by decide)
                have e5036 := e50.1
                replace e5011 : M49 53 11 = (Mx 53 11) := e5011
                replace e5012 : M49 53 12 = (Mx 53 12) := e5012
                replace e5013 : M49 53 13 = 2 := e5013
                replace e5014 : M49 53 14 = (Mx 57 (Mx 53 11)) := e5014
                replace e5075 : M49 75 = Mx 75 := e5075
                refine hret _ _ _ _ _ _ _ _ _ _ _ none dX12_expression_304 ⟨rfl, rfl⟩ (by decide) (by decide) (fun hmok => ?_)
                obtain ⟨t9, F9, f1, f2, f3, f4, f5, f6⟩ := fl42
                exact ⟨rfl, rfl, rfl, rfl, rfl, rfl, Or.inl ⟨t9, F9, f1, f2, e5013.trans f3, f4, e5014.trans f5, by omega⟩, (frE_trans (frE_trans af ⟨fun i i1 i2 i3 i4 => (by rw [mu_i _ _ _ i1, mu_i _ _ _ i1, mu_i _ _ _ i1, mu_i _ _ _ i3, mu_i _ _ _ i2]), fun z z1 z2 z3 z4 z5 z6 => (by rw [mu_z _ _ _ z4, mu_z _ _ _ z3, mu_z _ _ _ z5, mu_i _ _ _ (by decide), mu_i _ _ _ (by decide)]), fun z hz => ⟨(by rw [mu_i _ _ _ (by decide), mu_i _ _ _ (by decide), mu_i _ _ _ (by decide), mu_i _ _ _ (by decide), mu_z _ _ _ (by omega)]), (by rw [mu_i _ _ _ (by decide), mu_i _ _ _ (by decide), mu_i _ _ _ (by decide), mu_z _ _ _ (by omega), mu_i _ _ _ (by decide)])⟩⟩ (Int.le_refl _) (Int.le_refl _) (Int.le_refl _) (Int.le_refl _)) (coP_fr (lo := mz0) (hi := (mz0 + 401 - cz0)) e50 (show mz0 ≤ ((Mx 53 32) + 1) by omega) (show ((Mx 53 32) + 1) + (w2.length : Int) ≤ (mz0 + 401 - cz0) by omega)) (Int.le_refl _) (Int.le_refl _) (Int.le_refl _) (Int.le_refl _))⟩
            · skip
              replace e40 : M39 = (mu (mu (mu (mu Mx 73 (Mx 53 32) 0) 74 (Mx 53 32) (Mx 58 (Mx 53 11))) 53 32 ((Mx 53 32) + 1)) 53 11 ((Mx 53 11) + 1)) := e40.trans (mNext_go (show (Mx 53 11) ≠ 400 from ht41))
              subst e40
              have hl51 : ∀ (n53 : Nat) (My : MI) (t3 : Nat) (w3 : List Int) (k3 : Nat) (cd3 : Int → Int), (ES (bt f n) n c0 sd wt0 cz0 cd0 rr mz0 3 t3 w3 k3 cd3 My) → (t2 < t3) → (frE mz0 (mz0 + 401 - cz0) M My) → 401 - t3 < n53 → V K 5 0 0 N sh ad My L R [(0, .ref (ad 53)), (1, .int (iz (M 53 12))), (2, .int (iz 1))] [] 200 := by
                intro n53
                induction n53 with
                | zero => intro My t3 w3 k3 cd3 bE bt0 bf hn54; exact absurd hn54 (Nat.not_lt_zero _)
                | succ n53 ih52 =>
                  intro My t3 w3 k3 cd3 bE bt0 bf hn54
                  obtain ⟨b11, b12, b13, b32, b36⟩ := bE.2.1
                  have bl := ES_len bE H
                  have btt := bE.1.1
                  have bk := GT_tok bE.1 (frE_tok bf hT)
                  rw [← b11] at bk
                  obtain ⟨bC, bP, bV⟩ := bk
                  have bo := bE.2.2.2.2.1
                  have bw := op_len w3
                  have bg := cOf_ge (m := My 56 (My 53 11))
                  have bm := cOf_le (m := My 56 (My 53 11))
                  rw [bC] at bg bm
                  refine v_aload_n X 0 dX12_expression_200 rfl rfl ?_
                  refine v_bipush X dX12_expression_201 (by decide) ?_
                  refine v_callV X [.int (iz 7)] hRm (c_X12_is _ _ _ hS 7 ⟨by decide, by decide⟩ (show 0 ≤ (My 53 11) ∧ (My 53 11) < 403 by omega)) (gV bw_20_18 bw_20_19 bw_20_20 bw_1_5 bw_20_21) rfl ddX12_is (by decide) (Std.lt hS rfl) (Std.k hS rfl rfl) ⟨rfl, by decide⟩ (Nat.le_of_ble_eq_true rfl) dX12_expression_203 (k_pB (fun b55 => ?_) (fun b55 => ?_))
                  · skip
                    replace b55 : My 56 (My 53 11) = 7 := b55.2
                    refine v_if_eq X 249 dX12_expression_206 (by decide) ⟨by decide, by decide⟩ (fun q => absurd q (by decide)) (fun _ => ?_)
                    refine v_aload_n X 0 dX12_expression_209 rfl rfl ?_
                    refine gt_X12_open X iwX12 (Std.lt hS rfl) (Std.k hS rfl rfl) (List.mem_cons_of_mem _ bw_19_12) dX12_expression_210 (My 53 12) rfl (fun hr56 => ?_)
                    refine v_iload_n X 1 dX12_expression_213 rfl rfl ?_
                    refine v_icmp_le X 249 dX12_expression_214 (by decide) ⟨by omega, by omega⟩ ⟨by omega, by omega⟩ (fun u57 => ?_) (fun u57 => ?_)
                    · skip
                      refine v_aload_n X 0 dX12_expression_249 rfl rfl ?_
                      refine v_bipush X dX12_expression_250 (by decide) ?_
                      refine v_callV X [.int (iz 8)] hRm (c_X12_is _ _ _ hS 8 ⟨by decide, by decide⟩ (show 0 ≤ (My 53 11) ∧ (My 53 11) < 403 by omega)) (gV bw_20_18 bw_20_19 bw_20_20 bw_1_5 bw_20_21) rfl ddX12_is (by decide) (Std.lt hS rfl) (Std.k hS rfl rfl) ⟨rfl, by decide⟩ (Nat.le_of_ble_eq_true rfl) dX12_expression_252 (k_pB (fun b58 => ?_) (fun b58 => ?_))
                      · skip
                        replace b58 : My 56 (My 53 11) = 8 := b58.2
                        exfalso; omega
                      · skip
                        replace b58 : ¬ My 56 (My 53 11) = 8 := fun z => b58 ⟨b13, z⟩
                        refine v_if_ne X 276 dX12_expression_255 (by decide) ⟨by decide, by decide⟩ (fun q => absurd q (by decide)) (fun _ => ?_)
                        refine v_aload_n X 0 dX12_expression_258 rfl rfl ?_
                        refine v_bipush X dX12_expression_259 (by decide) ?_
                        refine v_callV X [.int (iz 9)] hRm (c_X12_is _ _ _ hS 9 ⟨by decide, by decide⟩ (show 0 ≤ (My 53 11) ∧ (My 53 11) < 403 by omega)) (gV bw_20_18 bw_20_19 bw_20_20 bw_1_5 bw_20_21) rfl ddX12_is (by decide) (Std.lt hS rfl) (Std.k hS rfl rfl) ⟨rfl, by decide⟩ (Nat.le_of_ble_eq_true rfl) dX12_expression_261 (k_pB (fun b59 => ?_) (fun b59 => ?_))
                        · skip
                          replace b59 : My 56 (My 53 11) = 9 := b59.2
                          exfalso; omega
                        · skip
                          replace b59 : ¬ My 56 (My 53 11) = 9 := fun z => b59 ⟨b13, z⟩
                          refine v_if_ne X 276 dX12_expression_264 (by decide) ⟨by decide, by decide⟩ (fun q => absurd q (by decide)) (fun _ => ?_)
                          refine v_aload_n X 0 dX12_expression_267 rfl rfl ?_
                          refine v_bipush X dX12_expression_268 (by decide) ?_
                          refine v_callV X [.int (iz 10)] hRm (c_X12_is _ _ _ hS 10 ⟨by decide, by decide⟩ (show 0 ≤ (My 53 11) ∧ (My 53 11) < 403 by omega)) (gV bw_20_18 bw_20_19 bw_20_20 bw_1_5 bw_20_21) rfl ddX12_is (by decide) (Std.lt hS rfl) (Std.k hS rfl rfl) ⟨rfl, by decide⟩ (Nat.le_of_ble_eq_true rfl) dX12_expression_270 (k_pB (fun b60 => ?_) (fun b60 => ?_))
                          · skip
                            replace b60 : My 56 (My 53 11) = 10 := b60.2
                            exfalso; omega
                          · skip
                            replace b60 : ¬ My 56 (My 53 11) = 10 := fun z => b60 ⟨b13, z⟩
                            refine v_if_eq X 280 dX12_expression_273 (by decide) ⟨by decide, by decide⟩ (fun _ => ?_) (fun q => absurd (by decide) q)
                            refine v_iconst X dX12_expression_280 ?_
                            refine v_istore_n X [(2, .int (iz 0)), (0, .ref (ad 53)), (1, .int (iz (M 53 12)))] dX12_expression_281 rfl (by decide) rfl ?_
                            refine v_iload_n X 0 dX12_expression_282 rfl rfl ?_
                            refine v_if_ne X 305 dX12_expression_283 (by decide) ⟨by decide, by decide⟩ (fun q => absurd q (by decide)) (fun _ => ?_)
                            refine v_aload_n X 1 dX12_expression_286 rfl rfl ?_
                            refine gt_X12_open X iwX12 (Std.lt hS rfl) (Std.k hS rfl rfl) (List.mem_cons_of_mem _ bw_19_12) dX12_expression_287 (My 53 12) rfl (fun hr61 => ?_)
                            refine v_iload_n X 2 dX12_expression_290 rfl rfl ?_
                            refine v_icmp_le X 299 dX12_expression_291 (by decide) ⟨by omega, by omega⟩ ⟨by omega, by omega⟩ (fun u62 => ?_) (fun q => absurd (by omega) q)
                            refine v_aload_n X 1 dX12_expression_299 rfl rfl ?_
                            refine v_iconst X dX12_expression_300 ?_
                            refine v_callV X [.int (iz 0)] hRm (c_X12_comesOut _ _ _ hS 0 (by decide) w3 (show rep (My 75) w3 from bE.2.2.1) (show (My 53 36) = (w3.length : Int) by omega) (by omega) (show 0 ≤ (My 53 32) ∧ (My 53 32) + (w3.length : Int) ≤ 1000 by omega)) (gV bw_21_19 bw_21_20 bw_21_21 bw_1_5 bw_21_22) rfl ddX12_comesOut (by decide) (Std.lt hS rfl) (Std.k hS rfl rfl) ⟨rfl, by decide⟩ (Nat.le_of_ble_eq_true rfl) dX12_expression_301 (k_eV (fun M63 e64 => ?_))
                            have e64L := mp_len (tm := 0) (w := w3) (z := (My 53 32))
                            have e6432 : M63 53 32 = mpZ 0 w3 (My 53 32) := e64.2.1
                            have e6411 := e64.2.2.2.2.2 11 (by decide) (by decide)
                            have e6412 := e64.2.2.2.2.2 12 (by decide) (by decide)
                            have e6413 := e64.2.2.2.2.2 13 (by decide) (by decide)
                            have e6414 := e64.2.2.2.2.2 14 (by decide) (by decide)
                            have e6475 := e64.2.2.2.2.1 75 (by decide) (by decide) (by decide)
                            have e6436 := e64.1
                            replace e6411 : M63 53 11 = (My 53 11) := e6411
                            replace e6412 : M63 53 12 = (My 53 12) := e6412
                            replace e6413 : M63 53 13 = (My 53 13) := e6413
                            replace e6414 : M63 53 14 = (My 53 14) := e6414
                            replace e6475 : M63 75 = My 75 := e6475
                            refine hret _ _ _ _ _ _ _ _ _ _ _ none dX12_expression_304 ⟨rfl, rfl⟩ (by decide) (by decide) (fun hmok => ?_)
                            exact ⟨rfl, rfl, rfl, rfl, rfl, rfl, Or.inr ⟨t3, by omega, ES_end bE H (by omega) (by omega) (show M63 53 11 = _ by omega) (show M63 53 12 = _ by omega) (show M63 53 13 = 0 by omega) e64.2.1 e64.2.2.1 e64.2.2.2.1⟩, (frE_trans bf (coP_fr (lo := mz0) (hi := (mz0 + 401 - cz0)) e64 (show mz0 ≤ (My 53 32) by omega) (show (My 53 32) + (w3.length : Int) ≤ (mz0 + 401 - cz0) by omega)) (Int.le_refl _) (Int.le_refl _) (Int.le_refl _) (Int.le_refl _))⟩
                    · skip
                      have hw1 : 1 ≤ (mpW 0 w3).length := by obtain ⟨t6, ht6⟩ := mpW_open bE.2.2.2.1 (by omega); rw [ht6]; simp
                      refine v_aload_n X 0 dX12_expression_217 rfl rfl ?_
                      refine v_iconst X dX12_expression_218 ?_
                      refine v_callV X [.int (iz 0)] hRm (c_X12_comesOut _ _ _ hS 0 (by decide) w3 (show rep (My 75) w3 from bE.2.2.1) (show (My 53 36) = (w3.length : Int) by omega) (by omega) (show 0 ≤ (My 53 32) ∧ (My 53 32) + (w3.length : Int) ≤ 1000 by omega)) (gV bw_21_19 bw_21_20 bw_21_21 bw_1_5 bw_21_22) rfl ddX12_comesOut (by decide) (Std.lt hS rfl) (Std.k hS rfl rfl) ⟨rfl, by decide⟩ (Nat.le_of_ble_eq_true rfl) dX12_expression_219 (k_eV (fun M65 e66 => ?_))
                      have e66L := mp_len (tm := 0) (w := w3) (z := (My 53 32))
                      have e6632 : M65 53 32 = mpZ 0 w3 (My 53 32) := e66.2.1
                      have e6611 := e66.2.2.2.2.2 11 (by decide) (by decide)
                      have e6612 := e66.2.2.2.2.2 12 (by decide) (by decide)
                      have e6613 := e66.2.2.2.2.2 13 (by decide) (by decide)
                      have e6614 := e66.2.2.2.2.2 14 (by decide) (by decide)
                      have e6675 := e66.2.2.2.2.1 75 (by decide) (by decide) (by decide)
                      have e6636 := e66.1
                      replace e6611 : M65 53 11 = (My 53 11) := e6611
                      replace e6612 : M65 53 12 = (My 53 12) := e6612
                      replace e6613 : M65 53 13 = (My 53 13) := e6613
                      replace e6614 : M65 53 14 = (My 53 14) := e6614
                      replace e6675 : M65 75 = My 75 := e6675
                      refine v_aload_n X 0 dX12_expression_222 rfl rfl ?_
                      refine v_dup X dX12_expression_223 rfl ?_
                      refine gt_X12_waiting X iwX12 (Std.lt hS rfl) (Std.k hS rfl rfl) (List.mem_cons_of_mem _ bw_21_14) dX12_expression_224 (M65 53 36) rfl (fun hr67 => ?_)
                      refine v_iconst X dX12_expression_227 ?_
                      refine v_isub X dX12_expression_228 ?_
                      refine pt_X12_waiting X iwX12 (Std.lt hS rfl) (Std.k hS rfl rfl) (List.mem_cons_of_mem _ bw_21_14) ⟨by omega, by omega⟩ dX12_expression_229 ?_
                      refine v_aload_n X 0 dX12_expression_232 rfl rfl ?_
                      refine v_dup X dX12_expression_233 rfl ?_
                      refine gt_X12_open X iwX12 (Std.lt hS rfl) (Std.k hS rfl rfl) (List.mem_cons_of_mem _ bw_19_12) dX12_expression_234 (M65 53 12) rfl (fun hr68 => ?_)
                      refine v_iconst X dX12_expression_237 ?_
                      refine v_isub X dX12_expression_238 ?_
                      refine pt_X12_open X iwX12 (Std.lt hS rfl) (Std.k hS rfl rfl) (List.mem_cons_of_mem _ bw_19_12) ⟨by omega, by omega⟩ dX12_expression_239 ?_
                      refine v_aload_n X 0 dX12_expression_242 rfl rfl ?_
                      refine v_callV X [] hRm (c_X12_next _ _ _ hS (show 0 ≤ (M65 53 11) ∧ (M65 53 11) ≤ 400 by omega)) (gV bw_21_6 bw_21_7 bw_21_8 bw_1_5 bw_21_9) rfl ddX12_next (by decide) (Std.lt hS rfl) (Std.k hS rfl rfl) ⟨rfl, by decide⟩ (Nat.le_of_ble_eq_true rfl) dX12_expression_243 (k_eV (fun M69 e70 => ?_))
                      by_cases ht71 : (M65 53 11) = 400
                      · skip
                        replace e70 : M69 = (mu (mu (mu (mu M65 53 36 ((M65 53 36) - 1)) 53 12 ((M65 53 12) - 1)) 53 13 2) 53 14 (M65 57 (M65 53 11))) := e70.trans (mNext_full (show (M65 53 11) = 400 from ht71) (show ¬ 0 < (M65 53 13) by omega))
                        subst e70
                        have fl72 : FlT (bt f n) n c0 (mu (mu (mu (mu M65 53 36 ((M65 53 36) - 1)) 53 12 ((M65 53 12) - 1)) 53 13 2) 53 14 (M65 57 (M65 53 11))) := ES_fl bE (Or.inr ⟨rfl, Or.inr (Or.inr (Or.inr ⟨by decide, Or.inr (Or.inl ⟨by omega, by omega⟩)⟩)), Or.inl (by omega)⟩) rfl (show (M65 57 (M65 53 11)) = _ by rw [show M65 57 = My 57 from e66.2.2.2.2.1 57 (by decide) (by decide) (by decide), show M65 53 11 = My 53 11 by omega]; exact bP) (show 0 ≤ (M65 53 11) ∧ (M65 53 11) ≤ 400 by omega)
                        refine v_goto X 200 dX12_expression_246 (by decide) ?_
                        refine v_aload_n X 0 dX12_expression_200 rfl rfl ?_
                        refine v_bipush X dX12_expression_201 (by decide) ?_
                        refine v_callV X [.int (iz 7)] hRm (c_X12_is _ _ _ hS 7 ⟨by decide, by decide⟩ (show 0 ≤ (M65 53 11) ∧ (M65 53 11) < 403 by omega)) (gV bw_20_18 bw_20_19 bw_20_20 bw_1_5 bw_20_21) rfl ddX12_is (by decide) (Std.lt hS rfl) (Std.k hS rfl rfl) ⟨rfl, by decide⟩ (Nat.le_of_ble_eq_true rfl) dX12_expression_203 (k_pB (fun q => absurd (show 2 = (0 : Int) from q.1) (by omega)) (fun _ => ?_))
                        refine v_if_eq X 249 dX12_expression_206 (by decide) ⟨by decide, by decide⟩ (fun _ => ?_) (fun q => absurd (by decide) q)
                        refine v_aload_n X 0 dX12_expression_249 rfl rfl ?_
                        refine v_bipush X dX12_expression_250 (by decide) ?_
                        refine v_callV X [.int (iz 8)] hRm (c_X12_is _ _ _ hS 8 ⟨by decide, by decide⟩ (show 0 ≤ (M65 53 11) ∧ (M65 53 11) < 403 by omega)) (gV bw_20_18 bw_20_19 bw_20_20 bw_1_5 bw_20_21) rfl ddX12_is (by decide) (Std.lt hS rfl) (Std.k hS rfl rfl) ⟨rfl, by decide⟩ (Nat.le_of_ble_eq_true rfl) dX12_expression_252 (k_pB (fun q => absurd (show 2 = (0 : Int) from q.1) (by omega)) (fun _ => ?_))
                        refine v_if_ne X 276 dX12_expression_255 (by decide) ⟨by decide, by decide⟩ (fun q => absurd q (by decide)) (fun _ => ?_)
                        refine v_aload_n X 0 dX12_expression_258 rfl rfl ?_
                        refine v_bipush X dX12_expression_259 (by decide) ?_
                        refine v_callV X [.int (iz 9)] hRm (c_X12_is _ _ _ hS 9 ⟨by decide, by decide⟩ (show 0 ≤ (M65 53 11) ∧ (M65 53 11) < 403 by omega)) (gV bw_20_18 bw_20_19 bw_20_20 bw_1_5 bw_20_21) rfl ddX12_is (by decide) (Std.lt hS rfl) (Std.k hS rfl rfl) ⟨rfl, by decide⟩ (Nat.le_of_ble_eq_true rfl) dX12_expression_261 (k_pB (fun q => absurd (show 2 = (0 : Int) from q.1) (by omega)) (fun _ => ?_))
                        refine v_if_ne X 276 dX12_expression_264 (by decide) ⟨by decide, by decide⟩ (fun q => absurd q (by decide)) (fun _ => ?_)
                        refine v_aload_n X 0 dX12_expression_267 rfl rfl ?_
                        refine v_bipush X dX12_expression_268 (by decide) ?_
                        refine v_callV X [.int (iz 10)] hRm (c_X12_is _ _ _ hS 10 ⟨by decide, by decide⟩ (show 0 ≤ (M65 53 11) ∧ (M65 53 11) < 403 by omega)) (gV bw_20_18 bw_20_19 bw_20_20 bw_1_5 bw_20_21) rfl ddX12_is (by decide) (Std.lt hS rfl) (Std.k hS rfl rfl) ⟨rfl, by decide⟩ (Nat.le_of_ble_eq_true rfl) dX12_expression_270 (k_pB (fun q => absurd (show 2 = (0 : Int) from q.1) (by omega)) (fun _ => ?_))
                        refine v_if_eq X 280 dX12_expression_273 (by decide) ⟨by decide, by decide⟩ (fun _ => ?_) (fun q => absurd (by decide) q)
                        refine v_iconst X dX12_expression_280 ?_
                        refine v_istore_n X [(2, .int (iz 0)), (0, .ref (ad 53)), (1, .int (iz (M 53 12)))] dX12_expression_281 rfl (by decide) rfl ?_
                        refine v_iload_n X 0 dX12_expression_282 rfl rfl ?_
                        refine v_if_ne X 305 dX12_expression_283 (by decide) ⟨by decide, by decide⟩ (fun q => absurd q (by decide)) (fun _ => ?_)
                        refine v_aload_n X 1 dX12_expression_286 rfl rfl ?_
                        refine gt_X12_open X iwX12 (Std.lt hS rfl) (Std.k hS rfl rfl) (List.mem_cons_of_mem _ bw_19_12) dX12_expression_287 ((M65 53 12) - 1) rfl (fun hr73 => ?_)
                        refine v_iload_n X 2 dX12_expression_290 rfl rfl ?_
                        refine v_icmp_le X 299 dX12_expression_291 (by decide) ⟨by omega, by omega⟩ ⟨by omega, by omega⟩ (fun u74 => ?_) (fun u74 => ?_)
                        · skip
                          refine v_aload_n X 1 dX12_expression_299 rfl rfl ?_
                          refine v_iconst X dX12_expression_300 ?_
                          refine v_callV X [.int (iz 0)] hRm (c_X12_comesOut _ _ _ hS 0 (by decide) ((mpW 0 w3).tail) (show rep (M65 75) ((mpW 0 w3).tail) from (by rw [e6675]; exact rep_tail (rep_suf bE.2.2.1))) (show ((M65 53 36) - 1) = (((mpW 0 w3).tail).length : Int) by rw [List.length_tail]; omega) (by rw [List.length_tail]; omega) (show 0 ≤ (M65 53 32) ∧ (M65 53 32) + (((mpW 0 w3).tail).length : Int) ≤ 1000 by rw [List.length_tail]; omega)) (gV bw_21_19 bw_21_20 bw_21_21 bw_1_5 bw_21_22) rfl ddX12_comesOut (by decide) (Std.lt hS rfl) (Std.k hS rfl rfl) ⟨rfl, by decide⟩ (Nat.le_of_ble_eq_true rfl) dX12_expression_301 (k_eV (fun M75 e76 => ?_))
                          have e76L := mp_len (tm := 0) (w := ((mpW 0 w3).tail)) (z := (M65 53 32))
                          have e7632 : M75 53 32 = mpZ 0 ((mpW 0 w3).tail) (M65 53 32) := e76.2.1
                          have e7611 := e76.2.2.2.2.2 11 (by decide) (by decide)
                          have e7612 := e76.2.2.2.2.2 12 (by decide) (by decide)
                          have e7613 := e76.2.2.2.2.2 13 (by decide) (by decide)
                          have e7614 := e76.2.2.2.2.2 14 (by decide) (by decide)
                          have e7675 := e76.2.2.2.2.1 75 (by decide) (by decide) (by decide)
                          have e7636 := e76.1
                          replace e7611 : M75 53 11 = (M65 53 11) := e7611
                          replace e7612 : M75 53 12 = ((M65 53 12) - 1) := e7612
                          replace e7613 : M75 53 13 = 2 := e7613
                          replace e7614 : M75 53 14 = (M65 57 (M65 53 11)) := e7614
                          replace e7675 : M75 75 = M65 75 := e7675
                          refine hret _ _ _ _ _ _ _ _ _ _ _ none dX12_expression_304 ⟨rfl, rfl⟩ (by decide) (by decide) (fun hmok => ?_)
                          obtain ⟨t9, F9, f1, f2, f3, f4, f5, f6⟩ := fl72
                          exact ⟨rfl, rfl, rfl, rfl, rfl, rfl, Or.inl ⟨t9, F9, f1, f2, e7613.trans f3, f4, e7614.trans f5, by omega⟩, (frE_trans (frE_trans (frE_trans bf (coP_fr (lo := mz0) (hi := (mz0 + 401 - cz0)) e66 (show mz0 ≤ (My 53 32) by omega) (show (My 53 32) + (w3.length : Int) ≤ (mz0 + 401 - cz0) by omega)) (Int.le_refl _) (Int.le_refl _) (Int.le_refl _) (Int.le_refl _)) ⟨fun i i1 i2 i3 i4 => (by rw [mu_i _ _ _ i1, mu_i _ _ _ i1, mu_i _ _ _ i1, mu_i _ _ _ i1]), fun z z1 z2 z3 z4 z5 z6 => (by rw [mu_z _ _ _ z4, mu_z _ _ _ z3, mu_z _ _ _ z2, mu_z _ _ _ z6]), fun z hz => ⟨(by rw [mu_i _ _ _ (by decide), mu_i _ _ _ (by decide), mu_i _ _ _ (by decide), mu_i _ _ _ (by decide)]), (by rw [mu_i _ _ _ (by decide), mu_i _ _ _ (by decide), mu_i _ _ _ (by decide), mu_i _ _ _ (by decide)])⟩⟩ (Int.le_refl _) (Int.le_refl _) (Int.le_refl _) (Int.le_refl _)) (coP_fr (lo := mz0) (hi := (mz0 + 401 - cz0)) e76 (show mz0 ≤ (M65 53 32) by omega) (show (M65 53 32) + (((mpW 0 w3).tail).length : Int) ≤ (mz0 + 401 - cz0) by rw [List.length_tail]; omega)) (Int.le_refl _) (Int.le_refl _) (Int.le_refl _) (Int.le_refl _))⟩
                        · skip
                          refine v_aload_n X 1 dX12_expression_294 rfl rfl ?_
                          refine v_iconst X dX12_expression_295 ?_
                          refine v_callV X [.int (iz 1)] hRm (c_X12_fail _ _ _ hS 1 ⟨by decide, by decide⟩ (show 0 ≤ (M65 53 11) ∧ (M65 53 11) < 403 by omega)) (gV bw_21_2 bw_21_3 bw_21_4 bw_1_5 bw_21_5) rfl ddX12_fail (by decide) (Std.lt hS rfl) (Std.k hS rfl rfl) ⟨rfl, by decide⟩ (Nat.le_of_ble_eq_true rfl) dX12_expression_296 (k_eV (fun M77 e78 => ?_))
                          replace e78 : M77 = (mu (mu (mu (mu M65 53 36 ((M65 53 36) - 1)) 53 12 ((M65 53 12) - 1)) 53 13 2) 53 14 (M65 57 (M65 53 11))) := e78.trans (mFail_y (show 0 < 2 by omega))
                          subst e78
                          refine v_aload_n X 1 dX12_expression_299 rfl rfl ?_
                          refine v_iconst X dX12_expression_300 ?_
                          refine v_callV X [.int (iz 0)] hRm (c_X12_comesOut _ _ _ hS 0 (by decide) ((mpW 0 w3).tail) (show rep (M65 75) ((mpW 0 w3).tail) from (by rw [e6675]; exact rep_tail (rep_suf bE.2.2.1))) (show ((M65 53 36) - 1) = (((mpW 0 w3).tail).length : Int) by rw [List.length_tail]; omega) (by rw [List.length_tail]; omega) (show 0 ≤ (M65 53 32) ∧ (M65 53 32) + (((mpW 0 w3).tail).length : Int) ≤ 1000 by rw [List.length_tail]; omega)) (gV bw_21_19 bw_21_20 bw_21_21 bw_1_5 bw_21_22) rfl ddX12_comesOut (by decide) (Std.lt hS rfl) (Std.k hS rfl rfl) ⟨rfl, by decide⟩ (Nat.le_of_ble_eq_true rfl) dX12_expression_301 (k_eV (fun M79 e80 => ?_))
                          have e80L := mp_len (tm := 0) (w := ((mpW 0 w3).tail)) (z := (M65 53 32))
                          have e8032 : M79 53 32 = mpZ 0 ((mpW 0 w3).tail) (M65 53 32) := e80.2.1
                          have e8011 := e80.2.2.2.2.2 11 (by decide) (by decide)
                          have e8012 := e80.2.2.2.2.2 12 (by decide) (by decide)
                          have e8013 := e80.2.2.2.2.2 13 (by decide) (by decide)
                          have e8014 := e80.2.2.2.2.2 14 (by decide) (by decide)
                          have e8075 := e80.2.2.2.2.1 75 (by decide) (by decide) (by decide)
                          have e8036 := e80.1
                          replace e8011 : M79 53 11 = (M65 53 11) := e8011
                          replace e8012 : M79 53 12 = ((M65 53 12) - 1) := e8012
                          replace e8013 : M79 53 13 = 2 := e8013
                          replace e8014 : M79 53 14 = (M65 57 (M65 53 11)) := e8014
                          replace e8075 : M79 75 = M65 75 := e8075
                          refine hret _ _ _ _ _ _ _ _ _ _ _ none dX12_expression_304 ⟨rfl, rfl⟩ (by decide) (by decide) (fun hmok => ?_)
                          obtain ⟨t9, F9, f1, f2, f3, f4, f5, f6⟩ := fl72
                          exact ⟨rfl, rfl, rfl, rfl, rfl, rfl, Or.inl ⟨t9, F9, f1, f2, e8013.trans f3, f4, e8014.trans f5, by omega⟩, (frE_trans (frE_trans (frE_trans bf (coP_fr (lo := mz0) (hi := (mz0 + 401 - cz0)) e66 (show mz0 ≤ (My 53 32) by omega) (show (My 53 32) + (w3.length : Int) ≤ (mz0 + 401 - cz0) by omega)) (Int.le_refl _) (Int.le_refl _) (Int.le_refl _) (Int.le_refl _)) ⟨fun i i1 i2 i3 i4 => (by rw [mu_i _ _ _ i1, mu_i _ _ _ i1, mu_i _ _ _ i1, mu_i _ _ _ i1]), fun z z1 z2 z3 z4 z5 z6 => (by rw [mu_z _ _ _ z4, mu_z _ _ _ z3, mu_z _ _ _ z2, mu_z _ _ _ z6]), fun z hz => ⟨(by rw [mu_i _ _ _ (by decide), mu_i _ _ _ (by decide), mu_i _ _ _ (by decide), mu_i _ _ _ (by decide)]), (by rw [mu_i _ _ _ (by decide), mu_i _ _ _ (by decide), mu_i _ _ _ (by decide), mu_i _ _ _ (by decide)])⟩⟩ (Int.le_refl _) (Int.le_refl _) (Int.le_refl _) (Int.le_refl _)) (coP_fr (lo := mz0) (hi := (mz0 + 401 - cz0)) e80 (show mz0 ≤ (M65 53 32) by omega) (show (M65 53 32) + (((mpW 0 w3).tail).length : Int) ≤ (mz0 + 401 - cz0) by rw [List.length_tail]; omega)) (Int.le_refl _) (Int.le_refl _) (Int.le_refl _) (Int.le_refl _))⟩
                      · skip
                        replace e70 : M69 = (mu (mu (mu M65 53 36 ((M65 53 36) - 1)) 53 12 ((M65 53 12) - 1)) 53 11 ((M65 53 11) + 1)) := e70.trans (mNext_go (show (M65 53 11) ≠ 400 from ht71))
                        subst e70
                        refine v_goto X 200 dX12_expression_246 (by decide) ?_
                        exact ih52 (mu (mu (mu M65 53 36 ((M65 53 36) - 1)) 53 12 ((M65 53 12) - 1)) 53 11 ((M65 53 11) + 1)) (t3 + 1) ((mpW 0 w3).tail) (k3 + (w3.length - (mpW 0 w3).length)) (rlD 0 (w3.map cOf ++ wt0) (cz0 + (k3 : Int)) cd3) (ES_close bE H (by omega) (by omega) (by omega) (show M65 53 11 + 1 = _ by omega) (show M65 53 12 - 1 = _ by omega) (show M65 53 13 = 0 by omega) (show M65 53 32 = _ from e66.2.1) (show M65 53 36 - 1 = _ by omega) (show M65 75 = _ from e6675) (show M65 73 = _ from e66.2.2.1) (show M65 74 = _ from e66.2.2.2.1)) (by omega) ((frE_trans (frE_trans bf (coP_fr (lo := mz0) (hi := (mz0 + 401 - cz0)) e66 (show mz0 ≤ (My 53 32) by omega) (show (My 53 32) + (w3.length : Int) ≤ (mz0 + 401 - cz0) by omega)) (Int.le_refl _) (Int.le_refl _) (Int.le_refl _) (Int.le_refl _)) ⟨fun i i1 i2 i3 i4 => (by rw [mu_i _ _ _ i1, mu_i _ _ _ i1, mu_i _ _ _ i1]), fun z z1 z2 z3 z4 z5 z6 => (by rw [mu_z _ _ _ z1, mu_z _ _ _ z2, mu_z _ _ _ z6]), fun z hz => ⟨(by rw [mu_i _ _ _ (by decide), mu_i _ _ _ (by decide), mu_i _ _ _ (by decide)]), (by rw [mu_i _ _ _ (by decide), mu_i _ _ _ (by decide), mu_i _ _ _ (by decide)])⟩⟩ (Int.le_refl _) (Int.le_refl _) (Int.le_refl _) (Int.le_refl _))) (by omega)
                  · skip
                    replace b55 : ¬ My 56 (My 53 11) = 7 := fun z => b55 ⟨b13, z⟩
                    refine v_if_eq X 249 dX12_expression_206 (by decide) ⟨by decide, by decide⟩ (fun _ => ?_) (fun q => absurd (by decide) q)
                    refine v_aload_n X 0 dX12_expression_249 rfl rfl ?_
                    refine v_bipush X dX12_expression_250 (by decide) ?_
                    refine v_callV X [.int (iz 8)] hRm (c_X12_is _ _ _ hS 8 ⟨by decide, by decide⟩ (show 0 ≤ (My 53 11) ∧ (My 53 11) < 403 by omega)) (gV bw_20_18 bw_20_19 bw_20_20 bw_1_5 bw_20_21) rfl ddX12_is (by decide) (Std.lt hS rfl) (Std.k hS rfl rfl) ⟨rfl, by decide⟩ (Nat.le_of_ble_eq_true rfl) dX12_expression_252 (k_pB (fun b81 => ?_) (fun b81 => ?_))
                    · skip
                      replace b81 : My 56 (My 53 11) = 8 := b81.2
                      refine v_if_ne X 276 dX12_expression_255 (by decide) ⟨by decide, by decide⟩ (fun _ => ?_) (fun q => absurd (by decide) q)
                      refine v_iconst X dX12_expression_276 ?_
                      refine v_goto X 281 dX12_expression_277 (by decide) ?_
                      refine v_istore_n X [(2, .int (iz 1)), (0, .ref (ad 53)), (1, .int (iz (M 53 12)))] dX12_expression_281 rfl (by decide) rfl ?_
                      refine v_iload_n X 0 dX12_expression_282 rfl rfl ?_
                      refine v_if_ne X 305 dX12_expression_283 (by decide) ⟨by decide, by decide⟩ (fun _ => ?_) (fun q => absurd (by decide) q)
                      refine v_aload_n X 1 dX12_expression_305 rfl rfl ?_
                      refine gt_X12_tKind X iwX12 (Std.lt hS rfl) (Std.k hS rfl rfl) (List.mem_cons_of_mem _ bw_7_16) dX12_expression_306 56 (Std.r hS 5 rfl) ?_
                      refine v_aload_n X 1 dX12_expression_309 rfl rfl ?_
                      refine gt_X12_t X iwX12 (Std.lt hS rfl) (Std.k hS rfl rfl) (List.mem_cons_of_mem _ bw_19_11) dX12_expression_310 (My 53 11) rfl (fun hr82 => ?_)
                      refine v_iald X (My 56 (My 53 11)) (Std.lt hS rfl) (Std.at hS rfl rfl) (by omega) (by omega) dX12_expression_313 rfl (fun hr83 => ?_)
                      refine v_istore X [(4, .int (iz (My 56 (My 53 11)))), (2, .int (iz 1)), (0, .ref (ad 53)), (1, .int (iz (M 53 12)))] dX12_expression_314 (by decide) rfl ?_
                      refine v_aload_n X 2 dX12_expression_316 rfl rfl ?_
                      refine v_iload X 0 dX12_expression_317 rfl ?_
                      refine v_bipush X dX12_expression_319 (by decide) ?_
                      refine v_icmp_ne X 328 dX12_expression_321 (by decide) ⟨by omega, by omega⟩ ⟨by decide, by decide⟩ (fun u84 => ?_) (fun q => absurd (by omega) q)
                      refine v_iconst X dX12_expression_328 ?_
                      refine v_callV X [.int (iz 0)] hRm (c_X12_comesOut _ _ _ hS 0 (by decide) w3 (show rep (My 75) w3 from bE.2.2.1) (show (My 53 36) = (w3.length : Int) by omega) (by omega) (show 0 ≤ (My 53 32) ∧ (My 53 32) + (w3.length : Int) ≤ 1000 by omega)) (gV bw_21_19 bw_21_20 bw_21_21 bw_1_5 bw_21_22) rfl ddX12_comesOut (by decide) (Std.lt hS rfl) (Std.k hS rfl rfl) ⟨rfl, by decide⟩ (Nat.le_of_ble_eq_true rfl) dX12_expression_329 (k_eV (fun M85 e86 => ?_))
                      have e86L := mp_len (tm := 0) (w := w3) (z := (My 53 32))
                      have e8632 : M85 53 32 = mpZ 0 w3 (My 53 32) := e86.2.1
                      have e8611 := e86.2.2.2.2.2 11 (by decide) (by decide)
                      have e8612 := e86.2.2.2.2.2 12 (by decide) (by decide)
                      have e8613 := e86.2.2.2.2.2 13 (by decide) (by decide)
                      have e8614 := e86.2.2.2.2.2 14 (by decide) (by decide)
                      have e8675 := e86.2.2.2.2.1 75 (by decide) (by decide) (by decide)
                      have e8636 := e86.1
                      replace e8611 : M85 53 11 = (My 53 11) := e8611
                      replace e8612 : M85 53 12 = (My 53 12) := e8612
                      replace e8613 : M85 53 13 = (My 53 13) := e8613
                      replace e8614 : M85 53 14 = (My 53 14) := e8614
                      replace e8675 : M85 75 = My 75 := e8675
                      refine v_aload_n X 2 dX12_expression_332 rfl rfl ?_
                      refine gt_X12_waits X iwX12 (Std.lt hS rfl) (Std.k hS rfl rfl) (List.mem_cons_of_mem _ bw_8_13) dX12_expression_333 75 (Std.r hS 35 rfl) ?_
                      refine v_aload_n X 2 dX12_expression_336 rfl rfl ?_
                      refine gt_X12_waiting X iwX12 (Std.lt hS rfl) (Std.k hS rfl rfl) (List.mem_cons_of_mem _ bw_21_14) dX12_expression_337 (M85 53 36) rfl (fun hr87 => ?_)
                      refine v_iload X 0 dX12_expression_340 rfl ?_
                      refine v_iast X (Std.lt hS rfl) (Std.at hS rfl rfl) (by omega) (by omega) ⟨by omega, by omega⟩ dX12_expression_342 ?_
                      refine v_aload_n X 2 dX12_expression_343 rfl rfl ?_
                      refine v_dup X dX12_expression_344 rfl ?_
                      refine gt_X12_waiting X iwX12 (Std.lt hS rfl) (Std.k hS rfl rfl) (List.mem_cons_of_mem _ bw_21_14) dX12_expression_345 (M85 53 36) rfl (fun hr88 => ?_)
                      refine v_iconst X dX12_expression_348 ?_
                      refine v_iadd X dX12_expression_349 ?_
                      refine pt_X12_waiting X iwX12 (Std.lt hS rfl) (Std.k hS rfl rfl) (List.mem_cons_of_mem _ bw_21_14) ⟨by omega, by omega⟩ dX12_expression_350 ?_
                      refine v_aload_n X 2 dX12_expression_353 rfl rfl ?_
                      refine v_callV X [] hRm (c_X12_next _ _ _ hS (show 0 ≤ (M85 53 11) ∧ (M85 53 11) ≤ 400 by omega)) (gV bw_21_6 bw_21_7 bw_21_8 bw_1_5 bw_21_9) rfl ddX12_next (by decide) (Std.lt hS rfl) (Std.k hS rfl rfl) ⟨rfl, by decide⟩ (Nat.le_of_ble_eq_true rfl) dX12_expression_354 (k_eV (fun M89 e90 => ?_))
                      by_cases ht91 : (M85 53 11) = 400
                      · skip
                        replace e90 : M89 = (mu (mu (mu (mu M85 75 (M85 53 36) (My 56 (My 53 11))) 53 36 ((M85 53 36) + 1)) 53 13 2) 53 14 (M85 57 (M85 53 11))) := e90.trans (mNext_full (show (M85 53 11) = 400 from ht91) (show ¬ 0 < (M85 53 13) by omega))
                        subst e90
                        have fl92 : FlT (bt f n) n c0 (mu (mu (mu (mu M85 75 (M85 53 36) (My 56 (My 53 11))) 53 36 ((M85 53 36) + 1)) 53 13 2) 53 14 (M85 57 (M85 53 11))) := ES_fl bE (Or.inr ⟨rfl, Or.inr (Or.inr (Or.inr ⟨by decide, Or.inl (by omega)⟩)), Or.inl (by omega)⟩) rfl (show (M85 57 (M85 53 11)) = _ by rw [show M85 57 = My 57 from e86.2.2.2.2.1 57 (by decide) (by decide) (by decide), show M85 53 11 = My 53 11 by omega]; exact bP) (show 0 ≤ (M85 53 11) ∧ (M85 53 11) ≤ 400 by omega)
                        refine v_goto X 12 dX12_expression_357 (by decide) ?_
                        refine v_iload_n X 1 dX12_expression_12 rfl rfl ?_
                        refine v_if_eq X 360 dX12_expression_13 (by decide) ⟨by decide, by decide⟩ (fun q => absurd q (by decide)) (fun _ => ?_)
                        refine v_aload_n X 2 dX12_expression_16 rfl rfl ?_
                        refine gt_X12_fault X iwX12 (Std.lt hS rfl) (Std.k hS rfl rfl) (List.mem_cons_of_mem _ bw_19_13) dX12_expression_17 2 rfl (fun hr93 => ?_)
                        refine v_if_ne X 360 dX12_expression_20 (by decide) ⟨by decide, by decide⟩ (fun _ => ?_) (fun q => absurd (by decide) q)
                        refine hret _ _ _ _ _ _ _ _ _ _ _ none dX12_expression_360 ⟨rfl, rfl⟩ (by decide) (by decide) (fun hmok => ?_)
                        exact ⟨rfl, rfl, rfl, rfl, rfl, rfl, Or.inl fl92, (frE_trans (frE_trans bf (coP_fr (lo := mz0) (hi := (mz0 + 401 - cz0)) e86 (show mz0 ≤ (My 53 32) by omega) (show (My 53 32) + (w3.length : Int) ≤ (mz0 + 401 - cz0) by omega)) (Int.le_refl _) (Int.le_refl _) (Int.le_refl _) (Int.le_refl _)) ⟨fun i i1 i2 i3 i4 => (by rw [mu_i _ _ _ i1, mu_i _ _ _ i1, mu_i _ _ _ i1, mu_i _ _ _ i4]), fun z z1 z2 z3 z4 z5 z6 => (by rw [mu_z _ _ _ z4, mu_z _ _ _ z3, mu_z _ _ _ z6, mu_i _ _ _ (by decide)]), fun z hz => ⟨(by rw [mu_i _ _ _ (by decide), mu_i _ _ _ (by decide), mu_i _ _ _ (by decide), mu_i _ _ _ (by decide)]), (by rw [mu_i _ _ _ (by decide), mu_i _ _ _ (by decide), mu_i _ _ _ (by decide), mu_i _ _ _ (by decide)])⟩⟩ (Int.le_refl _) (Int.le_refl _) (Int.le_refl _) (Int.le_refl _))⟩
                      · skip
                        replace e90 : M89 = (mu (mu (mu M85 75 (M85 53 36) (My 56 (My 53 11))) 53 36 ((M85 53 36) + 1)) 53 11 ((M85 53 11) + 1)) := e90.trans (mNext_go (show (M85 53 11) ≠ 400 from ht91))
                        subst e90
                        refine v_goto X 12 dX12_expression_357 (by decide) ?_
                        refine v_lv [2, 3, 1] rfl ?_
                        exact ih3 (mu (mu (mu M85 75 (M85 53 36) (My 56 (My 53 11))) 53 36 ((M85 53 36) + 1)) 53 11 ((M85 53 11) + 1)) (t3 + 1) (8 :: mpW 0 w3) (k3 + (w3.length - (mpW 0 w3).length)) (rlD (rkI (kdT (bt f n) n t3)) (w3.map cOf ++ wt0) (cz0 + (k3 : Int)) cd3) ((ES_op (x := 8) (tm := 0) bE H (by omega) (by decide) (by decide) (by omega) (show M85 53 11 + 1 = _ by omega) (show M85 53 12 = _ by omega) (show M85 53 13 = 0 by omega) (show M85 53 32 = _ from e86.2.1) (show M85 53 36 + 1 = _ by omega) (by rw [← e8636, ← e8675, show (8 : Int) = My 56 (My 53 11) by omega]; rfl) (show M85 73 = _ from e86.2.2.1) (show M85 74 = _ from e86.2.2.2.1))) (by omega) ((frE_trans (frE_trans bf (coP_fr (lo := mz0) (hi := (mz0 + 401 - cz0)) e86 (show mz0 ≤ (My 53 32) by omega) (show (My 53 32) + (w3.length : Int) ≤ (mz0 + 401 - cz0) by omega)) (Int.le_refl _) (Int.le_refl _) (Int.le_refl _) (Int.le_refl _)) ⟨fun i i1 i2 i3 i4 => (by rw [mu_i _ _ _ i1, mu_i _ _ _ i1, mu_i _ _ _ i4]), fun z z1 z2 z3 z4 z5 z6 => (by rw [mu_z _ _ _ z1, mu_z _ _ _ z6, mu_i _ _ _ (by decide)]), fun z hz => ⟨(by rw [mu_i _ _ _ (by decide), mu_i _ _ _ (by decide), mu_i _ _ _ (by decide)]), (by rw [mu_i _ _ _ (by decide), mu_i _ _ _ (by decide), mu_i _ _ _ (by decide)])⟩⟩ (Int.le_refl _) (Int.le_refl _) (Int.le_refl _) (Int.le_refl _))) (by omega)
                    · skip
                      replace b81 : ¬ My 56 (My 53 11) = 8 := fun z => b81 ⟨b13, z⟩
                      refine v_if_ne X 276 dX12_expression_255 (by decide) ⟨by decide, by decide⟩ (fun q => absurd q (by decide)) (fun _ => ?_)
                      refine v_aload_n X 0 dX12_expression_258 rfl rfl ?_
                      refine v_bipush X dX12_expression_259 (by decide) ?_
                      refine v_callV X [.int (iz 9)] hRm (c_X12_is _ _ _ hS 9 ⟨by decide, by decide⟩ (show 0 ≤ (My 53 11) ∧ (My 53 11) < 403 by omega)) (gV bw_20_18 bw_20_19 bw_20_20 bw_1_5 bw_20_21) rfl ddX12_is (by decide) (Std.lt hS rfl) (Std.k hS rfl rfl) ⟨rfl, by decide⟩ (Nat.le_of_ble_eq_true rfl) dX12_expression_261 (k_pB (fun b94 => ?_) (fun b94 => ?_))
                      · skip
                        replace b94 : My 56 (My 53 11) = 9 := b94.2
                        refine v_if_ne X 276 dX12_expression_264 (by decide) ⟨by decide, by decide⟩ (fun _ => ?_) (fun q => absurd (by decide) q)
                        refine v_iconst X dX12_expression_276 ?_
                        refine v_goto X 281 dX12_expression_277 (by decide) ?_
                        refine v_istore_n X [(2, .int (iz 1)), (0, .ref (ad 53)), (1, .int (iz (M 53 12)))] dX12_expression_281 rfl (by decide) rfl ?_
                        refine v_iload_n X 0 dX12_expression_282 rfl rfl ?_
                        refine v_if_ne X 305 dX12_expression_283 (by decide) ⟨by decide, by decide⟩ (fun _ => ?_) (fun q => absurd (by decide) q)
                        refine v_aload_n X 1 dX12_expression_305 rfl rfl ?_
                        refine gt_X12_tKind X iwX12 (Std.lt hS rfl) (Std.k hS rfl rfl) (List.mem_cons_of_mem _ bw_7_16) dX12_expression_306 56 (Std.r hS 5 rfl) ?_
                        refine v_aload_n X 1 dX12_expression_309 rfl rfl ?_
                        refine gt_X12_t X iwX12 (Std.lt hS rfl) (Std.k hS rfl rfl) (List.mem_cons_of_mem _ bw_19_11) dX12_expression_310 (My 53 11) rfl (fun hr95 => ?_)
                        refine v_iald X (My 56 (My 53 11)) (Std.lt hS rfl) (Std.at hS rfl rfl) (by omega) (by omega) dX12_expression_313 rfl (fun hr96 => ?_)
                        refine v_istore X [(4, .int (iz (My 56 (My 53 11)))), (2, .int (iz 1)), (0, .ref (ad 53)), (1, .int (iz (M 53 12)))] dX12_expression_314 (by decide) rfl ?_
                        refine v_aload_n X 2 dX12_expression_316 rfl rfl ?_
                        refine v_iload X 0 dX12_expression_317 rfl ?_
                        refine v_bipush X dX12_expression_319 (by decide) ?_
                        refine v_icmp_ne X 328 dX12_expression_321 (by decide) ⟨by omega, by omega⟩ ⟨by decide, by decide⟩ (fun u97 => ?_) (fun q => absurd (by omega) q)
                        refine v_iconst X dX12_expression_328 ?_
                        refine v_callV X [.int (iz 0)] hRm (c_X12_comesOut _ _ _ hS 0 (by decide) w3 (show rep (My 75) w3 from bE.2.2.1) (show (My 53 36) = (w3.length : Int) by omega) (by omega) (show 0 ≤ (My 53 32) ∧ (My 53 32) + (w3.length : Int) ≤ 1000 by omega)) (gV bw_21_19 bw_21_20 bw_21_21 bw_1_5 bw_21_22) rfl ddX12_comesOut (by decide) (Std.lt hS rfl) (Std.k hS rfl rfl) ⟨rfl, by decide⟩ (Nat.le_of_ble_eq_true rfl) dX12_expression_329 (k_eV (fun M98 e99 => ?_))
                        have e99L := mp_len (tm := 0) (w := w3) (z := (My 53 32))
                        have e9932 : M98 53 32 = mpZ 0 w3 (My 53 32) := e99.2.1
                        have e9911 := e99.2.2.2.2.2 11 (by decide) (by decide)
                        have e9912 := e99.2.2.2.2.2 12 (by decide) (by decide)
                        have e9913 := e99.2.2.2.2.2 13 (by decide) (by decide)
                        have e9914 := e99.2.2.2.2.2 14 (by decide) (by decide)
                        have e9975 := e99.2.2.2.2.1 75 (by decide) (by decide) (by decide)
                        have e9936 := e99.1
                        replace e9911 : M98 53 11 = (My 53 11) := e9911
                        replace e9912 : M98 53 12 = (My 53 12) := e9912
                        replace e9913 : M98 53 13 = (My 53 13) := e9913
                        replace e9914 : M98 53 14 = (My 53 14) := e9914
                        replace e9975 : M98 75 = My 75 := e9975
                        refine v_aload_n X 2 dX12_expression_332 rfl rfl ?_
                        refine gt_X12_waits X iwX12 (Std.lt hS rfl) (Std.k hS rfl rfl) (List.mem_cons_of_mem _ bw_8_13) dX12_expression_333 75 (Std.r hS 35 rfl) ?_
                        refine v_aload_n X 2 dX12_expression_336 rfl rfl ?_
                        refine gt_X12_waiting X iwX12 (Std.lt hS rfl) (Std.k hS rfl rfl) (List.mem_cons_of_mem _ bw_21_14) dX12_expression_337 (M98 53 36) rfl (fun hr100 => ?_)
                        refine v_iload X 0 dX12_expression_340 rfl ?_
                        refine v_iast X (Std.lt hS rfl) (Std.at hS rfl rfl) (by omega) (by omega) ⟨by omega, by omega⟩ dX12_expression_342 ?_
                        refine v_aload_n X 2 dX12_expression_343 rfl rfl ?_
                        refine v_dup X dX12_expression_344 rfl ?_
                        refine gt_X12_waiting X iwX12 (Std.lt hS rfl) (Std.k hS rfl rfl) (List.mem_cons_of_mem _ bw_21_14) dX12_expression_345 (M98 53 36) rfl (fun hr101 => ?_)
                        refine v_iconst X dX12_expression_348 ?_
                        refine v_iadd X dX12_expression_349 ?_
                        refine pt_X12_waiting X iwX12 (Std.lt hS rfl) (Std.k hS rfl rfl) (List.mem_cons_of_mem _ bw_21_14) ⟨by omega, by omega⟩ dX12_expression_350 ?_
                        refine v_aload_n X 2 dX12_expression_353 rfl rfl ?_
                        refine v_callV X [] hRm (c_X12_next _ _ _ hS (show 0 ≤ (M98 53 11) ∧ (M98 53 11) ≤ 400 by omega)) (gV bw_21_6 bw_21_7 bw_21_8 bw_1_5 bw_21_9) rfl ddX12_next (by decide) (Std.lt hS rfl) (Std.k hS rfl rfl) ⟨rfl, by decide⟩ (Nat.le_of_ble_eq_true rfl) dX12_expression_354 (k_eV (fun M102 e103 => ?_))
                        by_cases ht104 : (M98 53 11) = 400
                        · skip
                          replace e103 : M102 = (mu (mu (mu (mu M98 75 (M98 53 36) (My 56 (My 53 11))) 53 36 ((M98 53 36) + 1)) 53 13 2) 53 14 (M98 57 (M98 53 11))) := e103.trans (mNext_full (show (M98 53 11) = 400 from ht104) (show ¬ 0 < (M98 53 13) by omega))
                          subst e103
                          have fl105 : FlT (bt f n) n c0 (mu (mu (mu (mu M98 75 (M98 53 36) (My 56 (My 53 11))) 53 36 ((M98 53 36) + 1)) 53 13 2) 53 14 (M98 57 (M98 53 11))) := ES_fl bE (Or.inr ⟨rfl, Or.inr (Or.inr (Or.inr ⟨by decide, Or.inl (by omega)⟩)), Or.inl (by omega)⟩) rfl (show (M98 57 (M98 53 11)) = _ by rw [show M98 57 = My 57 from e99.2.2.2.2.1 57 (by decide) (by decide) (by decide), show M98 53 11 = My 53 11 by omega]; exact bP) (show 0 ≤ (M98 53 11) ∧ (M98 53 11) ≤ 400 by omega)
                          refine v_goto X 12 dX12_expression_357 (by decide) ?_
                          refine v_iload_n X 1 dX12_expression_12 rfl rfl ?_
                          refine v_if_eq X 360 dX12_expression_13 (by decide) ⟨by decide, by decide⟩ (fun q => absurd q (by decide)) (fun _ => ?_)
                          refine v_aload_n X 2 dX12_expression_16 rfl rfl ?_
                          refine gt_X12_fault X iwX12 (Std.lt hS rfl) (Std.k hS rfl rfl) (List.mem_cons_of_mem _ bw_19_13) dX12_expression_17 2 rfl (fun hr106 => ?_)
                          refine v_if_ne X 360 dX12_expression_20 (by decide) ⟨by decide, by decide⟩ (fun _ => ?_) (fun q => absurd (by decide) q)
                          refine hret _ _ _ _ _ _ _ _ _ _ _ none dX12_expression_360 ⟨rfl, rfl⟩ (by decide) (by decide) (fun hmok => ?_)
                          exact ⟨rfl, rfl, rfl, rfl, rfl, rfl, Or.inl fl105, (frE_trans (frE_trans bf (coP_fr (lo := mz0) (hi := (mz0 + 401 - cz0)) e99 (show mz0 ≤ (My 53 32) by omega) (show (My 53 32) + (w3.length : Int) ≤ (mz0 + 401 - cz0) by omega)) (Int.le_refl _) (Int.le_refl _) (Int.le_refl _) (Int.le_refl _)) ⟨fun i i1 i2 i3 i4 => (by rw [mu_i _ _ _ i1, mu_i _ _ _ i1, mu_i _ _ _ i1, mu_i _ _ _ i4]), fun z z1 z2 z3 z4 z5 z6 => (by rw [mu_z _ _ _ z4, mu_z _ _ _ z3, mu_z _ _ _ z6, mu_i _ _ _ (by decide)]), fun z hz => ⟨(by rw [mu_i _ _ _ (by decide), mu_i _ _ _ (by decide), mu_i _ _ _ (by decide), mu_i _ _ _ (by decide)]), (by rw [mu_i _ _ _ (by decide), mu_i _ _ _ (by decide), mu_i _ _ _ (by decide), mu_i _ _ _ (by decide)])⟩⟩ (Int.le_refl _) (Int.le_refl _) (Int.le_refl _) (Int.le_refl _))⟩
                        · skip
                          replace e103 : M102 = (mu (mu (mu M98 75 (M98 53 36) (My 56 (My 53 11))) 53 36 ((M98 53 36) + 1)) 53 11 ((M98 53 11) + 1)) := e103.trans (mNext_go (show (M98 53 11) ≠ 400 from ht104))
                          subst e103
                          refine v_goto X 12 dX12_expression_357 (by decide) ?_
                          refine v_lv [2, 3, 1] rfl ?_
                          exact ih3 (mu (mu (mu M98 75 (M98 53 36) (My 56 (My 53 11))) 53 36 ((M98 53 36) + 1)) 53 11 ((M98 53 11) + 1)) (t3 + 1) (9 :: mpW 0 w3) (k3 + (w3.length - (mpW 0 w3).length)) (rlD (rkI (kdT (bt f n) n t3)) (w3.map cOf ++ wt0) (cz0 + (k3 : Int)) cd3) ((ES_op (x := 9) (tm := 0) bE H (by omega) (by decide) (by decide) (by omega) (show M98 53 11 + 1 = _ by omega) (show M98 53 12 = _ by omega) (show M98 53 13 = 0 by omega) (show M98 53 32 = _ from e99.2.1) (show M98 53 36 + 1 = _ by omega) (by rw [← e9936, ← e9975, show (9 : Int) = My 56 (My 53 11) by omega]; rfl) (show M98 73 = _ from e99.2.2.1) (show M98 74 = _ from e99.2.2.2.1))) (by omega) ((frE_trans (frE_trans bf (coP_fr (lo := mz0) (hi := (mz0 + 401 - cz0)) e99 (show mz0 ≤ (My 53 32) by omega) (show (My 53 32) + (w3.length : Int) ≤ (mz0 + 401 - cz0) by omega)) (Int.le_refl _) (Int.le_refl _) (Int.le_refl _) (Int.le_refl _)) ⟨fun i i1 i2 i3 i4 => (by rw [mu_i _ _ _ i1, mu_i _ _ _ i1, mu_i _ _ _ i4]), fun z z1 z2 z3 z4 z5 z6 => (by rw [mu_z _ _ _ z1, mu_z _ _ _ z6, mu_i _ _ _ (by decide)]), fun z hz => ⟨(by rw [mu_i _ _ _ (by decide), mu_i _ _ _ (by decide), mu_i _ _ _ (by decide)]), (by rw [mu_i _ _ _ (by decide), mu_i _ _ _ (by decide), mu_i _ _ _ (by decide)])⟩⟩ (Int.le_refl _) (Int.le_refl _) (Int.le_refl _) (Int.le_refl _))) (by omega)
                      · skip
                        replace b94 : ¬ My 56 (My 53 11) = 9 := fun z => b94 ⟨b13, z⟩
                        refine v_if_ne X 276 dX12_expression_264 (by decide) ⟨by decide, by decide⟩ (fun q => absurd q (by decide)) (fun _ => ?_)
                        refine v_aload_n X 0 dX12_expression_267 rfl rfl ?_
                        refine v_bipush X dX12_expression_268 (by decide) ?_
                        refine v_callV X [.int (iz 10)] hRm (c_X12_is _ _ _ hS 10 ⟨by decide, by decide⟩ (show 0 ≤ (My 53 11) ∧ (My 53 11) < 403 by omega)) (gV bw_20_18 bw_20_19 bw_20_20 bw_1_5 bw_20_21) rfl ddX12_is (by decide) (Std.lt hS rfl) (Std.k hS rfl rfl) ⟨rfl, by decide⟩ (Nat.le_of_ble_eq_true rfl) dX12_expression_270 (k_pB (fun b107 => ?_) (fun b107 => ?_))
                        · skip
                          replace b107 : My 56 (My 53 11) = 10 := b107.2
                          refine v_if_eq X 280 dX12_expression_273 (by decide) ⟨by decide, by decide⟩ (fun q => absurd q (by decide)) (fun _ => ?_)
                          refine v_iconst X dX12_expression_276 ?_
                          refine v_goto X 281 dX12_expression_277 (by decide) ?_
                          refine v_istore_n X [(2, .int (iz 1)), (0, .ref (ad 53)), (1, .int (iz (M 53 12)))] dX12_expression_281 rfl (by decide) rfl ?_
                          refine v_iload_n X 0 dX12_expression_282 rfl rfl ?_
                          refine v_if_ne X 305 dX12_expression_283 (by decide) ⟨by decide, by decide⟩ (fun _ => ?_) (fun q => absurd (by decide) q)
                          refine v_aload_n X 1 dX12_expression_305 rfl rfl ?_
                          refine gt_X12_tKind X iwX12 (Std.lt hS rfl) (Std.k hS rfl rfl) (List.mem_cons_of_mem _ bw_7_16) dX12_expression_306 56 (Std.r hS 5 rfl) ?_
                          refine v_aload_n X 1 dX12_expression_309 rfl rfl ?_
                          refine gt_X12_t X iwX12 (Std.lt hS rfl) (Std.k hS rfl rfl) (List.mem_cons_of_mem _ bw_19_11) dX12_expression_310 (My 53 11) rfl (fun hr108 => ?_)
                          refine v_iald X (My 56 (My 53 11)) (Std.lt hS rfl) (Std.at hS rfl rfl) (by omega) (by omega) dX12_expression_313 rfl (fun hr109 => ?_)
                          refine v_istore X [(4, .int (iz (My 56 (My 53 11)))), (2, .int (iz 1)), (0, .ref (ad 53)), (1, .int (iz (M 53 12)))] dX12_expression_314 (by decide) rfl ?_
                          refine v_aload_n X 2 dX12_expression_316 rfl rfl ?_
                          refine v_iload X 0 dX12_expression_317 rfl ?_
                          refine v_bipush X dX12_expression_319 (by decide) ?_
                          refine v_icmp_ne X 328 dX12_expression_321 (by decide) ⟨by omega, by omega⟩ ⟨by decide, by decide⟩ (fun q => absurd q (by omega)) (fun u110 => ?_)
                          refine v_iconst X dX12_expression_324 ?_
                          refine v_goto X 329 dX12_expression_325 (by decide) ?_
                          refine v_callV X [.int (iz 1)] hRm (c_X12_comesOut _ _ _ hS 1 (by decide) w3 (show rep (My 75) w3 from bE.2.2.1) (show (My 53 36) = (w3.length : Int) by omega) (by omega) (show 0 ≤ (My 53 32) ∧ (My 53 32) + (w3.length : Int) ≤ 1000 by omega)) (gV bw_21_19 bw_21_20 bw_21_21 bw_1_5 bw_21_22) rfl ddX12_comesOut (by decide) (Std.lt hS rfl) (Std.k hS rfl rfl) ⟨rfl, by decide⟩ (Nat.le_of_ble_eq_true rfl) dX12_expression_329 (k_eV (fun M111 e112 => ?_))
                          have e112L := mp_len (tm := 1) (w := w3) (z := (My 53 32))
                          have e11232 : M111 53 32 = mpZ 1 w3 (My 53 32) := e112.2.1
                          have e11211 := e112.2.2.2.2.2 11 (by decide) (by decide)
                          have e11212 := e112.2.2.2.2.2 12 (by decide) (by decide)
                          have e11213 := e112.2.2.2.2.2 13 (by decide) (by decide)
                          have e11214 := e112.2.2.2.2.2 14 (by decide) (by decide)
                          have e11275 := e112.2.2.2.2.1 75 (by decide) (by decide) (by decide)
                          have e11236 := e112.1
                          replace e11211 : M111 53 11 = (My 53 11) := e11211
                          replace e11212 : M111 53 12 = (My 53 12) := e11212
                          replace e11213 : M111 53 13 = (My 53 13) := e11213
                          replace e11214 : M111 53 14 = (My 53 14) := e11214
                          replace e11275 : M111 75 = My 75 := e11275
                          refine v_aload_n X 2 dX12_expression_332 rfl rfl ?_
                          refine gt_X12_waits X iwX12 (Std.lt hS rfl) (Std.k hS rfl rfl) (List.mem_cons_of_mem _ bw_8_13) dX12_expression_333 75 (Std.r hS 35 rfl) ?_
                          refine v_aload_n X 2 dX12_expression_336 rfl rfl ?_
                          refine gt_X12_waiting X iwX12 (Std.lt hS rfl) (Std.k hS rfl rfl) (List.mem_cons_of_mem _ bw_21_14) dX12_expression_337 (M111 53 36) rfl (fun hr113 => ?_)
                          refine v_iload X 0 dX12_expression_340 rfl ?_
                          refine v_iast X (Std.lt hS rfl) (Std.at hS rfl rfl) (by omega) (by omega) ⟨by omega, by omega⟩ dX12_expression_342 ?_
                          refine v_aload_n X 2 dX12_expression_343 rfl rfl ?_
                          refine v_dup X dX12_expression_344 rfl ?_
                          refine gt_X12_waiting X iwX12 (Std.lt hS rfl) (Std.k hS rfl rfl) (List.mem_cons_of_mem _ bw_21_14) dX12_expression_345 (M111 53 36) rfl (fun hr114 => ?_)
                          refine v_iconst X dX12_expression_348 ?_
                          refine v_iadd X dX12_expression_349 ?_
                          refine pt_X12_waiting X iwX12 (Std.lt hS rfl) (Std.k hS rfl rfl) (List.mem_cons_of_mem _ bw_21_14) ⟨by omega, by omega⟩ dX12_expression_350 ?_
                          refine v_aload_n X 2 dX12_expression_353 rfl rfl ?_
                          refine v_callV X [] hRm (c_X12_next _ _ _ hS (show 0 ≤ (M111 53 11) ∧ (M111 53 11) ≤ 400 by omega)) (gV bw_21_6 bw_21_7 bw_21_8 bw_1_5 bw_21_9) rfl ddX12_next (by decide) (Std.lt hS rfl) (Std.k hS rfl rfl) ⟨rfl, by decide⟩ (Nat.le_of_ble_eq_true rfl) dX12_expression_354 (k_eV (fun M115 e116 => ?_))
                          by_cases ht117 : (M111 53 11) = 400
                          · skip
                            replace e116 : M115 = (mu (mu (mu (mu M111 75 (M111 53 36) (My 56 (My 53 11))) 53 36 ((M111 53 36) + 1)) 53 13 2) 53 14 (M111 57 (M111 53 11))) := e116.trans (mNext_full (show (M111 53 11) = 400 from ht117) (show ¬ 0 < (M111 53 13) by omega))
                            subst e116
                            have fl118 : FlT (bt f n) n c0 (mu (mu (mu (mu M111 75 (M111 53 36) (My 56 (My 53 11))) 53 36 ((M111 53 36) + 1)) 53 13 2) 53 14 (M111 57 (M111 53 11))) := ES_fl bE (Or.inr ⟨rfl, Or.inr (Or.inr (Or.inr ⟨by decide, Or.inl (by omega)⟩)), Or.inl (by omega)⟩) rfl (show (M111 57 (M111 53 11)) = _ by rw [show M111 57 = My 57 from e112.2.2.2.2.1 57 (by decide) (by decide) (by decide), show M111 53 11 = My 53 11 by omega]; exact bP) (show 0 ≤ (M111 53 11) ∧ (M111 53 11) ≤ 400 by omega)
                            refine v_goto X 12 dX12_expression_357 (by decide) ?_
                            refine v_iload_n X 1 dX12_expression_12 rfl rfl ?_
                            refine v_if_eq X 360 dX12_expression_13 (by decide) ⟨by decide, by decide⟩ (fun q => absurd q (by decide)) (fun _ => ?_)
                            refine v_aload_n X 2 dX12_expression_16 rfl rfl ?_
                            refine gt_X12_fault X iwX12 (Std.lt hS rfl) (Std.k hS rfl rfl) (List.mem_cons_of_mem _ bw_19_13) dX12_expression_17 2 rfl (fun hr119 => ?_)
                            refine v_if_ne X 360 dX12_expression_20 (by decide) ⟨by decide, by decide⟩ (fun _ => ?_) (fun q => absurd (by decide) q)
                            refine hret _ _ _ _ _ _ _ _ _ _ _ none dX12_expression_360 ⟨rfl, rfl⟩ (by decide) (by decide) (fun hmok => ?_)
                            exact ⟨rfl, rfl, rfl, rfl, rfl, rfl, Or.inl fl118, (frE_trans (frE_trans bf (coP_fr (lo := mz0) (hi := (mz0 + 401 - cz0)) e112 (show mz0 ≤ (My 53 32) by omega) (show (My 53 32) + (w3.length : Int) ≤ (mz0 + 401 - cz0) by omega)) (Int.le_refl _) (Int.le_refl _) (Int.le_refl _) (Int.le_refl _)) ⟨fun i i1 i2 i3 i4 => (by rw [mu_i _ _ _ i1, mu_i _ _ _ i1, mu_i _ _ _ i1, mu_i _ _ _ i4]), fun z z1 z2 z3 z4 z5 z6 => (by rw [mu_z _ _ _ z4, mu_z _ _ _ z3, mu_z _ _ _ z6, mu_i _ _ _ (by decide)]), fun z hz => ⟨(by rw [mu_i _ _ _ (by decide), mu_i _ _ _ (by decide), mu_i _ _ _ (by decide), mu_i _ _ _ (by decide)]), (by rw [mu_i _ _ _ (by decide), mu_i _ _ _ (by decide), mu_i _ _ _ (by decide), mu_i _ _ _ (by decide)])⟩⟩ (Int.le_refl _) (Int.le_refl _) (Int.le_refl _) (Int.le_refl _))⟩
                          · skip
                            replace e116 : M115 = (mu (mu (mu M111 75 (M111 53 36) (My 56 (My 53 11))) 53 36 ((M111 53 36) + 1)) 53 11 ((M111 53 11) + 1)) := e116.trans (mNext_go (show (M111 53 11) ≠ 400 from ht117))
                            subst e116
                            refine v_goto X 12 dX12_expression_357 (by decide) ?_
                            refine v_lv [2, 3, 1] rfl ?_
                            exact ih3 (mu (mu (mu M111 75 (M111 53 36) (My 56 (My 53 11))) 53 36 ((M111 53 36) + 1)) 53 11 ((M111 53 11) + 1)) (t3 + 1) (10 :: mpW 1 w3) (k3 + (w3.length - (mpW 1 w3).length)) (rlD (rkI (kdT (bt f n) n t3)) (w3.map cOf ++ wt0) (cz0 + (k3 : Int)) cd3) ((ES_op (x := 10) (tm := 1) bE H (by omega) (by decide) (by decide) (by omega) (show M111 53 11 + 1 = _ by omega) (show M111 53 12 = _ by omega) (show M111 53 13 = 0 by omega) (show M111 53 32 = _ from e112.2.1) (show M111 53 36 + 1 = _ by omega) (by rw [← e11236, ← e11275, show (10 : Int) = My 56 (My 53 11) by omega]; rfl) (show M111 73 = _ from e112.2.2.1) (show M111 74 = _ from e112.2.2.2.1))) (by omega) ((frE_trans (frE_trans bf (coP_fr (lo := mz0) (hi := (mz0 + 401 - cz0)) e112 (show mz0 ≤ (My 53 32) by omega) (show (My 53 32) + (w3.length : Int) ≤ (mz0 + 401 - cz0) by omega)) (Int.le_refl _) (Int.le_refl _) (Int.le_refl _) (Int.le_refl _)) ⟨fun i i1 i2 i3 i4 => (by rw [mu_i _ _ _ i1, mu_i _ _ _ i1, mu_i _ _ _ i4]), fun z z1 z2 z3 z4 z5 z6 => (by rw [mu_z _ _ _ z1, mu_z _ _ _ z6, mu_i _ _ _ (by decide)]), fun z hz => ⟨(by rw [mu_i _ _ _ (by decide), mu_i _ _ _ (by decide), mu_i _ _ _ (by decide)]), (by rw [mu_i _ _ _ (by decide), mu_i _ _ _ (by decide), mu_i _ _ _ (by decide)])⟩⟩ (Int.le_refl _) (Int.le_refl _) (Int.le_refl _) (Int.le_refl _))) (by omega)
                        · skip
                          replace b107 : ¬ My 56 (My 53 11) = 10 := fun z => b107 ⟨b13, z⟩
                          refine v_if_eq X 280 dX12_expression_273 (by decide) ⟨by decide, by decide⟩ (fun _ => ?_) (fun q => absurd (by decide) q)
                          refine v_iconst X dX12_expression_280 ?_
                          refine v_istore_n X [(2, .int (iz 0)), (0, .ref (ad 53)), (1, .int (iz (M 53 12)))] dX12_expression_281 rfl (by decide) rfl ?_
                          refine v_iload_n X 0 dX12_expression_282 rfl rfl ?_
                          refine v_if_ne X 305 dX12_expression_283 (by decide) ⟨by decide, by decide⟩ (fun q => absurd q (by decide)) (fun _ => ?_)
                          refine v_aload_n X 1 dX12_expression_286 rfl rfl ?_
                          refine gt_X12_open X iwX12 (Std.lt hS rfl) (Std.k hS rfl rfl) (List.mem_cons_of_mem _ bw_19_12) dX12_expression_287 (My 53 12) rfl (fun hr120 => ?_)
                          refine v_iload_n X 2 dX12_expression_290 rfl rfl ?_
                          refine v_icmp_le X 299 dX12_expression_291 (by decide) ⟨by omega, by omega⟩ ⟨by omega, by omega⟩ (fun u121 => ?_) (fun u121 => ?_)
                          · skip
                            refine v_aload_n X 1 dX12_expression_299 rfl rfl ?_
                            refine v_iconst X dX12_expression_300 ?_
                            refine v_callV X [.int (iz 0)] hRm (c_X12_comesOut _ _ _ hS 0 (by decide) w3 (show rep (My 75) w3 from bE.2.2.1) (show (My 53 36) = (w3.length : Int) by omega) (by omega) (show 0 ≤ (My 53 32) ∧ (My 53 32) + (w3.length : Int) ≤ 1000 by omega)) (gV bw_21_19 bw_21_20 bw_21_21 bw_1_5 bw_21_22) rfl ddX12_comesOut (by decide) (Std.lt hS rfl) (Std.k hS rfl rfl) ⟨rfl, by decide⟩ (Nat.le_of_ble_eq_true rfl) dX12_expression_301 (k_eV (fun M122 e123 => ?_))
                            have e123L := mp_len (tm := 0) (w := w3) (z := (My 53 32))
                            have e12332 : M122 53 32 = mpZ 0 w3 (My 53 32) := e123.2.1
                            have e12311 := e123.2.2.2.2.2 11 (by decide) (by decide)
                            have e12312 := e123.2.2.2.2.2 12 (by decide) (by decide)
                            have e12313 := e123.2.2.2.2.2 13 (by decide) (by decide)
                            have e12314 := e123.2.2.2.2.2 14 (by decide) (by decide)
                            have e12375 := e123.2.2.2.2.1 75 (by decide) (by decide) (by decide)
                            have e12336 := e123.1
                            replace e12311 : M122 53 11 = (My 53 11) := e12311
                            replace e12312 : M122 53 12 = (My 53 12) := e12312
                            replace e12313 : M122 53 13 = (My 53 13) := e12313
                            replace e12314 : M122 53 14 = (My 53 14) := e12314
                            replace e12375 : M122 75 = My 75 := e12375
                            refine hret _ _ _ _ _ _ _ _ _ _ _ none dX12_expression_304 ⟨rfl, rfl⟩ (by decide) (by decide) (fun hmok => ?_)
                            exact ⟨rfl, rfl, rfl, rfl, rfl, rfl, Or.inr ⟨t3, by omega, ES_end bE H (by omega) (by omega) (show M122 53 11 = _ by omega) (show M122 53 12 = _ by omega) (show M122 53 13 = 0 by omega) e123.2.1 e123.2.2.1 e123.2.2.2.1⟩, (frE_trans bf (coP_fr (lo := mz0) (hi := (mz0 + 401 - cz0)) e123 (show mz0 ≤ (My 53 32) by omega) (show (My 53 32) + (w3.length : Int) ≤ (mz0 + 401 - cz0) by omega)) (Int.le_refl _) (Int.le_refl _) (Int.le_refl _) (Int.le_refl _))⟩
                          · skip
                            refine v_aload_n X 1 dX12_expression_294 rfl rfl ?_
                            refine v_iconst X dX12_expression_295 ?_
                            refine v_callV X [.int (iz 1)] hRm (c_X12_fail _ _ _ hS 1 ⟨by decide, by decide⟩ (show 0 ≤ (My 53 11) ∧ (My 53 11) < 403 by omega)) (gV bw_21_2 bw_21_3 bw_21_4 bw_1_5 bw_21_5) rfl ddX12_fail (by decide) (Std.lt hS rfl) (Std.k hS rfl rfl) ⟨rfl, by decide⟩ (Nat.le_of_ble_eq_true rfl) dX12_expression_296 (k_eV (fun M124 e125 => ?_))
                            replace e125 : M124 = (mu (mu My 53 13 1) 53 14 (My 57 (My 53 11))) := e125.trans (mFail_n (show ¬ 0 < (My 53 13) by omega))
                            subst e125
                            have fl126 : FlT (bt f n) n c0 (mu (mu My 53 13 1) 53 14 (My 57 (My 53 11))) := ES_fl bE (Or.inl ⟨rfl, fun z => by rw [goW_3 (by decide) (by decide) (by decide), goU_d (by omega) (by omega)] at z; omega, by decide⟩) rfl (show (My 57 (My 53 11)) = _ by exact bP) (show 0 ≤ (My 53 11) ∧ (My 53 11) ≤ 400 by omega)
                            refine v_aload_n X 1 dX12_expression_299 rfl rfl ?_
                            refine v_iconst X dX12_expression_300 ?_
                            refine v_callV X [.int (iz 0)] hRm (c_X12_comesOut _ _ _ hS 0 (by decide) w3 (show rep (My 75) w3 from bE.2.2.1) (show (My 53 36) = (w3.length : Int) by omega) (by omega) (show 0 ≤ (My 53 32) ∧ (My 53 32) + (w3.length : Int) ≤ 1000 by omega)) (gV bw_21_19 bw_21_20 bw_21_21 bw_1_5 bw_21_22) rfl ddX12_comesOut (by decide) (Std.lt hS rfl) (Std.k hS rfl rfl) ⟨rfl, by decide⟩ (Nat.le_of_ble_eq_true rfl) dX12_expression_301 (k_eV (fun M127 e128 => ?_))
                            have e128L := mp_len (tm := 0) (w := w3) (z := (My 53 32))
                            have e12832 : M127 53 32 = mpZ 0 w3 (My 53 32) := e128.2.1
                            have e12811 := e128.2.2.2.2.2 11 (by decide) (by decide)
                            have e12812 := e128.2.2.2.2.2 12 (by decide) (by decide)
                            have e12813 := e128.2.2.2.2.2 13 (by decide) (by decide)
                            have e12814 := e128.2.2.2.2.2 14 (by decide) (by decide)
                            have e12875 := e128.2.2.2.2.1 75 (by decide) (by decide) (by decide)
                            have e12836 := e128.1
                            replace e12811 : M127 53 11 = (My 53 11) := e12811
                            replace e12812 : M127 53 12 = (My 53 12) := e12812
                            replace e12813 : M127 53 13 = 1 := e12813
                            replace e12814 : M127 53 14 = (My 57 (My 53 11)) := e12814
                            replace e12875 : M127 75 = My 75 := e12875
                            refine hret _ _ _ _ _ _ _ _ _ _ _ none dX12_expression_304 ⟨rfl, rfl⟩ (by decide) (by decide) (fun hmok => ?_)
                            obtain ⟨t9, F9, f1, f2, f3, f4, f5, f6⟩ := fl126
                            exact ⟨rfl, rfl, rfl, rfl, rfl, rfl, Or.inl ⟨t9, F9, f1, f2, e12813.trans f3, f4, e12814.trans f5, by omega⟩, (frE_trans (frE_trans bf ⟨fun i i1 i2 i3 i4 => (by rw [mu_i _ _ _ i1, mu_i _ _ _ i1]), fun z z1 z2 z3 z4 z5 z6 => (by rw [mu_z _ _ _ z4, mu_z _ _ _ z3]), fun z hz => ⟨(by rw [mu_i _ _ _ (by decide), mu_i _ _ _ (by decide)]), (by rw [mu_i _ _ _ (by decide), mu_i _ _ _ (by decide)])⟩⟩ (Int.le_refl _) (Int.le_refl _) (Int.le_refl _) (Int.le_refl _)) (coP_fr (lo := mz0) (hi := (mz0 + 401 - cz0)) e128 (show mz0 ≤ (My 53 32) by omega) (show (My 53 32) + (w3.length : Int) ≤ (mz0 + 401 - cz0) by omega)) (Int.le_refl _) (Int.le_refl _) (Int.le_refl _) (Int.le_refl _))⟩
              refine v_lv [1, 2, 3] rfl ?_
              exact hl51 _ (mu (mu (mu (mu Mx 73 (Mx 53 32) 0) 74 (Mx 53 32) (Mx 58 (Mx 53 11))) 53 32 ((Mx 53 32) + 1)) 53 11 ((Mx 53 11) + 1)) (t2 + 1) w2 (k2 + 1) (fu cd2 (cz0 + (k2 : Int)) (toC 0 (Mx 58 (Mx 53 11)))) (ES_unit (op := 0) (arg := (Mx 58 (Mx 53 11))) aE H (Or.inl ⟨by omega, rfl, aV (by omega), by have := vlT_in (f := f) (n := n) (t := t2) (by omega); have := aV (by omega); omega⟩) (by omega) (show Mx 53 11 + 1 = _ by omega) rfl (show Mx 53 13 = 0 by omega) rfl rfl rfl rfl rfl) (by omega) ((frE_trans af ⟨fun i i1 i2 i3 i4 => (by rw [mu_i _ _ _ i1, mu_i _ _ _ i1, mu_i _ _ _ i3, mu_i _ _ _ i2]), fun z z1 z2 z3 z4 z5 z6 => (by rw [mu_z _ _ _ z1, mu_z _ _ _ z5, mu_i _ _ _ (by decide), mu_i _ _ _ (by decide)]), fun z hz => ⟨(by rw [mu_i _ _ _ (by decide), mu_i _ _ _ (by decide), mu_i _ _ _ (by decide), mu_z _ _ _ (by omega)]), (by rw [mu_i _ _ _ (by decide), mu_i _ _ _ (by decide), mu_z _ _ _ (by omega), mu_i _ _ _ (by decide)])⟩⟩ (Int.le_refl _) (Int.le_refl _) (Int.le_refl _) (Int.le_refl _))) (Nat.lt_succ_self _)
          · skip
            replace b32 : ¬ Mx 56 (Mx 53 11) = 2 := fun z => b32 ⟨a13, z⟩
            refine v_if_ne X 150 dX12_expression_138 (by decide) ⟨by decide, by decide⟩ (fun q => absurd q (by decide)) (fun _ => ?_)
            refine v_iload_n X 0 dX12_expression_141 rfl rfl ?_
            refine v_if_ne X 150 dX12_expression_142 (by decide) ⟨by decide, by decide⟩ (fun q => absurd q (by decide)) (fun _ => ?_)
            refine v_aload_n X 1 dX12_expression_145 rfl rfl ?_
            refine v_iconst X dX12_expression_146 ?_
            refine v_callV X [.int (iz 1)] hRm (c_X12_fail _ _ _ hS 1 ⟨by decide, by decide⟩ (show 0 ≤ (Mx 53 11) ∧ (Mx 53 11) < 403 by omega)) (gV bw_21_2 bw_21_3 bw_21_4 bw_1_5 bw_21_5) rfl ddX12_fail (by decide) (Std.lt hS rfl) (Std.k hS rfl rfl) ⟨rfl, by decide⟩ (Nat.le_of_ble_eq_true rfl) dX12_expression_147 (k_eV (fun M129 e130 => ?_))
            replace e130 : M129 = (mu (mu Mx 53 13 1) 53 14 (Mx 57 (Mx 53 11))) := e130.trans (mFail_n (show ¬ 0 < (Mx 53 13) by omega))
            subst e130
            have fl131 : FlT (bt f n) n c0 (mu (mu Mx 53 13 1) 53 14 (Mx 57 (Mx 53 11))) := ES_fl aE (Or.inl ⟨rfl, fun z => by rw [goW_2 rfl] at z; omega, by decide⟩) rfl (show (Mx 57 (Mx 53 11)) = _ by exact aP) (show 0 ≤ (Mx 53 11) ∧ (Mx 53 11) ≤ 400 by omega)
            refine v_aload_n X 1 dX12_expression_150 rfl rfl ?_
            refine gt_X12_fault X iwX12 (Std.lt hS rfl) (Std.k hS rfl rfl) (List.mem_cons_of_mem _ bw_19_13) dX12_expression_151 1 rfl (fun hr132 => ?_)
            refine v_if_le X 158 dX12_expression_154 (by decide) ⟨by decide, by decide⟩ (fun q => absurd q (by decide)) (fun _ => ?_)
            refine hret _ _ _ _ _ _ _ _ _ _ _ none dX12_expression_157 ⟨rfl, rfl⟩ (by decide) (by decide) (fun hmok => ?_)
            exact ⟨rfl, rfl, rfl, rfl, rfl, rfl, Or.inl fl131, (frE_trans af ⟨fun i i1 i2 i3 i4 => (by rw [mu_i _ _ _ i1, mu_i _ _ _ i1]), fun z z1 z2 z3 z4 z5 z6 => (by rw [mu_z _ _ _ z4, mu_z _ _ _ z3]), fun z hz => ⟨(by rw [mu_i _ _ _ (by decide), mu_i _ _ _ (by decide)]), (by rw [mu_i _ _ _ (by decide), mu_i _ _ _ (by decide)])⟩⟩ (Int.le_refl _) (Int.le_refl _) (Int.le_refl _) (Int.le_refl _))⟩
        · skip
          refine v_aload_n X 0 dX12_expression_113 rfl rfl ?_
          refine gt_X12_tKind X iwX12 (Std.lt hS rfl) (Std.k hS rfl rfl) (List.mem_cons_of_mem _ bw_7_16) dX12_expression_114 56 (Std.r hS 5 rfl) ?_
          refine v_aload_n X 0 dX12_expression_117 rfl rfl ?_
          refine gt_X12_t X iwX12 (Std.lt hS rfl) (Std.k hS rfl rfl) (List.mem_cons_of_mem _ bw_19_11) dX12_expression_118 (Mx 53 11) rfl (fun hr133 => ?_)
          refine v_iald X (Mx 56 (Mx 53 11)) (Std.lt hS rfl) (Std.at hS rfl rfl) (by omega) (by omega) dX12_expression_121 rfl (fun hr134 => ?_)
          refine v_bipush X dX12_expression_122 (by decide) ?_
          refine v_icmp_gt X 131 dX12_expression_124 (by decide) ⟨by omega, by omega⟩ ⟨by decide, by decide⟩ (fun u135 => ?_) (fun u135 => ?_)
          · skip
            refine v_iconst X dX12_expression_131 ?_
            refine v_istore_n X [(3, .int (iz 0)), (0, .ref (ad 53)), (1, .int (iz (M 53 12))), (2, .int (iz 1))] dX12_expression_132 rfl (by decide) rfl ?_
            refine v_aload_n X 1 dX12_expression_133 rfl rfl ?_
            refine v_iconst X dX12_expression_134 ?_
            refine v_callV X [.int (iz 2)] hRm (c_X12_is _ _ _ hS 2 ⟨by decide, by decide⟩ (show 0 ≤ (Mx 53 11) ∧ (Mx 53 11) < 403 by omega)) (gV bw_20_18 bw_20_19 bw_20_20 bw_1_5 bw_20_21) rfl ddX12_is (by decide) (Std.lt hS rfl) (Std.k hS rfl rfl) ⟨rfl, by decide⟩ (Nat.le_of_ble_eq_true rfl) dX12_expression_135 (k_pB (fun b136 => ?_) (fun b136 => ?_))
            · skip
              replace b136 : Mx 56 (Mx 53 11) = 2 := b136.2
              exfalso; omega
            · skip
              replace b136 : ¬ Mx 56 (Mx 53 11) = 2 := fun z => b136 ⟨a13, z⟩
              refine v_if_ne X 150 dX12_expression_138 (by decide) ⟨by decide, by decide⟩ (fun q => absurd q (by decide)) (fun _ => ?_)
              refine v_iload_n X 0 dX12_expression_141 rfl rfl ?_
              refine v_if_ne X 150 dX12_expression_142 (by decide) ⟨by decide, by decide⟩ (fun q => absurd q (by decide)) (fun _ => ?_)
              refine v_aload_n X 1 dX12_expression_145 rfl rfl ?_
              refine v_iconst X dX12_expression_146 ?_
              refine v_callV X [.int (iz 1)] hRm (c_X12_fail _ _ _ hS 1 ⟨by decide, by decide⟩ (show 0 ≤ (Mx 53 11) ∧ (Mx 53 11) < 403 by omega)) (gV bw_21_2 bw_21_3 bw_21_4 bw_1_5 bw_21_5) rfl ddX12_fail (by decide) (Std.lt hS rfl) (Std.k hS rfl rfl) ⟨rfl, by decide⟩ (Nat.le_of_ble_eq_true rfl) dX12_expression_147 (k_eV (fun M137 e138 => ?_))
              replace e138 : M137 = (mu (mu Mx 53 13 1) 53 14 (Mx 57 (Mx 53 11))) := e138.trans (mFail_n (show ¬ 0 < (Mx 53 13) by omega))
              subst e138
              have fl139 : FlT (bt f n) n c0 (mu (mu Mx 53 13 1) 53 14 (Mx 57 (Mx 53 11))) := ES_fl aE (Or.inl ⟨rfl, fun z => by rw [goW_2 rfl] at z; omega, by decide⟩) rfl (show (Mx 57 (Mx 53 11)) = _ by exact aP) (show 0 ≤ (Mx 53 11) ∧ (Mx 53 11) ≤ 400 by omega)
              refine v_aload_n X 1 dX12_expression_150 rfl rfl ?_
              refine gt_X12_fault X iwX12 (Std.lt hS rfl) (Std.k hS rfl rfl) (List.mem_cons_of_mem _ bw_19_13) dX12_expression_151 1 rfl (fun hr140 => ?_)
              refine v_if_le X 158 dX12_expression_154 (by decide) ⟨by decide, by decide⟩ (fun q => absurd q (by decide)) (fun _ => ?_)
              refine hret _ _ _ _ _ _ _ _ _ _ _ none dX12_expression_157 ⟨rfl, rfl⟩ (by decide) (by decide) (fun hmok => ?_)
              exact ⟨rfl, rfl, rfl, rfl, rfl, rfl, Or.inl fl139, (frE_trans af ⟨fun i i1 i2 i3 i4 => (by rw [mu_i _ _ _ i1, mu_i _ _ _ i1]), fun z z1 z2 z3 z4 z5 z6 => (by rw [mu_z _ _ _ z4, mu_z _ _ _ z3]), fun z hz => ⟨(by rw [mu_i _ _ _ (by decide), mu_i _ _ _ (by decide)]), (by rw [mu_i _ _ _ (by decide), mu_i _ _ _ (by decide)])⟩⟩ (Int.le_refl _) (Int.le_refl _) (Int.le_refl _) (Int.le_refl _))⟩
          · skip
            refine v_iconst X dX12_expression_127 ?_
            refine v_goto X 132 dX12_expression_128 (by decide) ?_
            refine v_istore_n X [(3, .int (iz 1)), (0, .ref (ad 53)), (1, .int (iz (M 53 12))), (2, .int (iz 1))] dX12_expression_132 rfl (by decide) rfl ?_
            refine v_aload_n X 1 dX12_expression_133 rfl rfl ?_
            refine v_iconst X dX12_expression_134 ?_
            refine v_callV X [.int (iz 2)] hRm (c_X12_is _ _ _ hS 2 ⟨by decide, by decide⟩ (show 0 ≤ (Mx 53 11) ∧ (Mx 53 11) < 403 by omega)) (gV bw_20_18 bw_20_19 bw_20_20 bw_1_5 bw_20_21) rfl ddX12_is (by decide) (Std.lt hS rfl) (Std.k hS rfl rfl) ⟨rfl, by decide⟩ (Nat.le_of_ble_eq_true rfl) dX12_expression_135 (k_pB (fun b141 => ?_) (fun b141 => ?_))
            · skip
              replace b141 : Mx 56 (Mx 53 11) = 2 := b141.2
              exfalso; omega
            · skip
              replace b141 : ¬ Mx 56 (Mx 53 11) = 2 := fun z => b141 ⟨a13, z⟩
              refine v_if_ne X 150 dX12_expression_138 (by decide) ⟨by decide, by decide⟩ (fun q => absurd q (by decide)) (fun _ => ?_)
              refine v_iload_n X 0 dX12_expression_141 rfl rfl ?_
              refine v_if_ne X 150 dX12_expression_142 (by decide) ⟨by decide, by decide⟩ (fun _ => ?_) (fun q => absurd (by decide) q)
              refine v_aload_n X 1 dX12_expression_150 rfl rfl ?_
              refine gt_X12_fault X iwX12 (Std.lt hS rfl) (Std.k hS rfl rfl) (List.mem_cons_of_mem _ bw_19_13) dX12_expression_151 (Mx 53 13) rfl (fun hr142 => ?_)
              refine v_if_le X 158 dX12_expression_154 (by decide) ⟨by omega, by omega⟩ (fun u143 => ?_) (fun q => absurd (by omega) q)
              refine v_iload_n X 0 dX12_expression_158 rfl rfl ?_
              refine v_if_eq X 182 dX12_expression_159 (by decide) ⟨by decide, by decide⟩ (fun q => absurd q (by decide)) (fun _ => ?_)
              refine v_aload_n X 1 dX12_expression_162 rfl rfl ?_
              refine v_iconst X dX12_expression_163 ?_
              refine v_aload_n X 1 dX12_expression_164 rfl rfl ?_
              refine gt_X12_tKind X iwX12 (Std.lt hS rfl) (Std.k hS rfl rfl) (List.mem_cons_of_mem _ bw_7_16) dX12_expression_165 56 (Std.r hS 5 rfl) ?_
              refine v_aload_n X 1 dX12_expression_168 rfl rfl ?_
              refine gt_X12_t X iwX12 (Std.lt hS rfl) (Std.k hS rfl rfl) (List.mem_cons_of_mem _ bw_19_11) dX12_expression_169 (Mx 53 11) rfl (fun hr144 => ?_)
              refine v_iald X (Mx 56 (Mx 53 11)) (Std.lt hS rfl) (Std.at hS rfl rfl) (by omega) (by omega) dX12_expression_172 rfl (fun hr145 => ?_)
              refine v_bipush X dX12_expression_173 (by decide) ?_
              refine v_isub X dX12_expression_175 ?_
              refine v_callV X [.int (iz 1), .int (iz ((Mx 56 (Mx 53 11)) - 26))] hRm (c_X12_emit _ _ _ hS 1 ((Mx 56 (Mx 53 11)) - 26) ⟨by decide, by decide⟩ ⟨by omega, by omega⟩ (show 0 ≤ (Mx 53 32) ∧ (Mx 53 32) < 1000 by omega)) (gV bw_21_15 bw_21_16 bw_21_17 bw_1_5 bw_21_18) rfl ddX12_emit (by decide) (Std.lt hS rfl) (Std.k hS rfl rfl) ⟨rfl, by decide⟩ (Nat.le_of_ble_eq_true rfl) dX12_expression_176 (k_eV (fun M147 e146 => ?_))
              replace e146 : M147 = (mu (mu (mu Mx 73 (Mx 53 32) 1) 74 (Mx 53 32) ((Mx 56 (Mx 53 11)) - 26)) 53 32 ((Mx 53 32) + 1)) := e146
              subst e146
              refine v_goto X 196 dX12_expression_179 (by decide) ?_
              refine v_aload_n X 1 dX12_expression_196 rfl rfl ?_
              refine v_callV X [] hRm (c_X12_next _ _ _ hS (show 0 ≤ (Mx 53 11) ∧ (Mx 53 11) ≤ 400 by omega)) (gV bw_21_6 bw_21_7 bw_21_8 bw_1_5 bw_21_9) rfl ddX12_next (by decide) (Std.lt hS rfl) (Std.k hS rfl rfl) ⟨rfl, by decide⟩ (Nat.le_of_ble_eq_true rfl) dX12_expression_197 (k_eV (fun M148 e149 => ?_))
              by_cases ht150 : (Mx 53 11) = 400
              · skip
                replace e149 : M148 = (mu (mu (mu (mu (mu Mx 73 (Mx 53 32) 1) 74 (Mx 53 32) ((Mx 56 (Mx 53 11)) - 26)) 53 32 ((Mx 53 32) + 1)) 53 13 2) 53 14 (Mx 57 (Mx 53 11))) := e149.trans (mNext_full (show (Mx 53 11) = 400 from ht150) (show ¬ 0 < (Mx 53 13) by omega))
                subst e149
                have fl151 : FlT (bt f n) n c0 (mu (mu (mu (mu (mu Mx 73 (Mx 53 32) 1) 74 (Mx 53 32) ((Mx 56 (Mx 53 11)) - 26)) 53 32 ((Mx 53 32) + 1)) 53 13 2) 53 14 (Mx 57 (Mx 53 11))) := ES_fl aE (Or.inr ⟨rfl, Or.inr (Or.inr (Or.inl ⟨rfl, by omega⟩)), Or.inl (by omega)⟩) rfl (show (Mx 57 (Mx 53 11)) = _ by exact aP) (show 0 ≤ (Mx 53 11) ∧ (Mx 53 11) ≤ 400 by omega)
                refine v_aload_n X 1 dX12_expression_200 rfl rfl ?_
                refine v_bipush X dX12_expression_201 (by decide) ?_
                refine v_callV X [.int (iz 7)] hRm (c_X12_is _ _ _ hS 7 ⟨by decide, by decide⟩ (show 0 ≤ (Mx 53 11) ∧ (Mx 53 11) < 403 by omega)) (gV bw_20_18 bw_20_19 bw_20_20 bw_1_5 bw_20_21) rfl ddX12_is (by decide) (Std.lt hS rfl) (Std.k hS rfl rfl) ⟨rfl, by decide⟩ (Nat.le_of_ble_eq_true rfl) dX12_expression_203 (k_pB (fun q => absurd (show 2 = (0 : Int) from q.1) (by omega)) (fun _ => ?_))
                refine v_if_eq X 249 dX12_expression_206 (by decide) ⟨by decide, by decide⟩ (fun _ => ?_) (fun q => absurd (by decide) q)
                refine v_aload_n X 1 dX12_expression_249 rfl rfl ?_
                refine v_bipush X dX12_expression_250 (by decide) ?_
                refine v_callV X [.int (iz 8)] hRm (c_X12_is _ _ _ hS 8 ⟨by decide, by decide⟩ (show 0 ≤ (Mx 53 11) ∧ (Mx 53 11) < 403 by omega)) (gV bw_20_18 bw_20_19 bw_20_20 bw_1_5 bw_20_21) rfl ddX12_is (by decide) (Std.lt hS rfl) (Std.k hS rfl rfl) ⟨rfl, by decide⟩ (Nat.le_of_ble_eq_true rfl) dX12_expression_252 (k_pB (fun q => absurd (show 2 = (0 : Int) from q.1) (by omega)) (fun _ => ?_))
                refine v_if_ne X 276 dX12_expression_255 (by decide) ⟨by decide, by decide⟩ (fun q => absurd q (by decide)) (fun _ => ?_)
                refine v_aload_n X 1 dX12_expression_258 rfl rfl ?_
                refine v_bipush X dX12_expression_259 (by decide) ?_
                refine v_callV X [.int (iz 9)] hRm (c_X12_is _ _ _ hS 9 ⟨by decide, by decide⟩ (show 0 ≤ (Mx 53 11) ∧ (Mx 53 11) < 403 by omega)) (gV bw_20_18 bw_20_19 bw_20_20 bw_1_5 bw_20_21) rfl ddX12_is (by decide) (Std.lt hS rfl) (Std.k hS rfl rfl) ⟨rfl, by decide⟩ (Nat.le_of_ble_eq_true rfl) dX12_expression_261 (k_pB (fun q => absurd (show 2 = (0 : Int) from q.1) (by omega)) (fun _ => ?_))
                refine v_if_ne X 276 dX12_expression_264 (by decide) ⟨by decide, by decide⟩ (fun q => absurd q (by decide)) (fun _ => ?_)
                refine v_aload_n X 1 dX12_expression_267 rfl rfl ?_
                refine v_bipush X dX12_expression_268 (by decide) ?_
                refine v_callV X [.int (iz 10)] hRm (c_X12_is _ _ _ hS 10 ⟨by decide, by decide⟩ (show 0 ≤ (Mx 53 11) ∧ (Mx 53 11) < 403 by omega)) (gV bw_20_18 bw_20_19 bw_20_20 bw_1_5 bw_20_21) rfl ddX12_is (by decide) (Std.lt hS rfl) (Std.k hS rfl rfl) ⟨rfl, by decide⟩ (Nat.le_of_ble_eq_true rfl) dX12_expression_270 (k_pB (fun q => absurd (show 2 = (0 : Int) from q.1) (by omega)) (fun _ => ?_))
                refine v_if_eq X 280 dX12_expression_273 (by decide) ⟨by decide, by decide⟩ (fun _ => ?_) (fun q => absurd (by decide) q)
                refine v_iconst X dX12_expression_280 ?_
                refine v_istore_n X [(2, .int (iz 0)), (3, .int (iz 1)), (0, .ref (ad 53)), (1, .int (iz (M 53 12)))] dX12_expression_281 rfl (by decide) rfl ?_
                refine v_iload_n X 0 dX12_expression_282 rfl rfl ?_
                refine v_if_ne X 305 dX12_expression_283 (by decide) ⟨by decide, by decide⟩ (fun q => absurd q (by decide)) (fun _ => ?_)
                refine v_aload_n X 2 dX12_expression_286 rfl rfl ?_
                refine gt_X12_open X iwX12 (Std.lt hS rfl) (Std.k hS rfl rfl) (List.mem_cons_of_mem _ bw_19_12) dX12_expression_287 (Mx 53 12) rfl (fun hr152 => ?_)
                refine v_iload_n X 3 dX12_expression_290 rfl rfl ?_
                refine v_icmp_le X 299 dX12_expression_291 (by decide) ⟨by omega, by omega⟩ ⟨by omega, by omega⟩ (fun u153 => ?_) (fun u153 => ?_)
                · skip
                  refine v_aload_n X 2 dX12_expression_299 rfl rfl ?_
                  refine v_iconst X dX12_expression_300 ?_
                  refine v_callV X [.int (iz 0)] hRm (c_X12_comesOut _ _ _ hS 0 (by decide) w2 (show rep (Mx 75) w2 from aE.2.2.1) (show (Mx 53 36) = (w2.length : Int) by omega) (by omega) (show 0 ≤ ((Mx 53 32) + 1) ∧ ((Mx 53 32) + 1) + (w2.length : Int) ≤ 1000 by omega)) (gV bw_21_19 bw_21_20 bw_21_21 bw_1_5 bw_21_22) rfl ddX12_comesOut (by decide) (Std.lt hS rfl) (Std.k hS rfl rfl) ⟨rfl, by decide⟩ (Nat.le_of_ble_eq_true rfl) dX12_expression_301 (k_eV (fun M154 e155 => ?_))
                  have e155L := mp_len (tm := 0) (w := w2) (z := ((Mx 53 32) + 1))
                  have e15532 : M154 53 32 = mpZ 0 w2 ((Mx 53 32) + 1) := e155.2.1
                  have e15511 := e155.2.2.2.2.2 11 (by decide) (by decide)
                  have e15512 := e155.2.2.2.2.2 12 (by decide) (by decide)
                  have e15513 := e155.2.2.2.2.2 13 (by decide) (by decide)
                  have e15514 := e155.2.2.2.2.2 14 (by decide) (by decide)
                  have e15575 := e155.2.2.2.2.1 75 (by decide) (by decide) (by decide)
                  have e15536 := e155.1
                  replace e15511 : M154 53 11 = (Mx 53 11) := e15511
                  replace e15512 : M154 53 12 = (Mx 53 12) := e15512
                  replace e15513 : M154 53 13 = 2 := e15513
                  replace e15514 : M154 53 14 = (Mx 57 (Mx 53 11)) := e15514
                  replace e15575 : M154 75 = Mx 75 := e15575
                  refine hret _ _ _ _ _ _ _ _ _ _ _ none dX12_expression_304 ⟨rfl, rfl⟩ (by decide) (by decide) (fun hmok => ?_)
                  obtain ⟨t9, F9, f1, f2, f3, f4, f5, f6⟩ := fl151
                  exact ⟨rfl, rfl, rfl, rfl, rfl, rfl, Or.inl ⟨t9, F9, f1, f2, e15513.trans f3, f4, e15514.trans f5, by omega⟩, (frE_trans (frE_trans af ⟨fun i i1 i2 i3 i4 => (by rw [mu_i _ _ _ i1, mu_i _ _ _ i1, mu_i _ _ _ i1, mu_i _ _ _ i3, mu_i _ _ _ i2]), fun z z1 z2 z3 z4 z5 z6 => (by rw [mu_z _ _ _ z4, mu_z _ _ _ z3, mu_z _ _ _ z5, mu_i _ _ _ (by decide), mu_i _ _ _ (by decide)]), fun z hz => ⟨(by rw [mu_i _ _ _ (by decide), mu_i _ _ _ (by decide), mu_i _ _ _ (by decide), mu_i _ _ _ (by decide), mu_z _ _ _ (by omega)]), (by rw [mu_i _ _ _ (by decide), mu_i _ _ _ (by decide), mu_i _ _ _ (by decide), mu_z _ _ _ (by omega), mu_i _ _ _ (by decide)])⟩⟩ (Int.le_refl _) (Int.le_refl _) (Int.le_refl _) (Int.le_refl _)) (coP_fr (lo := mz0) (hi := (mz0 + 401 - cz0)) e155 (show mz0 ≤ ((Mx 53 32) + 1) by omega) (show ((Mx 53 32) + 1) + (w2.length : Int) ≤ (mz0 + 401 - cz0) by omega)) (Int.le_refl _) (Int.le_refl _) (Int.le_refl _) (Int.le_refl _))⟩
                · skip
                  refine v_aload_n X 2 dX12_expression_294 rfl rfl ?_
                  refine v_iconst X dX12_expression_295 ?_
                  refine v_callV X [.int (iz 1)] hRm (c_X12_fail _ _ _ hS 1 ⟨by decide, by decide⟩ (show 0 ≤ (Mx 53 11) ∧ (Mx 53 11) < 403 by omega)) (gV bw_21_2 bw_21_3 bw_21_4 bw_1_5 bw_21_5) rfl ddX12_fail (by decide) (Std.lt hS rfl) (Std.k hS rfl rfl) ⟨rfl, by decide⟩ (Nat.le_of_ble_eq_true rfl) dX12_expression_296 (k_eV (fun M156 e157 => ?_))
                  replace e157 : M156 = (mu (mu (mu (mu (mu Mx 73 (Mx 53 32) 1) 74 (Mx 53 32) ((Mx 56 (Mx 53 11)) - 26)) 53 32 ((Mx 53 32) + 1)) 53 13 2) 53 14 (Mx 57 (Mx 53 11))) := e157.trans (mFail_y (show 0 < 2 by omega))
                  subst e157
                  refine v_aload_n X 2 dX12_expression_299 rfl rfl ?_
                  refine v_iconst X dX12_expression_300 ?_
                  refine v_callV X [.int (iz 0)] hRm (c_X12_comesOut _ _ _ hS 0 (by decide) w2 (show rep (Mx 75) w2 from aE.2.2.1) (show (Mx 53 36) = (w2.length : Int) by omega) (by omega) (show 0 ≤ ((Mx 53 32) + 1) ∧ ((Mx 53 32) + 1) + (w2.length : Int) ≤ 1000 by omega)) (gV bw_21_19 bw_21_20 bw_21_21 bw_1_5 bw_21_22) rfl ddX12_comesOut (by decide) (Std.lt hS rfl) (Std.k hS rfl rfl) ⟨rfl, by decide⟩ (Nat.le_of_ble_eq_true rfl) dX12_expression_301 (k_eV (fun M158 e159 => ?_))
                  have e159L := mp_len (tm := 0) (w := w2) (z := ((Mx 53 32) + 1))
                  have e15932 : M158 53 32 = mpZ 0 w2 ((Mx 53 32) + 1) := e159.2.1
                  have e15911 := e159.2.2.2.2.2 11 (by decide) (by decide)
                  have e15912 := e159.2.2.2.2.2 12 (by decide) (by decide)
                  have e15913 := e159.2.2.2.2.2 13 (by decide) (by decide)
                  have e15914 := e159.2.2.2.2.2 14 (by decide) (by decide)
                  have e15975 := e159.2.2.2.2.1 75 (by decide) (by decide) (by decide)
                  have e15936 := e159.1
                  replace e15911 : M158 53 11 = (Mx 53 11) := e15911
                  replace e15912 : M158 53 12 = (Mx 53 12) := e15912
                  replace e15913 : M158 53 13 = 2 := e15913
                  replace e15914 : M158 53 14 = (Mx 57 (Mx 53 11)) := e15914
                  replace e15975 : M158 75 = Mx 75 := e15975
                  refine hret _ _ _ _ _ _ _ _ _ _ _ none dX12_expression_304 ⟨rfl, rfl⟩ (by decide) (by decide) (fun hmok => ?_)
                  obtain ⟨t9, F9, f1, f2, f3, f4, f5, f6⟩ := fl151
                  exact ⟨rfl, rfl, rfl, rfl, rfl, rfl, Or.inl ⟨t9, F9, f1, f2, e15913.trans f3, f4, e15914.trans f5, by omega⟩, (frE_trans (frE_trans af ⟨fun i i1 i2 i3 i4 => (by rw [mu_i _ _ _ i1, mu_i _ _ _ i1, mu_i _ _ _ i1, mu_i _ _ _ i3, mu_i _ _ _ i2]), fun z z1 z2 z3 z4 z5 z6 => (by rw [mu_z _ _ _ z4, mu_z _ _ _ z3, mu_z _ _ _ z5, mu_i _ _ _ (by decide), mu_i _ _ _ (by decide)]), fun z hz => ⟨(by rw [mu_i _ _ _ (by decide), mu_i _ _ _ (by decide), mu_i _ _ _ (by decide), mu_i _ _ _ (by decide), mu_z _ _ _ (by omega)]), (by rw [mu_i _ _ _ (by decide), mu_i _ _ _ (by decide), mu_i _ _ _ (by decide), mu_z _ _ _ (by omega), mu_i _ _ _ (by decide)])⟩⟩ (Int.le_refl _) (Int.le_refl _) (Int.le_refl _) (Int.le_refl _)) (coP_fr (lo := mz0) (hi := (mz0 + 401 - cz0)) e159 (show mz0 ≤ ((Mx 53 32) + 1) by omega) (show ((Mx 53 32) + 1) + (w2.length : Int) ≤ (mz0 + 401 - cz0) by omega)) (Int.le_refl _) (Int.le_refl _) (Int.le_refl _) (Int.le_refl _))⟩
              · skip
                replace e149 : M148 = (mu (mu (mu (mu Mx 73 (Mx 53 32) 1) 74 (Mx 53 32) ((Mx 56 (Mx 53 11)) - 26)) 53 32 ((Mx 53 32) + 1)) 53 11 ((Mx 53 11) + 1)) := e149.trans (mNext_go (show (Mx 53 11) ≠ 400 from ht150))
                subst e149
                have hl160 : ∀ (n162 : Nat) (My : MI) (t3 : Nat) (w3 : List Int) (k3 : Nat) (cd3 : Int → Int), (ES (bt f n) n c0 sd wt0 cz0 cd0 rr mz0 3 t3 w3 k3 cd3 My) → (t2 < t3) → (frE mz0 (mz0 + 401 - cz0) M My) → 401 - t3 < n162 → V K 5 0 0 N sh ad My L R [(0, .ref (ad 53)), (1, .int (iz (M 53 12))), (2, .int (iz 1))] [] 200 := by
                  intro n162
                  induction n162 with
                  | zero => intro My t3 w3 k3 cd3 bE bt0 bf hn163; exact absurd hn163 (Nat.not_lt_zero _)
                  | succ n162 ih161 =>
                    intro My t3 w3 k3 cd3 bE bt0 bf hn163
                    obtain ⟨b11, b12, b13, b32, b36⟩ := bE.2.1
                    have bl := ES_len bE H
                    have btt := bE.1.1
                    have bk := GT_tok bE.1 (frE_tok bf hT)
                    rw [← b11] at bk
                    obtain ⟨bC, bP, bV⟩ := bk
                    have bo := bE.2.2.2.2.1
                    have bw := op_len w3
                    have bg := cOf_ge (m := My 56 (My 53 11))
                    have bm := cOf_le (m := My 56 (My 53 11))
                    rw [bC] at bg bm
                    refine v_aload_n X 0 dX12_expression_200 rfl rfl ?_
                    refine v_bipush X dX12_expression_201 (by decide) ?_
                    refine v_callV X [.int (iz 7)] hRm (c_X12_is _ _ _ hS 7 ⟨by decide, by decide⟩ (show 0 ≤ (My 53 11) ∧ (My 53 11) < 403 by omega)) (gV bw_20_18 bw_20_19 bw_20_20 bw_1_5 bw_20_21) rfl ddX12_is (by decide) (Std.lt hS rfl) (Std.k hS rfl rfl) ⟨rfl, by decide⟩ (Nat.le_of_ble_eq_true rfl) dX12_expression_203 (k_pB (fun b164 => ?_) (fun b164 => ?_))
                    · skip
                      replace b164 : My 56 (My 53 11) = 7 := b164.2
                      refine v_if_eq X 249 dX12_expression_206 (by decide) ⟨by decide, by decide⟩ (fun q => absurd q (by decide)) (fun _ => ?_)
                      refine v_aload_n X 0 dX12_expression_209 rfl rfl ?_
                      refine gt_X12_open X iwX12 (Std.lt hS rfl) (Std.k hS rfl rfl) (List.mem_cons_of_mem _ bw_19_12) dX12_expression_210 (My 53 12) rfl (fun hr165 => ?_)
                      refine v_iload_n X 1 dX12_expression_213 rfl rfl ?_
                      refine v_icmp_le X 249 dX12_expression_214 (by decide) ⟨by omega, by omega⟩ ⟨by omega, by omega⟩ (fun u166 => ?_) (fun u166 => ?_)
                      · skip
                        refine v_aload_n X 0 dX12_expression_249 rfl rfl ?_
                        refine v_bipush X dX12_expression_250 (by decide) ?_
                        refine v_callV X [.int (iz 8)] hRm (c_X12_is _ _ _ hS 8 ⟨by decide, by decide⟩ (show 0 ≤ (My 53 11) ∧ (My 53 11) < 403 by omega)) (gV bw_20_18 bw_20_19 bw_20_20 bw_1_5 bw_20_21) rfl ddX12_is (by decide) (Std.lt hS rfl) (Std.k hS rfl rfl) ⟨rfl, by decide⟩ (Nat.le_of_ble_eq_true rfl) dX12_expression_252 (k_pB (fun b167 => ?_) (fun b167 => ?_))
                        · skip
                          replace b167 : My 56 (My 53 11) = 8 := b167.2
                          exfalso; omega
                        · skip
                          replace b167 : ¬ My 56 (My 53 11) = 8 := fun z => b167 ⟨b13, z⟩
                          refine v_if_ne X 276 dX12_expression_255 (by decide) ⟨by decide, by decide⟩ (fun q => absurd q (by decide)) (fun _ => ?_)
                          refine v_aload_n X 0 dX12_expression_258 rfl rfl ?_
                          refine v_bipush X dX12_expression_259 (by decide) ?_
                          refine v_callV X [.int (iz 9)] hRm (c_X12_is _ _ _ hS 9 ⟨by decide, by decide⟩ (show 0 ≤ (My 53 11) ∧ (My 53 11) < 403 by omega)) (gV bw_20_18 bw_20_19 bw_20_20 bw_1_5 bw_20_21) rfl ddX12_is (by decide) (Std.lt hS rfl) (Std.k hS rfl rfl) ⟨rfl, by decide⟩ (Nat.le_of_ble_eq_true rfl) dX12_expression_261 (k_pB (fun b168 => ?_) (fun b168 => ?_))
                          · skip
                            replace b168 : My 56 (My 53 11) = 9 := b168.2
                            exfalso; omega
                          · skip
                            replace b168 : ¬ My 56 (My 53 11) = 9 := fun z => b168 ⟨b13, z⟩
                            refine v_if_ne X 276 dX12_expression_264 (by decide) ⟨by decide, by decide⟩ (fun q => absurd q (by decide)) (fun _ => ?_)
                            refine v_aload_n X 0 dX12_expression_267 rfl rfl ?_
                            refine v_bipush X dX12_expression_268 (by decide) ?_
                            refine v_callV X [.int (iz 10)] hRm (c_X12_is _ _ _ hS 10 ⟨by decide, by decide⟩ (show 0 ≤ (My 53 11) ∧ (My 53 11) < 403 by omega)) (gV bw_20_18 bw_20_19 bw_20_20 bw_1_5 bw_20_21) rfl ddX12_is (by decide) (Std.lt hS rfl) (Std.k hS rfl rfl) ⟨rfl, by decide⟩ (Nat.le_of_ble_eq_true rfl) dX12_expression_270 (k_pB (fun b169 => ?_) (fun b169 => ?_))
                            · skip
                              replace b169 : My 56 (My 53 11) = 10 := b169.2
                              exfalso; omega
                            · skip
                              replace b169 : ¬ My 56 (My 53 11) = 10 := fun z => b169 ⟨b13, z⟩
                              refine v_if_eq X 280 dX12_expression_273 (by decide) ⟨by decide, by decide⟩ (fun _ => ?_) (fun q => absurd (by decide) q)
                              refine v_iconst X dX12_expression_280 ?_
                              refine v_istore_n X [(2, .int (iz 0)), (0, .ref (ad 53)), (1, .int (iz (M 53 12)))] dX12_expression_281 rfl (by decide) rfl ?_
                              refine v_iload_n X 0 dX12_expression_282 rfl rfl ?_
                              refine v_if_ne X 305 dX12_expression_283 (by decide) ⟨by decide, by decide⟩ (fun q => absurd q (by decide)) (fun _ => ?_)
                              refine v_aload_n X 1 dX12_expression_286 rfl rfl ?_
                              refine gt_X12_open X iwX12 (Std.lt hS rfl) (Std.k hS rfl rfl) (List.mem_cons_of_mem _ bw_19_12) dX12_expression_287 (My 53 12) rfl (fun hr170 => ?_)
                              refine v_iload_n X 2 dX12_expression_290 rfl rfl ?_
                              refine v_icmp_le X 299 dX12_expression_291 (by decide) ⟨by omega, by omega⟩ ⟨by omega, by omega⟩ (fun u171 => ?_) (fun q => absurd (by omega) q)
                              refine v_aload_n X 1 dX12_expression_299 rfl rfl ?_
                              refine v_iconst X dX12_expression_300 ?_
                              refine v_callV X [.int (iz 0)] hRm (c_X12_comesOut _ _ _ hS 0 (by decide) w3 (show rep (My 75) w3 from bE.2.2.1) (show (My 53 36) = (w3.length : Int) by omega) (by omega) (show 0 ≤ (My 53 32) ∧ (My 53 32) + (w3.length : Int) ≤ 1000 by omega)) (gV bw_21_19 bw_21_20 bw_21_21 bw_1_5 bw_21_22) rfl ddX12_comesOut (by decide) (Std.lt hS rfl) (Std.k hS rfl rfl) ⟨rfl, by decide⟩ (Nat.le_of_ble_eq_true rfl) dX12_expression_301 (k_eV (fun M172 e173 => ?_))
                              have e173L := mp_len (tm := 0) (w := w3) (z := (My 53 32))
                              have e17332 : M172 53 32 = mpZ 0 w3 (My 53 32) := e173.2.1
                              have e17311 := e173.2.2.2.2.2 11 (by decide) (by decide)
                              have e17312 := e173.2.2.2.2.2 12 (by decide) (by decide)
                              have e17313 := e173.2.2.2.2.2 13 (by decide) (by decide)
                              have e17314 := e173.2.2.2.2.2 14 (by decide) (by decide)
                              have e17375 := e173.2.2.2.2.1 75 (by decide) (by decide) (by decide)
                              have e17336 := e173.1
                              replace e17311 : M172 53 11 = (My 53 11) := e17311
                              replace e17312 : M172 53 12 = (My 53 12) := e17312
                              replace e17313 : M172 53 13 = (My 53 13) := e17313
                              replace e17314 : M172 53 14 = (My 53 14) := e17314
                              replace e17375 : M172 75 = My 75 := e17375
                              refine hret _ _ _ _ _ _ _ _ _ _ _ none dX12_expression_304 ⟨rfl, rfl⟩ (by decide) (by decide) (fun hmok => ?_)
                              exact ⟨rfl, rfl, rfl, rfl, rfl, rfl, Or.inr ⟨t3, by omega, ES_end bE H (by omega) (by omega) (show M172 53 11 = _ by omega) (show M172 53 12 = _ by omega) (show M172 53 13 = 0 by omega) e173.2.1 e173.2.2.1 e173.2.2.2.1⟩, (frE_trans bf (coP_fr (lo := mz0) (hi := (mz0 + 401 - cz0)) e173 (show mz0 ≤ (My 53 32) by omega) (show (My 53 32) + (w3.length : Int) ≤ (mz0 + 401 - cz0) by omega)) (Int.le_refl _) (Int.le_refl _) (Int.le_refl _) (Int.le_refl _))⟩
                      · skip
                        have hw1 : 1 ≤ (mpW 0 w3).length := by obtain ⟨t6, ht6⟩ := mpW_open bE.2.2.2.1 (by omega); rw [ht6]; simp
                        refine v_aload_n X 0 dX12_expression_217 rfl rfl ?_
                        refine v_iconst X dX12_expression_218 ?_
                        refine v_callV X [.int (iz 0)] hRm (c_X12_comesOut _ _ _ hS 0 (by decide) w3 (show rep (My 75) w3 from bE.2.2.1) (show (My 53 36) = (w3.length : Int) by omega) (by omega) (show 0 ≤ (My 53 32) ∧ (My 53 32) + (w3.length : Int) ≤ 1000 by omega)) (gV bw_21_19 bw_21_20 bw_21_21 bw_1_5 bw_21_22) rfl ddX12_comesOut (by decide) (Std.lt hS rfl) (Std.k hS rfl rfl) ⟨rfl, by decide⟩ (Nat.le_of_ble_eq_true rfl) dX12_expression_219 (k_eV (fun M174 e175 => ?_))
                        have e175L := mp_len (tm := 0) (w := w3) (z := (My 53 32))
                        have e17532 : M174 53 32 = mpZ 0 w3 (My 53 32) := e175.2.1
                        have e17511 := e175.2.2.2.2.2 11 (by decide) (by decide)
                        have e17512 := e175.2.2.2.2.2 12 (by decide) (by decide)
                        have e17513 := e175.2.2.2.2.2 13 (by decide) (by decide)
                        have e17514 := e175.2.2.2.2.2 14 (by decide) (by decide)
                        have e17575 := e175.2.2.2.2.1 75 (by decide) (by decide) (by decide)
                        have e17536 := e175.1
                        replace e17511 : M174 53 11 = (My 53 11) := e17511
                        replace e17512 : M174 53 12 = (My 53 12) := e17512
                        replace e17513 : M174 53 13 = (My 53 13) := e17513
                        replace e17514 : M174 53 14 = (My 53 14) := e17514
                        replace e17575 : M174 75 = My 75 := e17575
                        refine v_aload_n X 0 dX12_expression_222 rfl rfl ?_
                        refine v_dup X dX12_expression_223 rfl ?_
                        refine gt_X12_waiting X iwX12 (Std.lt hS rfl) (Std.k hS rfl rfl) (List.mem_cons_of_mem _ bw_21_14) dX12_expression_224 (M174 53 36) rfl (fun hr176 => ?_)
                        refine v_iconst X dX12_expression_227 ?_
                        refine v_isub X dX12_expression_228 ?_
                        refine pt_X12_waiting X iwX12 (Std.lt hS rfl) (Std.k hS rfl rfl) (List.mem_cons_of_mem _ bw_21_14) ⟨by omega, by omega⟩ dX12_expression_229 ?_
                        refine v_aload_n X 0 dX12_expression_232 rfl rfl ?_
                        refine v_dup X dX12_expression_233 rfl ?_
                        refine gt_X12_open X iwX12 (Std.lt hS rfl) (Std.k hS rfl rfl) (List.mem_cons_of_mem _ bw_19_12) dX12_expression_234 (M174 53 12) rfl (fun hr177 => ?_)
                        refine v_iconst X dX12_expression_237 ?_
                        refine v_isub X dX12_expression_238 ?_
                        refine pt_X12_open X iwX12 (Std.lt hS rfl) (Std.k hS rfl rfl) (List.mem_cons_of_mem _ bw_19_12) ⟨by omega, by omega⟩ dX12_expression_239 ?_
                        refine v_aload_n X 0 dX12_expression_242 rfl rfl ?_
                        refine v_callV X [] hRm (c_X12_next _ _ _ hS (show 0 ≤ (M174 53 11) ∧ (M174 53 11) ≤ 400 by omega)) (gV bw_21_6 bw_21_7 bw_21_8 bw_1_5 bw_21_9) rfl ddX12_next (by decide) (Std.lt hS rfl) (Std.k hS rfl rfl) ⟨rfl, by decide⟩ (Nat.le_of_ble_eq_true rfl) dX12_expression_243 (k_eV (fun M178 e179 => ?_))
                        by_cases ht180 : (M174 53 11) = 400
                        · skip
                          replace e179 : M178 = (mu (mu (mu (mu M174 53 36 ((M174 53 36) - 1)) 53 12 ((M174 53 12) - 1)) 53 13 2) 53 14 (M174 57 (M174 53 11))) := e179.trans (mNext_full (show (M174 53 11) = 400 from ht180) (show ¬ 0 < (M174 53 13) by omega))
                          subst e179
                          have fl181 : FlT (bt f n) n c0 (mu (mu (mu (mu M174 53 36 ((M174 53 36) - 1)) 53 12 ((M174 53 12) - 1)) 53 13 2) 53 14 (M174 57 (M174 53 11))) := ES_fl bE (Or.inr ⟨rfl, Or.inr (Or.inr (Or.inr ⟨by decide, Or.inr (Or.inl ⟨by omega, by omega⟩)⟩)), Or.inl (by omega)⟩) rfl (show (M174 57 (M174 53 11)) = _ by rw [show M174 57 = My 57 from e175.2.2.2.2.1 57 (by decide) (by decide) (by decide), show M174 53 11 = My 53 11 by omega]; exact bP) (show 0 ≤ (M174 53 11) ∧ (M174 53 11) ≤ 400 by omega)
                          refine v_goto X 200 dX12_expression_246 (by decide) ?_
                          refine v_aload_n X 0 dX12_expression_200 rfl rfl ?_
                          refine v_bipush X dX12_expression_201 (by decide) ?_
                          refine v_callV X [.int (iz 7)] hRm (c_X12_is _ _ _ hS 7 ⟨by decide, by decide⟩ (show 0 ≤ (M174 53 11) ∧ (M174 53 11) < 403 by omega)) (gV bw_20_18 bw_20_19 bw_20_20 bw_1_5 bw_20_21) rfl ddX12_is (by decide) (Std.lt hS rfl) (Std.k hS rfl rfl) ⟨rfl, by decide⟩ (Nat.le_of_ble_eq_true rfl) dX12_expression_203 (k_pB (fun q => absurd (show 2 = (0 : Int) from q.1) (by omega)) (fun _ => ?_))
                          refine v_if_eq X 249 dX12_expression_206 (by decide) ⟨by decide, by decide⟩ (fun _ => ?_) (fun q => absurd (by decide) q)
                          refine v_aload_n X 0 dX12_expression_249 rfl rfl ?_
                          refine v_bipush X dX12_expression_250 (by decide) ?_
                          refine v_callV X [.int (iz 8)] hRm (c_X12_is _ _ _ hS 8 ⟨by decide, by decide⟩ (show 0 ≤ (M174 53 11) ∧ (M174 53 11) < 403 by omega)) (gV bw_20_18 bw_20_19 bw_20_20 bw_1_5 bw_20_21) rfl ddX12_is (by decide) (Std.lt hS rfl) (Std.k hS rfl rfl) ⟨rfl, by decide⟩ (Nat.le_of_ble_eq_true rfl) dX12_expression_252 (k_pB (fun q => absurd (show 2 = (0 : Int) from q.1) (by omega)) (fun _ => ?_))
                          refine v_if_ne X 276 dX12_expression_255 (by decide) ⟨by decide, by decide⟩ (fun q => absurd q (by decide)) (fun _ => ?_)
                          refine v_aload_n X 0 dX12_expression_258 rfl rfl ?_
                          refine v_bipush X dX12_expression_259 (by decide) ?_
                          refine v_callV X [.int (iz 9)] hRm (c_X12_is _ _ _ hS 9 ⟨by decide, by decide⟩ (show 0 ≤ (M174 53 11) ∧ (M174 53 11) < 403 by omega)) (gV bw_20_18 bw_20_19 bw_20_20 bw_1_5 bw_20_21) rfl ddX12_is (by decide) (Std.lt hS rfl) (Std.k hS rfl rfl) ⟨rfl, by decide⟩ (Nat.le_of_ble_eq_true rfl) dX12_expression_261 (k_pB (fun q => absurd (show 2 = (0 : Int) from q.1) (by omega)) (fun _ => ?_))
                          refine v_if_ne X 276 dX12_expression_264 (by decide) ⟨by decide, by decide⟩ (fun q => absurd q (by decide)) (fun _ => ?_)
                          refine v_aload_n X 0 dX12_expression_267 rfl rfl ?_
                          refine v_bipush X dX12_expression_268 (by decide) ?_
                          refine v_callV X [.int (iz 10)] hRm (c_X12_is _ _ _ hS 10 ⟨by decide, by decide⟩ (show 0 ≤ (M174 53 11) ∧ (M174 53 11) < 403 by omega)) (gV bw_20_18 bw_20_19 bw_20_20 bw_1_5 bw_20_21) rfl ddX12_is (by decide) (Std.lt hS rfl) (Std.k hS rfl rfl) ⟨rfl, by decide⟩ (Nat.le_of_ble_eq_true rfl) dX12_expression_270 (k_pB (fun q => absurd (show 2 = (0 : Int) from q.1) (by omega)) (fun _ => ?_))
                          refine v_if_eq X 280 dX12_expression_273 (by decide) ⟨by decide, by decide⟩ (fun _ => ?_) (fun q => absurd (by decide) q)
                          refine v_iconst X dX12_expression_280 ?_
                          refine v_istore_n X [(2, .int (iz 0)), (0, .ref (ad 53)), (1, .int (iz (M 53 12)))] dX12_expression_281 rfl (by decide) rfl ?_
                          refine v_iload_n X 0 dX12_expression_282 rfl rfl ?_
                          refine v_if_ne X 305 dX12_expression_283 (by decide) ⟨by decide, by decide⟩ (fun q => absurd q (by decide)) (fun _ => ?_)
                          refine v_aload_n X 1 dX12_expression_286 rfl rfl ?_
                          refine gt_X12_open X iwX12 (Std.lt hS rfl) (Std.k hS rfl rfl) (List.mem_cons_of_mem _ bw_19_12) dX12_expression_287 ((M174 53 12) - 1) rfl (fun hr182 => ?_)
                          refine v_iload_n X 2 dX12_expression_290 rfl rfl ?_
                          refine v_icmp_le X 299 dX12_expression_291 (by decide) ⟨by omega, by omega⟩ ⟨by omega, by omega⟩ (fun u183 => ?_) (fun u183 => ?_)
                          · skip
                            refine v_aload_n X 1 dX12_expression_299 rfl rfl ?_
                            refine v_iconst X dX12_expression_300 ?_
                            refine v_callV X [.int (iz 0)] hRm (c_X12_comesOut _ _ _ hS 0 (by decide) ((mpW 0 w3).tail) (show rep (M174 75) ((mpW 0 w3).tail) from (by rw [e17575]; exact rep_tail (rep_suf bE.2.2.1))) (show ((M174 53 36) - 1) = (((mpW 0 w3).tail).length : Int) by rw [List.length_tail]; omega) (by rw [List.length_tail]; omega) (show 0 ≤ (M174 53 32) ∧ (M174 53 32) + (((mpW 0 w3).tail).length : Int) ≤ 1000 by rw [List.length_tail]; omega)) (gV bw_21_19 bw_21_20 bw_21_21 bw_1_5 bw_21_22) rfl ddX12_comesOut (by decide) (Std.lt hS rfl) (Std.k hS rfl rfl) ⟨rfl, by decide⟩ (Nat.le_of_ble_eq_true rfl) dX12_expression_301 (k_eV (fun M184 e185 => ?_))
                            have e185L := mp_len (tm := 0) (w := ((mpW 0 w3).tail)) (z := (M174 53 32))
                            have e18532 : M184 53 32 = mpZ 0 ((mpW 0 w3).tail) (M174 53 32) := e185.2.1
                            have e18511 := e185.2.2.2.2.2 11 (by decide) (by decide)
                            have e18512 := e185.2.2.2.2.2 12 (by decide) (by decide)
                            have e18513 := e185.2.2.2.2.2 13 (by decide) (by decide)
                            have e18514 := e185.2.2.2.2.2 14 (by decide) (by decide)
                            have e18575 := e185.2.2.2.2.1 75 (by decide) (by decide) (by decide)
                            have e18536 := e185.1
                            replace e18511 : M184 53 11 = (M174 53 11) := e18511
                            replace e18512 : M184 53 12 = ((M174 53 12) - 1) := e18512
                            replace e18513 : M184 53 13 = 2 := e18513
                            replace e18514 : M184 53 14 = (M174 57 (M174 53 11)) := e18514
                            replace e18575 : M184 75 = M174 75 := e18575
                            refine hret _ _ _ _ _ _ _ _ _ _ _ none dX12_expression_304 ⟨rfl, rfl⟩ (by decide) (by decide) (fun hmok => ?_)
                            obtain ⟨t9, F9, f1, f2, f3, f4, f5, f6⟩ := fl181
                            exact ⟨rfl, rfl, rfl, rfl, rfl, rfl, Or.inl ⟨t9, F9, f1, f2, e18513.trans f3, f4, e18514.trans f5, by omega⟩, (frE_trans (frE_trans (frE_trans bf (coP_fr (lo := mz0) (hi := (mz0 + 401 - cz0)) e175 (show mz0 ≤ (My 53 32) by omega) (show (My 53 32) + (w3.length : Int) ≤ (mz0 + 401 - cz0) by omega)) (Int.le_refl _) (Int.le_refl _) (Int.le_refl _) (Int.le_refl _)) ⟨fun i i1 i2 i3 i4 => (by rw [mu_i _ _ _ i1, mu_i _ _ _ i1, mu_i _ _ _ i1, mu_i _ _ _ i1]), fun z z1 z2 z3 z4 z5 z6 => (by rw [mu_z _ _ _ z4, mu_z _ _ _ z3, mu_z _ _ _ z2, mu_z _ _ _ z6]), fun z hz => ⟨(by rw [mu_i _ _ _ (by decide), mu_i _ _ _ (by decide), mu_i _ _ _ (by decide), mu_i _ _ _ (by decide)]), (by rw [mu_i _ _ _ (by decide), mu_i _ _ _ (by decide), mu_i _ _ _ (by decide), mu_i _ _ _ (by decide)])⟩⟩ (Int.le_refl _) (Int.le_refl _) (Int.le_refl _) (Int.le_refl _)) (coP_fr (lo := mz0) (hi := (mz0 + 401 - cz0)) e185 (show mz0 ≤ (M174 53 32) by omega) (show (M174 53 32) + (((mpW 0 w3).tail).length : Int) ≤ (mz0 + 401 - cz0) by rw [List.length_tail]; omega)) (Int.le_refl _) (Int.le_refl _) (Int.le_refl _) (Int.le_refl _))⟩
                          · skip
                            refine v_aload_n X 1 dX12_expression_294 rfl rfl ?_
                            refine v_iconst X dX12_expression_295 ?_
                            refine v_callV X [.int (iz 1)] hRm (c_X12_fail _ _ _ hS 1 ⟨by decide, by decide⟩ (show 0 ≤ (M174 53 11) ∧ (M174 53 11) < 403 by omega)) (gV bw_21_2 bw_21_3 bw_21_4 bw_1_5 bw_21_5) rfl ddX12_fail (by decide) (Std.lt hS rfl) (Std.k hS rfl rfl) ⟨rfl, by decide⟩ (Nat.le_of_ble_eq_true rfl) dX12_expression_296 (k_eV (fun M186 e187 => ?_))
                            replace e187 : M186 = (mu (mu (mu (mu M174 53 36 ((M174 53 36) - 1)) 53 12 ((M174 53 12) - 1)) 53 13 2) 53 14 (M174 57 (M174 53 11))) := e187.trans (mFail_y (show 0 < 2 by omega))
                            subst e187
                            refine v_aload_n X 1 dX12_expression_299 rfl rfl ?_
                            refine v_iconst X dX12_expression_300 ?_
                            refine v_callV X [.int (iz 0)] hRm (c_X12_comesOut _ _ _ hS 0 (by decide) ((mpW 0 w3).tail) (show rep (M174 75) ((mpW 0 w3).tail) from (by rw [e17575]; exact rep_tail (rep_suf bE.2.2.1))) (show ((M174 53 36) - 1) = (((mpW 0 w3).tail).length : Int) by rw [List.length_tail]; omega) (by rw [List.length_tail]; omega) (show 0 ≤ (M174 53 32) ∧ (M174 53 32) + (((mpW 0 w3).tail).length : Int) ≤ 1000 by rw [List.length_tail]; omega)) (gV bw_21_19 bw_21_20 bw_21_21 bw_1_5 bw_21_22) rfl ddX12_comesOut (by decide) (Std.lt hS rfl) (Std.k hS rfl rfl) ⟨rfl, by decide⟩ (Nat.le_of_ble_eq_true rfl) dX12_expression_301 (k_eV (fun M188 e189 => ?_))
                            have e189L := mp_len (tm := 0) (w := ((mpW 0 w3).tail)) (z := (M174 53 32))
                            have e18932 : M188 53 32 = mpZ 0 ((mpW 0 w3).tail) (M174 53 32) := e189.2.1
                            have e18911 := e189.2.2.2.2.2 11 (by decide) (by decide)
                            have e18912 := e189.2.2.2.2.2 12 (by decide) (by decide)
                            have e18913 := e189.2.2.2.2.2 13 (by decide) (by decide)
                            have e18914 := e189.2.2.2.2.2 14 (by decide) (by decide)
                            have e18975 := e189.2.2.2.2.1 75 (by decide) (by decide) (by decide)
                            have e18936 := e189.1
                            replace e18911 : M188 53 11 = (M174 53 11) := e18911
                            replace e18912 : M188 53 12 = ((M174 53 12) - 1) := e18912
                            replace e18913 : M188 53 13 = 2 := e18913
                            replace e18914 : M188 53 14 = (M174 57 (M174 53 11)) := e18914
                            replace e18975 : M188 75 = M174 75 := e18975
                            refine hret _ _ _ _ _ _ _ _ _ _ _ none dX12_expression_304 ⟨rfl, rfl⟩ (by decide) (by decide) (fun hmok => ?_)
                            obtain ⟨t9, F9, f1, f2, f3, f4, f5, f6⟩ := fl181
                            exact ⟨rfl, rfl, rfl, rfl, rfl, rfl, Or.inl ⟨t9, F9, f1, f2, e18913.trans f3, f4, e18914.trans f5, by omega⟩, (frE_trans (frE_trans (frE_trans bf (coP_fr (lo := mz0) (hi := (mz0 + 401 - cz0)) e175 (show mz0 ≤ (My 53 32) by omega) (show (My 53 32) + (w3.length : Int) ≤ (mz0 + 401 - cz0) by omega)) (Int.le_refl _) (Int.le_refl _) (Int.le_refl _) (Int.le_refl _)) ⟨fun i i1 i2 i3 i4 => (by rw [mu_i _ _ _ i1, mu_i _ _ _ i1, mu_i _ _ _ i1, mu_i _ _ _ i1]), fun z z1 z2 z3 z4 z5 z6 => (by rw [mu_z _ _ _ z4, mu_z _ _ _ z3, mu_z _ _ _ z2, mu_z _ _ _ z6]), fun z hz => ⟨(by rw [mu_i _ _ _ (by decide), mu_i _ _ _ (by decide), mu_i _ _ _ (by decide), mu_i _ _ _ (by decide)]), (by rw [mu_i _ _ _ (by decide), mu_i _ _ _ (by decide), mu_i _ _ _ (by decide), mu_i _ _ _ (by decide)])⟩⟩ (Int.le_refl _) (Int.le_refl _) (Int.le_refl _) (Int.le_refl _)) (coP_fr (lo := mz0) (hi := (mz0 + 401 - cz0)) e189 (show mz0 ≤ (M174 53 32) by omega) (show (M174 53 32) + (((mpW 0 w3).tail).length : Int) ≤ (mz0 + 401 - cz0) by rw [List.length_tail]; omega)) (Int.le_refl _) (Int.le_refl _) (Int.le_refl _) (Int.le_refl _))⟩
                        · skip
                          replace e179 : M178 = (mu (mu (mu M174 53 36 ((M174 53 36) - 1)) 53 12 ((M174 53 12) - 1)) 53 11 ((M174 53 11) + 1)) := e179.trans (mNext_go (show (M174 53 11) ≠ 400 from ht180))
                          subst e179
                          refine v_goto X 200 dX12_expression_246 (by decide) ?_
                          exact ih161 (mu (mu (mu M174 53 36 ((M174 53 36) - 1)) 53 12 ((M174 53 12) - 1)) 53 11 ((M174 53 11) + 1)) (t3 + 1) ((mpW 0 w3).tail) (k3 + (w3.length - (mpW 0 w3).length)) (rlD 0 (w3.map cOf ++ wt0) (cz0 + (k3 : Int)) cd3) (ES_close bE H (by omega) (by omega) (by omega) (show M174 53 11 + 1 = _ by omega) (show M174 53 12 - 1 = _ by omega) (show M174 53 13 = 0 by omega) (show M174 53 32 = _ from e175.2.1) (show M174 53 36 - 1 = _ by omega) (show M174 75 = _ from e17575) (show M174 73 = _ from e175.2.2.1) (show M174 74 = _ from e175.2.2.2.1)) (by omega) ((frE_trans (frE_trans bf (coP_fr (lo := mz0) (hi := (mz0 + 401 - cz0)) e175 (show mz0 ≤ (My 53 32) by omega) (show (My 53 32) + (w3.length : Int) ≤ (mz0 + 401 - cz0) by omega)) (Int.le_refl _) (Int.le_refl _) (Int.le_refl _) (Int.le_refl _)) ⟨fun i i1 i2 i3 i4 => (by rw [mu_i _ _ _ i1, mu_i _ _ _ i1, mu_i _ _ _ i1]), fun z z1 z2 z3 z4 z5 z6 => (by rw [mu_z _ _ _ z1, mu_z _ _ _ z2, mu_z _ _ _ z6]), fun z hz => ⟨(by rw [mu_i _ _ _ (by decide), mu_i _ _ _ (by decide), mu_i _ _ _ (by decide)]), (by rw [mu_i _ _ _ (by decide), mu_i _ _ _ (by decide), mu_i _ _ _ (by decide)])⟩⟩ (Int.le_refl _) (Int.le_refl _) (Int.le_refl _) (Int.le_refl _))) (by omega)
                    · skip
                      replace b164 : ¬ My 56 (My 53 11) = 7 := fun z => b164 ⟨b13, z⟩
                      refine v_if_eq X 249 dX12_expression_206 (by decide) ⟨by decide, by decide⟩ (fun _ => ?_) (fun q => absurd (by decide) q)
                      refine v_aload_n X 0 dX12_expression_249 rfl rfl ?_
                      refine v_bipush X dX12_expression_250 (by decide) ?_
                      refine v_callV X [.int (iz 8)] hRm (c_X12_is _ _ _ hS 8 ⟨by decide, by decide⟩ (show 0 ≤ (My 53 11) ∧ (My 53 11) < 403 by omega)) (gV bw_20_18 bw_20_19 bw_20_20 bw_1_5 bw_20_21) rfl ddX12_is (by decide) (Std.lt hS rfl) (Std.k hS rfl rfl) ⟨rfl, by decide⟩ (Nat.le_of_ble_eq_true rfl) dX12_expression_252 (k_pB (fun b190 => ?_) (fun b190 => ?_))
                      · skip
                        replace b190 : My 56 (My 53 11) = 8 := b190.2
                        refine v_if_ne X 276 dX12_expression_255 (by decide) ⟨by decide, by decide⟩ (fun _ => ?_) (fun q => absurd (by decide) q)
                        refine v_iconst X dX12_expression_276 ?_
                        refine v_goto X 281 dX12_expression_277 (by decide) ?_
                        refine v_istore_n X [(2, .int (iz 1)), (0, .ref (ad 53)), (1, .int (iz (M 53 12)))] dX12_expression_281 rfl (by decide) rfl ?_
                        refine v_iload_n X 0 dX12_expression_282 rfl rfl ?_
                        refine v_if_ne X 305 dX12_expression_283 (by decide) ⟨by decide, by decide⟩ (fun _ => ?_) (fun q => absurd (by decide) q)
                        refine v_aload_n X 1 dX12_expression_305 rfl rfl ?_
                        refine gt_X12_tKind X iwX12 (Std.lt hS rfl) (Std.k hS rfl rfl) (List.mem_cons_of_mem _ bw_7_16) dX12_expression_306 56 (Std.r hS 5 rfl) ?_
                        refine v_aload_n X 1 dX12_expression_309 rfl rfl ?_
                        refine gt_X12_t X iwX12 (Std.lt hS rfl) (Std.k hS rfl rfl) (List.mem_cons_of_mem _ bw_19_11) dX12_expression_310 (My 53 11) rfl (fun hr191 => ?_)
                        refine v_iald X (My 56 (My 53 11)) (Std.lt hS rfl) (Std.at hS rfl rfl) (by omega) (by omega) dX12_expression_313 rfl (fun hr192 => ?_)
                        refine v_istore X [(4, .int (iz (My 56 (My 53 11)))), (2, .int (iz 1)), (0, .ref (ad 53)), (1, .int (iz (M 53 12)))] dX12_expression_314 (by decide) rfl ?_
                        refine v_aload_n X 2 dX12_expression_316 rfl rfl ?_
                        refine v_iload X 0 dX12_expression_317 rfl ?_
                        refine v_bipush X dX12_expression_319 (by decide) ?_
                        refine v_icmp_ne X 328 dX12_expression_321 (by decide) ⟨by omega, by omega⟩ ⟨by decide, by decide⟩ (fun u193 => ?_) (fun q => absurd (by omega) q)
                        refine v_iconst X dX12_expression_328 ?_
                        refine v_callV X [.int (iz 0)] hRm (c_X12_comesOut _ _ _ hS 0 (by decide) w3 (show rep (My 75) w3 from bE.2.2.1) (show (My 53 36) = (w3.length : Int) by omega) (by omega) (show 0 ≤ (My 53 32) ∧ (My 53 32) + (w3.length : Int) ≤ 1000 by omega)) (gV bw_21_19 bw_21_20 bw_21_21 bw_1_5 bw_21_22) rfl ddX12_comesOut (by decide) (Std.lt hS rfl) (Std.k hS rfl rfl) ⟨rfl, by decide⟩ (Nat.le_of_ble_eq_true rfl) dX12_expression_329 (k_eV (fun M194 e195 => ?_))
                        have e195L := mp_len (tm := 0) (w := w3) (z := (My 53 32))
                        have e19532 : M194 53 32 = mpZ 0 w3 (My 53 32) := e195.2.1
                        have e19511 := e195.2.2.2.2.2 11 (by decide) (by decide)
                        have e19512 := e195.2.2.2.2.2 12 (by decide) (by decide)
                        have e19513 := e195.2.2.2.2.2 13 (by decide) (by decide)
                        have e19514 := e195.2.2.2.2.2 14 (by decide) (by decide)
                        have e19575 := e195.2.2.2.2.1 75 (by decide) (by decide) (by decide)
                        have e19536 := e195.1
                        replace e19511 : M194 53 11 = (My 53 11) := e19511
                        replace e19512 : M194 53 12 = (My 53 12) := e19512
                        replace e19513 : M194 53 13 = (My 53 13) := e19513
                        replace e19514 : M194 53 14 = (My 53 14) := e19514
                        replace e19575 : M194 75 = My 75 := e19575
                        refine v_aload_n X 2 dX12_expression_332 rfl rfl ?_
                        refine gt_X12_waits X iwX12 (Std.lt hS rfl) (Std.k hS rfl rfl) (List.mem_cons_of_mem _ bw_8_13) dX12_expression_333 75 (Std.r hS 35 rfl) ?_
                        refine v_aload_n X 2 dX12_expression_336 rfl rfl ?_
                        refine gt_X12_waiting X iwX12 (Std.lt hS rfl) (Std.k hS rfl rfl) (List.mem_cons_of_mem _ bw_21_14) dX12_expression_337 (M194 53 36) rfl (fun hr196 => ?_)
                        refine v_iload X 0 dX12_expression_340 rfl ?_
                        refine v_iast X (Std.lt hS rfl) (Std.at hS rfl rfl) (by omega) (by omega) ⟨by omega, by omega⟩ dX12_expression_342 ?_
                        refine v_aload_n X 2 dX12_expression_343 rfl rfl ?_
                        refine v_dup X dX12_expression_344 rfl ?_
                        refine gt_X12_waiting X iwX12 (Std.lt hS rfl) (Std.k hS rfl rfl) (List.mem_cons_of_mem _ bw_21_14) dX12_expression_345 (M194 53 36) rfl (fun hr197 => ?_)
                        refine v_iconst X dX12_expression_348 ?_
                        refine v_iadd X dX12_expression_349 ?_
                        refine pt_X12_waiting X iwX12 (Std.lt hS rfl) (Std.k hS rfl rfl) (List.mem_cons_of_mem _ bw_21_14) ⟨by omega, by omega⟩ dX12_expression_350 ?_
                        refine v_aload_n X 2 dX12_expression_353 rfl rfl ?_
                        refine v_callV X [] hRm (c_X12_next _ _ _ hS (show 0 ≤ (M194 53 11) ∧ (M194 53 11) ≤ 400 by omega)) (gV bw_21_6 bw_21_7 bw_21_8 bw_1_5 bw_21_9) rfl ddX12_next (by decide) (Std.lt hS rfl) (Std.k hS rfl rfl) ⟨rfl, by decide⟩ (Nat.le_of_ble_eq_true rfl) dX12_expression_354 (k_eV (fun M198 e199 => ?_))
                        by_cases ht200 : (M194 53 11) = 400
                        · skip
                          replace e199 : M198 = (mu (mu (mu (mu M194 75 (M194 53 36) (My 56 (My 53 11))) 53 36 ((M194 53 36) + 1)) 53 13 2) 53 14 (M194 57 (M194 53 11))) := e199.trans (mNext_full (show (M194 53 11) = 400 from ht200) (show ¬ 0 < (M194 53 13) by omega))
                          subst e199
                          have fl201 : FlT (bt f n) n c0 (mu (mu (mu (mu M194 75 (M194 53 36) (My 56 (My 53 11))) 53 36 ((M194 53 36) + 1)) 53 13 2) 53 14 (M194 57 (M194 53 11))) := ES_fl bE (Or.inr ⟨rfl, Or.inr (Or.inr (Or.inr ⟨by decide, Or.inl (by omega)⟩)), Or.inl (by omega)⟩) rfl (show (M194 57 (M194 53 11)) = _ by rw [show M194 57 = My 57 from e195.2.2.2.2.1 57 (by decide) (by decide) (by decide), show M194 53 11 = My 53 11 by omega]; exact bP) (show 0 ≤ (M194 53 11) ∧ (M194 53 11) ≤ 400 by omega)
                          refine v_goto X 12 dX12_expression_357 (by decide) ?_
                          refine v_iload_n X 1 dX12_expression_12 rfl rfl ?_
                          refine v_if_eq X 360 dX12_expression_13 (by decide) ⟨by decide, by decide⟩ (fun q => absurd q (by decide)) (fun _ => ?_)
                          refine v_aload_n X 2 dX12_expression_16 rfl rfl ?_
                          refine gt_X12_fault X iwX12 (Std.lt hS rfl) (Std.k hS rfl rfl) (List.mem_cons_of_mem _ bw_19_13) dX12_expression_17 2 rfl (fun hr202 => ?_)
                          refine v_if_ne X 360 dX12_expression_20 (by decide) ⟨by decide, by decide⟩ (fun _ => ?_) (fun q => absurd (by decide) q)
                          refine hret _ _ _ _ _ _ _ _ _ _ _ none dX12_expression_360 ⟨rfl, rfl⟩ (by decide) (by decide) (fun hmok => ?_)
                          exact ⟨rfl, rfl, rfl, rfl, rfl, rfl, Or.inl fl201, (frE_trans (frE_trans bf (coP_fr (lo := mz0) (hi := (mz0 + 401 - cz0)) e195 (show mz0 ≤ (My 53 32) by omega) (show (My 53 32) + (w3.length : Int) ≤ (mz0 + 401 - cz0) by omega)) (Int.le_refl _) (Int.le_refl _) (Int.le_refl _) (Int.le_refl _)) ⟨fun i i1 i2 i3 i4 => (by rw [mu_i _ _ _ i1, mu_i _ _ _ i1, mu_i _ _ _ i1, mu_i _ _ _ i4]), fun z z1 z2 z3 z4 z5 z6 => (by rw [mu_z _ _ _ z4, mu_z _ _ _ z3, mu_z _ _ _ z6, mu_i _ _ _ (by decide)]), fun z hz => ⟨(by rw [mu_i _ _ _ (by decide), mu_i _ _ _ (by decide), mu_i _ _ _ (by decide), mu_i _ _ _ (by decide)]), (by rw [mu_i _ _ _ (by decide), mu_i _ _ _ (by decide), mu_i _ _ _ (by decide), mu_i _ _ _ (by decide)])⟩⟩ (Int.le_refl _) (Int.le_refl _) (Int.le_refl _) (Int.le_refl _))⟩
                        · skip
                          replace e199 : M198 = (mu (mu (mu M194 75 (M194 53 36) (My 56 (My 53 11))) 53 36 ((M194 53 36) + 1)) 53 11 ((M194 53 11) + 1)) := e199.trans (mNext_go (show (M194 53 11) ≠ 400 from ht200))
                          subst e199
                          refine v_goto X 12 dX12_expression_357 (by decide) ?_
                          refine v_lv [2, 3, 1] rfl ?_
                          exact ih3 (mu (mu (mu M194 75 (M194 53 36) (My 56 (My 53 11))) 53 36 ((M194 53 36) + 1)) 53 11 ((M194 53 11) + 1)) (t3 + 1) (8 :: mpW 0 w3) (k3 + (w3.length - (mpW 0 w3).length)) (rlD (rkI (kdT (bt f n) n t3)) (w3.map cOf ++ wt0) (cz0 + (k3 : Int)) cd3) ((ES_op (x := 8) (tm := 0) bE H (by omega) (by decide) (by decide) (by omega) (show M194 53 11 + 1 = _ by omega) (show M194 53 12 = _ by omega) (show M194 53 13 = 0 by omega) (show M194 53 32 = _ from e195.2.1) (show M194 53 36 + 1 = _ by omega) (by rw [← e19536, ← e19575, show (8 : Int) = My 56 (My 53 11) by omega]; rfl) (show M194 73 = _ from e195.2.2.1) (show M194 74 = _ from e195.2.2.2.1))) (by omega) ((frE_trans (frE_trans bf (coP_fr (lo := mz0) (hi := (mz0 + 401 - cz0)) e195 (show mz0 ≤ (My 53 32) by omega) (show (My 53 32) + (w3.length : Int) ≤ (mz0 + 401 - cz0) by omega)) (Int.le_refl _) (Int.le_refl _) (Int.le_refl _) (Int.le_refl _)) ⟨fun i i1 i2 i3 i4 => (by rw [mu_i _ _ _ i1, mu_i _ _ _ i1, mu_i _ _ _ i4]), fun z z1 z2 z3 z4 z5 z6 => (by rw [mu_z _ _ _ z1, mu_z _ _ _ z6, mu_i _ _ _ (by decide)]), fun z hz => ⟨(by rw [mu_i _ _ _ (by decide), mu_i _ _ _ (by decide), mu_i _ _ _ (by decide)]), (by rw [mu_i _ _ _ (by decide), mu_i _ _ _ (by decide), mu_i _ _ _ (by decide)])⟩⟩ (Int.le_refl _) (Int.le_refl _) (Int.le_refl _) (Int.le_refl _))) (by omega)
                      · skip
                        replace b190 : ¬ My 56 (My 53 11) = 8 := fun z => b190 ⟨b13, z⟩
                        refine v_if_ne X 276 dX12_expression_255 (by decide) ⟨by decide, by decide⟩ (fun q => absurd q (by decide)) (fun _ => ?_)
                        refine v_aload_n X 0 dX12_expression_258 rfl rfl ?_
                        refine v_bipush X dX12_expression_259 (by decide) ?_
                        refine v_callV X [.int (iz 9)] hRm (c_X12_is _ _ _ hS 9 ⟨by decide, by decide⟩ (show 0 ≤ (My 53 11) ∧ (My 53 11) < 403 by omega)) (gV bw_20_18 bw_20_19 bw_20_20 bw_1_5 bw_20_21) rfl ddX12_is (by decide) (Std.lt hS rfl) (Std.k hS rfl rfl) ⟨rfl, by decide⟩ (Nat.le_of_ble_eq_true rfl) dX12_expression_261 (k_pB (fun b203 => ?_) (fun b203 => ?_))
                        · skip
                          replace b203 : My 56 (My 53 11) = 9 := b203.2
                          refine v_if_ne X 276 dX12_expression_264 (by decide) ⟨by decide, by decide⟩ (fun _ => ?_) (fun q => absurd (by decide) q)
                          refine v_iconst X dX12_expression_276 ?_
                          refine v_goto X 281 dX12_expression_277 (by decide) ?_
                          refine v_istore_n X [(2, .int (iz 1)), (0, .ref (ad 53)), (1, .int (iz (M 53 12)))] dX12_expression_281 rfl (by decide) rfl ?_
                          refine v_iload_n X 0 dX12_expression_282 rfl rfl ?_
                          refine v_if_ne X 305 dX12_expression_283 (by decide) ⟨by decide, by decide⟩ (fun _ => ?_) (fun q => absurd (by decide) q)
                          refine v_aload_n X 1 dX12_expression_305 rfl rfl ?_
                          refine gt_X12_tKind X iwX12 (Std.lt hS rfl) (Std.k hS rfl rfl) (List.mem_cons_of_mem _ bw_7_16) dX12_expression_306 56 (Std.r hS 5 rfl) ?_
                          refine v_aload_n X 1 dX12_expression_309 rfl rfl ?_
                          refine gt_X12_t X iwX12 (Std.lt hS rfl) (Std.k hS rfl rfl) (List.mem_cons_of_mem _ bw_19_11) dX12_expression_310 (My 53 11) rfl (fun hr204 => ?_)
                          refine v_iald X (My 56 (My 53 11)) (Std.lt hS rfl) (Std.at hS rfl rfl) (by omega) (by omega) dX12_expression_313 rfl (fun hr205 => ?_)
                          refine v_istore X [(4, .int (iz (My 56 (My 53 11)))), (2, .int (iz 1)), (0, .ref (ad 53)), (1, .int (iz (M 53 12)))] dX12_expression_314 (by decide) rfl ?_
                          refine v_aload_n X 2 dX12_expression_316 rfl rfl ?_
                          refine v_iload X 0 dX12_expression_317 rfl ?_
                          refine v_bipush X dX12_expression_319 (by decide) ?_
                          refine v_icmp_ne X 328 dX12_expression_321 (by decide) ⟨by omega, by omega⟩ ⟨by decide, by decide⟩ (fun u206 => ?_) (fun q => absurd (by omega) q)
                          refine v_iconst X dX12_expression_328 ?_
                          refine v_callV X [.int (iz 0)] hRm (c_X12_comesOut _ _ _ hS 0 (by decide) w3 (show rep (My 75) w3 from bE.2.2.1) (show (My 53 36) = (w3.length : Int) by omega) (by omega) (show 0 ≤ (My 53 32) ∧ (My 53 32) + (w3.length : Int) ≤ 1000 by omega)) (gV bw_21_19 bw_21_20 bw_21_21 bw_1_5 bw_21_22) rfl ddX12_comesOut (by decide) (Std.lt hS rfl) (Std.k hS rfl rfl) ⟨rfl, by decide⟩ (Nat.le_of_ble_eq_true rfl) dX12_expression_329 (k_eV (fun M207 e208 => ?_))
                          have e208L := mp_len (tm := 0) (w := w3) (z := (My 53 32))
                          have e20832 : M207 53 32 = mpZ 0 w3 (My 53 32) := e208.2.1
                          have e20811 := e208.2.2.2.2.2 11 (by decide) (by decide)
                          have e20812 := e208.2.2.2.2.2 12 (by decide) (by decide)
                          have e20813 := e208.2.2.2.2.2 13 (by decide) (by decide)
                          have e20814 := e208.2.2.2.2.2 14 (by decide) (by decide)
                          have e20875 := e208.2.2.2.2.1 75 (by decide) (by decide) (by decide)
                          have e20836 := e208.1
                          replace e20811 : M207 53 11 = (My 53 11) := e20811
                          replace e20812 : M207 53 12 = (My 53 12) := e20812
                          replace e20813 : M207 53 13 = (My 53 13) := e20813
                          replace e20814 : M207 53 14 = (My 53 14) := e20814
                          replace e20875 : M207 75 = My 75 := e20875
                          refine v_aload_n X 2 dX12_expression_332 rfl rfl ?_
                          refine gt_X12_waits X iwX12 (Std.lt hS rfl) (Std.k hS rfl rfl) (List.mem_cons_of_mem _ bw_8_13) dX12_expression_333 75 (Std.r hS 35 rfl) ?_
                          refine v_aload_n X 2 dX12_expression_336 rfl rfl ?_
                          refine gt_X12_waiting X iwX12 (Std.lt hS rfl) (Std.k hS rfl rfl) (List.mem_cons_of_mem _ bw_21_14) dX12_expression_337 (M207 53 36) rfl (fun hr209 => ?_)
                          refine v_iload X 0 dX12_expression_340 rfl ?_
                          refine v_iast X (Std.lt hS rfl) (Std.at hS rfl rfl) (by omega) (by omega) ⟨by omega, by omega⟩ dX12_expression_342 ?_
                          refine v_aload_n X 2 dX12_expression_343 rfl rfl ?_
                          refine v_dup X dX12_expression_344 rfl ?_
                          refine gt_X12_waiting X iwX12 (Std.lt hS rfl) (Std.k hS rfl rfl) (List.mem_cons_of_mem _ bw_21_14) dX12_expression_345 (M207 53 36) rfl (fun hr210 => ?_)
                          refine v_iconst X dX12_expression_348 ?_
                          refine v_iadd X dX12_expression_349 ?_
                          refine pt_X12_waiting X iwX12 (Std.lt hS rfl) (Std.k hS rfl rfl) (List.mem_cons_of_mem _ bw_21_14) ⟨by omega, by omega⟩ dX12_expression_350 ?_
                          refine v_aload_n X 2 dX12_expression_353 rfl rfl ?_
                          refine v_callV X [] hRm (c_X12_next _ _ _ hS (show 0 ≤ (M207 53 11) ∧ (M207 53 11) ≤ 400 by omega)) (gV bw_21_6 bw_21_7 bw_21_8 bw_1_5 bw_21_9) rfl ddX12_next (by decide) (Std.lt hS rfl) (Std.k hS rfl rfl) ⟨rfl, by decide⟩ (Nat.le_of_ble_eq_true rfl) dX12_expression_354 (k_eV (fun M211 e212 => ?_))
                          by_cases ht213 : (M207 53 11) = 400
                          · skip
                            replace e212 : M211 = (mu (mu (mu (mu M207 75 (M207 53 36) (My 56 (My 53 11))) 53 36 ((M207 53 36) + 1)) 53 13 2) 53 14 (M207 57 (M207 53 11))) := e212.trans (mNext_full (show (M207 53 11) = 400 from ht213) (show ¬ 0 < (M207 53 13) by omega))
                            subst e212
                            have fl214 : FlT (bt f n) n c0 (mu (mu (mu (mu M207 75 (M207 53 36) (My 56 (My 53 11))) 53 36 ((M207 53 36) + 1)) 53 13 2) 53 14 (M207 57 (M207 53 11))) := ES_fl bE (Or.inr ⟨rfl, Or.inr (Or.inr (Or.inr ⟨by decide, Or.inl (by omega)⟩)), Or.inl (by omega)⟩) rfl (show (M207 57 (M207 53 11)) = _ by rw [show M207 57 = My 57 from e208.2.2.2.2.1 57 (by decide) (by decide) (by decide), show M207 53 11 = My 53 11 by omega]; exact bP) (show 0 ≤ (M207 53 11) ∧ (M207 53 11) ≤ 400 by omega)
                            refine v_goto X 12 dX12_expression_357 (by decide) ?_
                            refine v_iload_n X 1 dX12_expression_12 rfl rfl ?_
                            refine v_if_eq X 360 dX12_expression_13 (by decide) ⟨by decide, by decide⟩ (fun q => absurd q (by decide)) (fun _ => ?_)
                            refine v_aload_n X 2 dX12_expression_16 rfl rfl ?_
                            refine gt_X12_fault X iwX12 (Std.lt hS rfl) (Std.k hS rfl rfl) (List.mem_cons_of_mem _ bw_19_13) dX12_expression_17 2 rfl (fun hr215 => ?_)
                            refine v_if_ne X 360 dX12_expression_20 (by decide) ⟨by decide, by decide⟩ (fun _ => ?_) (fun q => absurd (by decide) q)
                            refine hret _ _ _ _ _ _ _ _ _ _ _ none dX12_expression_360 ⟨rfl, rfl⟩ (by decide) (by decide) (fun hmok => ?_)
                            exact ⟨rfl, rfl, rfl, rfl, rfl, rfl, Or.inl fl214, (frE_trans (frE_trans bf (coP_fr (lo := mz0) (hi := (mz0 + 401 - cz0)) e208 (show mz0 ≤ (My 53 32) by omega) (show (My 53 32) + (w3.length : Int) ≤ (mz0 + 401 - cz0) by omega)) (Int.le_refl _) (Int.le_refl _) (Int.le_refl _) (Int.le_refl _)) ⟨fun i i1 i2 i3 i4 => (by rw [mu_i _ _ _ i1, mu_i _ _ _ i1, mu_i _ _ _ i1, mu_i _ _ _ i4]), fun z z1 z2 z3 z4 z5 z6 => (by rw [mu_z _ _ _ z4, mu_z _ _ _ z3, mu_z _ _ _ z6, mu_i _ _ _ (by decide)]), fun z hz => ⟨(by rw [mu_i _ _ _ (by decide), mu_i _ _ _ (by decide), mu_i _ _ _ (by decide), mu_i _ _ _ (by decide)]), (by rw [mu_i _ _ _ (by decide), mu_i _ _ _ (by decide), mu_i _ _ _ (by decide), mu_i _ _ _ (by decide)])⟩⟩ (Int.le_refl _) (Int.le_refl _) (Int.le_refl _) (Int.le_refl _))⟩
                          · skip
                            replace e212 : M211 = (mu (mu (mu M207 75 (M207 53 36) (My 56 (My 53 11))) 53 36 ((M207 53 36) + 1)) 53 11 ((M207 53 11) + 1)) := e212.trans (mNext_go (show (M207 53 11) ≠ 400 from ht213))
                            subst e212
                            refine v_goto X 12 dX12_expression_357 (by decide) ?_
                            refine v_lv [2, 3, 1] rfl ?_
                            exact ih3 (mu (mu (mu M207 75 (M207 53 36) (My 56 (My 53 11))) 53 36 ((M207 53 36) + 1)) 53 11 ((M207 53 11) + 1)) (t3 + 1) (9 :: mpW 0 w3) (k3 + (w3.length - (mpW 0 w3).length)) (rlD (rkI (kdT (bt f n) n t3)) (w3.map cOf ++ wt0) (cz0 + (k3 : Int)) cd3) ((ES_op (x := 9) (tm := 0) bE H (by omega) (by decide) (by decide) (by omega) (show M207 53 11 + 1 = _ by omega) (show M207 53 12 = _ by omega) (show M207 53 13 = 0 by omega) (show M207 53 32 = _ from e208.2.1) (show M207 53 36 + 1 = _ by omega) (by rw [← e20836, ← e20875, show (9 : Int) = My 56 (My 53 11) by omega]; rfl) (show M207 73 = _ from e208.2.2.1) (show M207 74 = _ from e208.2.2.2.1))) (by omega) ((frE_trans (frE_trans bf (coP_fr (lo := mz0) (hi := (mz0 + 401 - cz0)) e208 (show mz0 ≤ (My 53 32) by omega) (show (My 53 32) + (w3.length : Int) ≤ (mz0 + 401 - cz0) by omega)) (Int.le_refl _) (Int.le_refl _) (Int.le_refl _) (Int.le_refl _)) ⟨fun i i1 i2 i3 i4 => (by rw [mu_i _ _ _ i1, mu_i _ _ _ i1, mu_i _ _ _ i4]), fun z z1 z2 z3 z4 z5 z6 => (by rw [mu_z _ _ _ z1, mu_z _ _ _ z6, mu_i _ _ _ (by decide)]), fun z hz => ⟨(by rw [mu_i _ _ _ (by decide), mu_i _ _ _ (by decide), mu_i _ _ _ (by decide)]), (by rw [mu_i _ _ _ (by decide), mu_i _ _ _ (by decide), mu_i _ _ _ (by decide)])⟩⟩ (Int.le_refl _) (Int.le_refl _) (Int.le_refl _) (Int.le_refl _))) (by omega)
                        · skip
                          replace b203 : ¬ My 56 (My 53 11) = 9 := fun z => b203 ⟨b13, z⟩
                          refine v_if_ne X 276 dX12_expression_264 (by decide) ⟨by decide, by decide⟩ (fun q => absurd q (by decide)) (fun _ => ?_)
                          refine v_aload_n X 0 dX12_expression_267 rfl rfl ?_
                          refine v_bipush X dX12_expression_268 (by decide) ?_
                          refine v_callV X [.int (iz 10)] hRm (c_X12_is _ _ _ hS 10 ⟨by decide, by decide⟩ (show 0 ≤ (My 53 11) ∧ (My 53 11) < 403 by omega)) (gV bw_20_18 bw_20_19 bw_20_20 bw_1_5 bw_20_21) rfl ddX12_is (by decide) (Std.lt hS rfl) (Std.k hS rfl rfl) ⟨rfl, by decide⟩ (Nat.le_of_ble_eq_true rfl) dX12_expression_270 (k_pB (fun b216 => ?_) (fun b216 => ?_))
                          · skip
                            replace b216 : My 56 (My 53 11) = 10 := b216.2
                            refine v_if_eq X 280 dX12_expression_273 (by decide) ⟨by decide, by decide⟩ (fun q => absurd q (by decide)) (fun _ => ?_)
                            refine v_iconst X dX12_expression_276 ?_
                            refine v_goto X 281 dX12_expression_277 (by decide) ?_
                            refine v_istore_n X [(2, .int (iz 1)), (0, .ref (ad 53)), (1, .int (iz (M 53 12)))] dX12_expression_281 rfl (by decide) rfl ?_
                            refine v_iload_n X 0 dX12_expression_282 rfl rfl ?_
                            refine v_if_ne X 305 dX12_expression_283 (by decide) ⟨by decide, by decide⟩ (fun _ => ?_) (fun q => absurd (by decide) q)
                            refine v_aload_n X 1 dX12_expression_305 rfl rfl ?_
                            refine gt_X12_tKind X iwX12 (Std.lt hS rfl) (Std.k hS rfl rfl) (List.mem_cons_of_mem _ bw_7_16) dX12_expression_306 56 (Std.r hS 5 rfl) ?_
                            refine v_aload_n X 1 dX12_expression_309 rfl rfl ?_
                            refine gt_X12_t X iwX12 (Std.lt hS rfl) (Std.k hS rfl rfl) (List.mem_cons_of_mem _ bw_19_11) dX12_expression_310 (My 53 11) rfl (fun hr217 => ?_)
                            refine v_iald X (My 56 (My 53 11)) (Std.lt hS rfl) (Std.at hS rfl rfl) (by omega) (by omega) dX12_expression_313 rfl (fun hr218 => ?_)
                            refine v_istore X [(4, .int (iz (My 56 (My 53 11)))), (2, .int (iz 1)), (0, .ref (ad 53)), (1, .int (iz (M 53 12)))] dX12_expression_314 (by decide) rfl ?_
                            refine v_aload_n X 2 dX12_expression_316 rfl rfl ?_
                            refine v_iload X 0 dX12_expression_317 rfl ?_
                            refine v_bipush X dX12_expression_319 (by decide) ?_
                            refine v_icmp_ne X 328 dX12_expression_321 (by decide) ⟨by omega, by omega⟩ ⟨by decide, by decide⟩ (fun q => absurd q (by omega)) (fun u219 => ?_)
                            refine v_iconst X dX12_expression_324 ?_
                            refine v_goto X 329 dX12_expression_325 (by decide) ?_
                            refine v_callV X [.int (iz 1)] hRm (c_X12_comesOut _ _ _ hS 1 (by decide) w3 (show rep (My 75) w3 from bE.2.2.1) (show (My 53 36) = (w3.length : Int) by omega) (by omega) (show 0 ≤ (My 53 32) ∧ (My 53 32) + (w3.length : Int) ≤ 1000 by omega)) (gV bw_21_19 bw_21_20 bw_21_21 bw_1_5 bw_21_22) rfl ddX12_comesOut (by decide) (Std.lt hS rfl) (Std.k hS rfl rfl) ⟨rfl, by decide⟩ (Nat.le_of_ble_eq_true rfl) dX12_expression_329 (k_eV (fun M220 e221 => ?_))
                            have e221L := mp_len (tm := 1) (w := w3) (z := (My 53 32))
                            have e22132 : M220 53 32 = mpZ 1 w3 (My 53 32) := e221.2.1
                            have e22111 := e221.2.2.2.2.2 11 (by decide) (by decide)
                            have e22112 := e221.2.2.2.2.2 12 (by decide) (by decide)
                            have e22113 := e221.2.2.2.2.2 13 (by decide) (by decide)
                            have e22114 := e221.2.2.2.2.2 14 (by decide) (by decide)
                            have e22175 := e221.2.2.2.2.1 75 (by decide) (by decide) (by decide)
                            have e22136 := e221.1
                            replace e22111 : M220 53 11 = (My 53 11) := e22111
                            replace e22112 : M220 53 12 = (My 53 12) := e22112
                            replace e22113 : M220 53 13 = (My 53 13) := e22113
                            replace e22114 : M220 53 14 = (My 53 14) := e22114
                            replace e22175 : M220 75 = My 75 := e22175
                            refine v_aload_n X 2 dX12_expression_332 rfl rfl ?_
                            refine gt_X12_waits X iwX12 (Std.lt hS rfl) (Std.k hS rfl rfl) (List.mem_cons_of_mem _ bw_8_13) dX12_expression_333 75 (Std.r hS 35 rfl) ?_
                            refine v_aload_n X 2 dX12_expression_336 rfl rfl ?_
                            refine gt_X12_waiting X iwX12 (Std.lt hS rfl) (Std.k hS rfl rfl) (List.mem_cons_of_mem _ bw_21_14) dX12_expression_337 (M220 53 36) rfl (fun hr222 => ?_)
                            refine v_iload X 0 dX12_expression_340 rfl ?_
                            refine v_iast X (Std.lt hS rfl) (Std.at hS rfl rfl) (by omega) (by omega) ⟨by omega, by omega⟩ dX12_expression_342 ?_
                            refine v_aload_n X 2 dX12_expression_343 rfl rfl ?_
                            refine v_dup X dX12_expression_344 rfl ?_
                            refine gt_X12_waiting X iwX12 (Std.lt hS rfl) (Std.k hS rfl rfl) (List.mem_cons_of_mem _ bw_21_14) dX12_expression_345 (M220 53 36) rfl (fun hr223 => ?_)
                            refine v_iconst X dX12_expression_348 ?_
                            refine v_iadd X dX12_expression_349 ?_
                            refine pt_X12_waiting X iwX12 (Std.lt hS rfl) (Std.k hS rfl rfl) (List.mem_cons_of_mem _ bw_21_14) ⟨by omega, by omega⟩ dX12_expression_350 ?_
                            refine v_aload_n X 2 dX12_expression_353 rfl rfl ?_
                            refine v_callV X [] hRm (c_X12_next _ _ _ hS (show 0 ≤ (M220 53 11) ∧ (M220 53 11) ≤ 400 by omega)) (gV bw_21_6 bw_21_7 bw_21_8 bw_1_5 bw_21_9) rfl ddX12_next (by decide) (Std.lt hS rfl) (Std.k hS rfl rfl) ⟨rfl, by decide⟩ (Nat.le_of_ble_eq_true rfl) dX12_expression_354 (k_eV (fun M224 e225 => ?_))
                            by_cases ht226 : (M220 53 11) = 400
                            · skip
                              replace e225 : M224 = (mu (mu (mu (mu M220 75 (M220 53 36) (My 56 (My 53 11))) 53 36 ((M220 53 36) + 1)) 53 13 2) 53 14 (M220 57 (M220 53 11))) := e225.trans (mNext_full (show (M220 53 11) = 400 from ht226) (show ¬ 0 < (M220 53 13) by omega))
                              subst e225
                              have fl227 : FlT (bt f n) n c0 (mu (mu (mu (mu M220 75 (M220 53 36) (My 56 (My 53 11))) 53 36 ((M220 53 36) + 1)) 53 13 2) 53 14 (M220 57 (M220 53 11))) := ES_fl bE (Or.inr ⟨rfl, Or.inr (Or.inr (Or.inr ⟨by decide, Or.inl (by omega)⟩)), Or.inl (by omega)⟩) rfl (show (M220 57 (M220 53 11)) = _ by rw [show M220 57 = My 57 from e221.2.2.2.2.1 57 (by decide) (by decide) (by decide), show M220 53 11 = My 53 11 by omega]; exact bP) (show 0 ≤ (M220 53 11) ∧ (M220 53 11) ≤ 400 by omega)
                              refine v_goto X 12 dX12_expression_357 (by decide) ?_
                              refine v_iload_n X 1 dX12_expression_12 rfl rfl ?_
                              refine v_if_eq X 360 dX12_expression_13 (by decide) ⟨by decide, by decide⟩ (fun q => absurd q (by decide)) (fun _ => ?_)
                              refine v_aload_n X 2 dX12_expression_16 rfl rfl ?_
                              refine gt_X12_fault X iwX12 (Std.lt hS rfl) (Std.k hS rfl rfl) (List.mem_cons_of_mem _ bw_19_13) dX12_expression_17 2 rfl (fun hr228 => ?_)
                              refine v_if_ne X 360 dX12_expression_20 (by decide) ⟨by decide, by decide⟩ (fun _ => ?_) (fun q => absurd (by decide) q)
                              refine hret _ _ _ _ _ _ _ _ _ _ _ none dX12_expression_360 ⟨rfl, rfl⟩ (by decide) (by decide) (fun hmok => ?_)
                              exact ⟨rfl, rfl, rfl, rfl, rfl, rfl, Or.inl fl227, (frE_trans (frE_trans bf (coP_fr (lo := mz0) (hi := (mz0 + 401 - cz0)) e221 (show mz0 ≤ (My 53 32) by omega) (show (My 53 32) + (w3.length : Int) ≤ (mz0 + 401 - cz0) by omega)) (Int.le_refl _) (Int.le_refl _) (Int.le_refl _) (Int.le_refl _)) ⟨fun i i1 i2 i3 i4 => (by rw [mu_i _ _ _ i1, mu_i _ _ _ i1, mu_i _ _ _ i1, mu_i _ _ _ i4]), fun z z1 z2 z3 z4 z5 z6 => (by rw [mu_z _ _ _ z4, mu_z _ _ _ z3, mu_z _ _ _ z6, mu_i _ _ _ (by decide)]), fun z hz => ⟨(by rw [mu_i _ _ _ (by decide), mu_i _ _ _ (by decide), mu_i _ _ _ (by decide), mu_i _ _ _ (by decide)]), (by rw [mu_i _ _ _ (by decide), mu_i _ _ _ (by decide), mu_i _ _ _ (by decide), mu_i _ _ _ (by decide)])⟩⟩ (Int.le_refl _) (Int.le_refl _) (Int.le_refl _) (Int.le_refl _))⟩
                            · skip
                              replace e225 : M224 = (mu (mu (mu M220 75 (M220 53 36) (My 56 (My 53 11))) 53 36 ((M220 53 36) + 1)) 53 11 ((M220 53 11) + 1)) := e225.trans (mNext_go (show (M220 53 11) ≠ 400 from ht226))
                              subst e225
                              refine v_goto X 12 dX12_expression_357 (by decide) ?_
                              refine v_lv [2, 3, 1] rfl ?_
                              exact ih3 (mu (mu (mu M220 75 (M220 53 36) (My 56 (My 53 11))) 53 36 ((M220 53 36) + 1)) 53 11 ((M220 53 11) + 1)) (t3 + 1) (10 :: mpW 1 w3) (k3 + (w3.length - (mpW 1 w3).length)) (rlD (rkI (kdT (bt f n) n t3)) (w3.map cOf ++ wt0) (cz0 + (k3 : Int)) cd3) ((ES_op (x := 10) (tm := 1) bE H (by omega) (by decide) (by decide) (by omega) (show M220 53 11 + 1 = _ by omega) (show M220 53 12 = _ by omega) (show M220 53 13 = 0 by omega) (show M220 53 32 = _ from e221.2.1) (show M220 53 36 + 1 = _ by omega) (by rw [← e22136, ← e22175, show (10 : Int) = My 56 (My 53 11) by omega]; rfl) (show M220 73 = _ from e221.2.2.1) (show M220 74 = _ from e221.2.2.2.1))) (by omega) ((frE_trans (frE_trans bf (coP_fr (lo := mz0) (hi := (mz0 + 401 - cz0)) e221 (show mz0 ≤ (My 53 32) by omega) (show (My 53 32) + (w3.length : Int) ≤ (mz0 + 401 - cz0) by omega)) (Int.le_refl _) (Int.le_refl _) (Int.le_refl _) (Int.le_refl _)) ⟨fun i i1 i2 i3 i4 => (by rw [mu_i _ _ _ i1, mu_i _ _ _ i1, mu_i _ _ _ i4]), fun z z1 z2 z3 z4 z5 z6 => (by rw [mu_z _ _ _ z1, mu_z _ _ _ z6, mu_i _ _ _ (by decide)]), fun z hz => ⟨(by rw [mu_i _ _ _ (by decide), mu_i _ _ _ (by decide), mu_i _ _ _ (by decide)]), (by rw [mu_i _ _ _ (by decide), mu_i _ _ _ (by decide), mu_i _ _ _ (by decide)])⟩⟩ (Int.le_refl _) (Int.le_refl _) (Int.le_refl _) (Int.le_refl _))) (by omega)
                          · skip
                            replace b216 : ¬ My 56 (My 53 11) = 10 := fun z => b216 ⟨b13, z⟩
                            refine v_if_eq X 280 dX12_expression_273 (by decide) ⟨by decide, by decide⟩ (fun _ => ?_) (fun q => absurd (by decide) q)
                            refine v_iconst X dX12_expression_280 ?_
                            refine v_istore_n X [(2, .int (iz 0)), (0, .ref (ad 53)), (1, .int (iz (M 53 12)))] dX12_expression_281 rfl (by decide) rfl ?_
                            refine v_iload_n X 0 dX12_expression_282 rfl rfl ?_
                            refine v_if_ne X 305 dX12_expression_283 (by decide) ⟨by decide, by decide⟩ (fun q => absurd q (by decide)) (fun _ => ?_)
                            refine v_aload_n X 1 dX12_expression_286 rfl rfl ?_
                            refine gt_X12_open X iwX12 (Std.lt hS rfl) (Std.k hS rfl rfl) (List.mem_cons_of_mem _ bw_19_12) dX12_expression_287 (My 53 12) rfl (fun hr229 => ?_)
                            refine v_iload_n X 2 dX12_expression_290 rfl rfl ?_
                            refine v_icmp_le X 299 dX12_expression_291 (by decide) ⟨by omega, by omega⟩ ⟨by omega, by omega⟩ (fun u230 => ?_) (fun u230 => ?_)
                            · skip
                              refine v_aload_n X 1 dX12_expression_299 rfl rfl ?_
                              refine v_iconst X dX12_expression_300 ?_
                              refine v_callV X [.int (iz 0)] hRm (c_X12_comesOut _ _ _ hS 0 (by decide) w3 (show rep (My 75) w3 from bE.2.2.1) (show (My 53 36) = (w3.length : Int) by omega) (by omega) (show 0 ≤ (My 53 32) ∧ (My 53 32) + (w3.length : Int) ≤ 1000 by omega)) (gV bw_21_19 bw_21_20 bw_21_21 bw_1_5 bw_21_22) rfl ddX12_comesOut (by decide) (Std.lt hS rfl) (Std.k hS rfl rfl) ⟨rfl, by decide⟩ (Nat.le_of_ble_eq_true rfl) dX12_expression_301 (k_eV (fun M231 e232 => ?_))
                              have e232L := mp_len (tm := 0) (w := w3) (z := (My 53 32))
                              have e23232 : M231 53 32 = mpZ 0 w3 (My 53 32) := e232.2.1
                              have e23211 := e232.2.2.2.2.2 11 (by decide) (by decide)
                              have e23212 := e232.2.2.2.2.2 12 (by decide) (by decide)
                              have e23213 := e232.2.2.2.2.2 13 (by decide) (by decide)
                              have e23214 := e232.2.2.2.2.2 14 (by decide) (by decide)
                              have e23275 := e232.2.2.2.2.1 75 (by decide) (by decide) (by decide)
                              have e23236 := e232.1
                              replace e23211 : M231 53 11 = (My 53 11) := e23211
                              replace e23212 : M231 53 12 = (My 53 12) := e23212
                              replace e23213 : M231 53 13 = (My 53 13) := e23213
                              replace e23214 : M231 53 14 = (My 53 14) := e23214
                              replace e23275 : M231 75 = My 75 := e23275
                              refine hret _ _ _ _ _ _ _ _ _ _ _ none dX12_expression_304 ⟨rfl, rfl⟩ (by decide) (by decide) (fun hmok => ?_)
                              exact ⟨rfl, rfl, rfl, rfl, rfl, rfl, Or.inr ⟨t3, by omega, ES_end bE H (by omega) (by omega) (show M231 53 11 = _ by omega) (show M231 53 12 = _ by omega) (show M231 53 13 = 0 by omega) e232.2.1 e232.2.2.1 e232.2.2.2.1⟩, (frE_trans bf (coP_fr (lo := mz0) (hi := (mz0 + 401 - cz0)) e232 (show mz0 ≤ (My 53 32) by omega) (show (My 53 32) + (w3.length : Int) ≤ (mz0 + 401 - cz0) by omega)) (Int.le_refl _) (Int.le_refl _) (Int.le_refl _) (Int.le_refl _))⟩
                            · skip
                              refine v_aload_n X 1 dX12_expression_294 rfl rfl ?_
                              refine v_iconst X dX12_expression_295 ?_
                              refine v_callV X [.int (iz 1)] hRm (c_X12_fail _ _ _ hS 1 ⟨by decide, by decide⟩ (show 0 ≤ (My 53 11) ∧ (My 53 11) < 403 by omega)) (gV bw_21_2 bw_21_3 bw_21_4 bw_1_5 bw_21_5) rfl ddX12_fail (by decide) (Std.lt hS rfl) (Std.k hS rfl rfl) ⟨rfl, by decide⟩ (Nat.le_of_ble_eq_true rfl) dX12_expression_296 (k_eV (fun M233 e234 => ?_))
                              replace e234 : M233 = (mu (mu My 53 13 1) 53 14 (My 57 (My 53 11))) := e234.trans (mFail_n (show ¬ 0 < (My 53 13) by omega))
                              subst e234
                              have fl235 : FlT (bt f n) n c0 (mu (mu My 53 13 1) 53 14 (My 57 (My 53 11))) := ES_fl bE (Or.inl ⟨rfl, fun z => by rw [goW_3 (by decide) (by decide) (by decide), goU_d (by omega) (by omega)] at z; omega, by decide⟩) rfl (show (My 57 (My 53 11)) = _ by exact bP) (show 0 ≤ (My 53 11) ∧ (My 53 11) ≤ 400 by omega)
                              refine v_aload_n X 1 dX12_expression_299 rfl rfl ?_
                              refine v_iconst X dX12_expression_300 ?_
                              refine v_callV X [.int (iz 0)] hRm (c_X12_comesOut _ _ _ hS 0 (by decide) w3 (show rep (My 75) w3 from bE.2.2.1) (show (My 53 36) = (w3.length : Int) by omega) (by omega) (show 0 ≤ (My 53 32) ∧ (My 53 32) + (w3.length : Int) ≤ 1000 by omega)) (gV bw_21_19 bw_21_20 bw_21_21 bw_1_5 bw_21_22) rfl ddX12_comesOut (by decide) (Std.lt hS rfl) (Std.k hS rfl rfl) ⟨rfl, by decide⟩ (Nat.le_of_ble_eq_true rfl) dX12_expression_301 (k_eV (fun M236 e237 => ?_))
                              have e237L := mp_len (tm := 0) (w := w3) (z := (My 53 32))
                              have e23732 : M236 53 32 = mpZ 0 w3 (My 53 32) := e237.2.1
                              have e23711 := e237.2.2.2.2.2 11 (by decide) (by decide)
                              have e23712 := e237.2.2.2.2.2 12 (by decide) (by decide)
                              have e23713 := e237.2.2.2.2.2 13 (by decide) (by decide)
                              have e23714 := e237.2.2.2.2.2 14 (by decide) (by decide)
                              have e23775 := e237.2.2.2.2.1 75 (by decide) (by decide) (by decide)
                              have e23736 := e237.1
                              replace e23711 : M236 53 11 = (My 53 11) := e23711
                              replace e23712 : M236 53 12 = (My 53 12) := e23712
                              replace e23713 : M236 53 13 = 1 := e23713
                              replace e23714 : M236 53 14 = (My 57 (My 53 11)) := e23714
                              replace e23775 : M236 75 = My 75 := e23775
                              refine hret _ _ _ _ _ _ _ _ _ _ _ none dX12_expression_304 ⟨rfl, rfl⟩ (by decide) (by decide) (fun hmok => ?_)
                              obtain ⟨t9, F9, f1, f2, f3, f4, f5, f6⟩ := fl235
                              exact ⟨rfl, rfl, rfl, rfl, rfl, rfl, Or.inl ⟨t9, F9, f1, f2, e23713.trans f3, f4, e23714.trans f5, by omega⟩, (frE_trans (frE_trans bf ⟨fun i i1 i2 i3 i4 => (by rw [mu_i _ _ _ i1, mu_i _ _ _ i1]), fun z z1 z2 z3 z4 z5 z6 => (by rw [mu_z _ _ _ z4, mu_z _ _ _ z3]), fun z hz => ⟨(by rw [mu_i _ _ _ (by decide), mu_i _ _ _ (by decide)]), (by rw [mu_i _ _ _ (by decide), mu_i _ _ _ (by decide)])⟩⟩ (Int.le_refl _) (Int.le_refl _) (Int.le_refl _) (Int.le_refl _)) (coP_fr (lo := mz0) (hi := (mz0 + 401 - cz0)) e237 (show mz0 ≤ (My 53 32) by omega) (show (My 53 32) + (w3.length : Int) ≤ (mz0 + 401 - cz0) by omega)) (Int.le_refl _) (Int.le_refl _) (Int.le_refl _) (Int.le_refl _))⟩
                refine v_lv [1, 2, 3] rfl ?_
                exact hl160 _ (mu (mu (mu (mu Mx 73 (Mx 53 32) 1) 74 (Mx 53 32) ((Mx 56 (Mx 53 11)) - 26)) 53 32 ((Mx 53 32) + 1)) 53 11 ((Mx 53 11) + 1)) (t2 + 1) w2 (k2 + 1) (fu cd2 (cz0 + (k2 : Int)) (toC 1 (Mx 56 (Mx 53 11) - 26))) (ES_unit (op := 1) (arg := (Mx 56 (Mx 53 11) - 26)) aE H (Or.inr ⟨by omega, by omega, rfl, by omega⟩) (by omega) (show Mx 53 11 + 1 = _ by omega) rfl (show Mx 53 13 = 0 by omega) rfl rfl rfl rfl rfl) (by omega) ((frE_trans af ⟨fun i i1 i2 i3 i4 => (by rw [mu_i _ _ _ i1, mu_i _ _ _ i1, mu_i _ _ _ i3, mu_i _ _ _ i2]), fun z z1 z2 z3 z4 z5 z6 => (by rw [mu_z _ _ _ z1, mu_z _ _ _ z5, mu_i _ _ _ (by decide), mu_i _ _ _ (by decide)]), fun z hz => ⟨(by rw [mu_i _ _ _ (by decide), mu_i _ _ _ (by decide), mu_i _ _ _ (by decide), mu_z _ _ _ (by omega)]), (by rw [mu_i _ _ _ (by decide), mu_i _ _ _ (by decide), mu_z _ _ _ (by omega), mu_i _ _ _ (by decide)])⟩⟩ (Int.le_refl _) (Int.le_refl _) (Int.le_refl _) (Int.le_refl _))) (Nat.lt_succ_self _)
  refine v_lv [2, 1, 0] rfl ?_
  exact hl2 _ (mu M 53 36 0) t ([]) 0 cd0 (⟨hG, ⟨h11, h12, h13, (by show M 53 32 = mz0 + ((0 : Nat) : Int); omega), rfl⟩, trivial, trivial, (by decide), (by rw [hc, show cz0 + ((0 : Nat) : Int) = cz0 by omega]; rfl), ⟨fun _ _ => rfl, fun i hi => absurd hi (Nat.not_lt_zero i), fun i hi => absurd hi (Nat.not_lt_zero i)⟩, rfl⟩) (Nat.le_refl _) (⟨fun i i1 i2 i3 i4 => (by rw [mu_i _ _ _ i1]), fun z z1 z2 z3 z4 z5 z6 => (by rw [mu_z _ _ _ z6]), fun z hz => ⟨(by rw [mu_i _ _ _ (by decide)]), (by rw [mu_i _ _ _ (by decide)])⟩⟩) (Nat.lt_succ_self _)

-- expression, behind a fault
set_option maxHeartbeats 4000000 in
set_option maxRecDepth 100000 in
theorem c_X12_expression_f (l : Launch) (D : va_G) (cy : Nat → ClassId) {N : Nat} {sh : MS} {ad : Nat → Nat} {M L : MI} {R : MR} (hS : Std N sh R) (hF : 0 < M 53 13) : Ctr l D cy yX12_expression wsX12_expression ({ frames := 0, cells := 0, slots := 0, locals := 0 } : Room) N sh ad M L R [.ref (ad 53)] (eV N sh ad L R (fun M' => M' = mu M 53 36 0)) := by
  refine Ctr.ofV (by decide) rfl (Nat.le_of_ble_eq_true rfl) ?_
  intro K hKl hKd hRm hnm X hret
  have X : VX K cX12_expression 5 wsX12_expression RX12 := X
  show V K 5 0 0 N sh ad M L R [(0, .ref (ad 53))] [] 0
  refine v_aload_n X 0 dX12_expression_0 rfl rfl ?_
  refine v_iconst X dX12_expression_1 ?_
  refine pt_X12_waiting X iwX12 (Std.lt hS rfl) (Std.k hS rfl rfl) (List.mem_cons_of_mem _ bw_21_14) ⟨by decide, by decide⟩ dX12_expression_2 ?_
  refine v_aload_n X 0 dX12_expression_5 rfl rfl ?_
  refine gt_X12_open X iwX12 (Std.lt hS rfl) (Std.k hS rfl rfl) (List.mem_cons_of_mem _ bw_19_12) dX12_expression_6 (M 53 12) rfl (fun hr1 => ?_)
  refine v_istore_n X [(1, .int (iz (M 53 12))), (0, .ref (ad 53))] dX12_expression_9 rfl (by decide) rfl ?_
  refine v_iconst X dX12_expression_10 ?_
  refine v_istore_n X [(2, .int (iz 1)), (1, .int (iz (M 53 12))), (0, .ref (ad 53))] dX12_expression_11 rfl (by decide) rfl ?_
  refine v_iload_n X 0 dX12_expression_12 rfl rfl ?_
  refine v_if_eq X 360 dX12_expression_13 (by decide) ⟨by decide, by decide⟩ (fun q => absurd q (by decide)) (fun _ => ?_)
  refine v_aload_n X 2 dX12_expression_16 rfl rfl ?_
  refine gt_X12_fault X iwX12 (Std.lt hS rfl) (Std.k hS rfl rfl) (List.mem_cons_of_mem _ bw_19_13) dX12_expression_17 (M 53 13) rfl (fun hr2 => ?_)
  refine v_if_ne X 360 dX12_expression_20 (by decide) ⟨by omega, by omega⟩ (fun u3 => ?_) (fun q => absurd (by omega) q)
  refine hret _ _ _ _ _ _ _ _ _ _ _ none dX12_expression_360 ⟨rfl, rfl⟩ (by decide) (by decide) (fun hmok => ?_)
  refine ⟨rfl, rfl, rfl, rfl, rfl, rfl, ?_⟩
  try dsimp only
  all_goals rfl

