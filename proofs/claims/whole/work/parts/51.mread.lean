/-! THE MODEL READS -/
def cpy (a b : Int → Int) (i : Int) : Int → Int := fun z => if 0 ≤ z ∧ z < i then a z else b z
theorem cpy_0 (M : MI) (o : Nat) (a : Int → Int) : mrow M o (cpy a (M o) 0) = M := by
  funext x y
  by_cases h : x = o
  · subst h
    rw [mrow_s]
    unfold cpy
    rw [if_neg (by omega)]
  · rw [mrow_i _ _ h]
theorem cpy_s (M : MI) (o : Nat) (a b : Int → Int) (i : Int) (h : 0 ≤ i) : mu (mrow M o (cpy a b i)) o i (a i) = mrow M o (cpy a b (i + 1)) := by
  funext x y
  by_cases h1 : x = o
  · subst h1
    rw [mrow_s]
    by_cases h2 : y = i
    · subst h2
      rw [mu_s]
      unfold cpy
      rw [if_pos (by omega)]
    · rw [mu_z _ _ _ h2, mrow_s]
      unfold cpy
      by_cases h3 : 0 ≤ y ∧ y < i
      · rw [if_pos h3, if_pos (by omega)]
      · rw [if_neg h3, if_neg (by omega)]
  · rw [mu_i _ _ _ h1, mrow_i _ _ h1, mrow_i _ _ h1]
theorem bt_cpy (a b : Int → Int) (n : Int) : bt (cpy a b n) n = bt a n := by
  funext j
  unfold bt cpy
  by_cases h : 0 ≤ j ∧ j < n
  · rw [if_pos h, if_pos h, if_pos h]
  · rw [if_neg h, if_neg h]
def frN (s : Int) (M M' : MI) : Prop := (∀ i : Nat, i ≠ 53 → ¬ (55 ≤ i ∧ i ≤ 58) → ¬ (61 ≤ i ∧ i ≤ 75) → M' i = M i) ∧ (∀ z : Int, z ≠ 2 → z ≠ 4 → z ≠ 10 → z ≠ 11 → z ≠ 12 → z ≠ 13 → z ≠ 14 → z ≠ 15 → z ≠ 19 → z ≠ 32 → z ≠ 36 → M' 53 z = M 53 z) ∧ M' 53 2 = 0 ∧ (∀ z : Int, z ≠ s → M' 61 z = M 61 z ∧ M' 67 z = M 67 z) ∧ (∀ i : Nat, 62 ≤ i → i ≤ 66 → ∀ z : Int, (z < 16 * s ∨ 16 * s + 16 ≤ z) → M' i z = M i z) ∧ (∀ i : Nat, 68 ≤ i → i ≤ 72 → ∀ z : Int, (z < 200 * s ∨ 200 * s + 200 ≤ z) → M' i z = M i z) ∧ ∀ z : Int, (z < 500 * s ∨ 500 * s + 500 ≤ z) → M' 73 z = M 73 z ∧ M' 74 z = M 74 z
theorem frN_S {s : Int} {M M1 M2 : MI} (h : frN s M M1) (h' : frS s M1 M2) : frN s M M2 := ⟨fun i a b c => (h'.1 i a c).trans (h.1 i a b c), fun z a1 a2 a3 a4 a5 a6 a7 a8 a9 b1 b2 => (h'.2.1 z a4 a5 a6 a7 b1 b2).trans (h.2.1 z a1 a2 a3 a4 a5 a6 a7 a8 a9 b1 b2), (h'.2.1 2 (by decide) (by decide) (by decide) (by decide) (by decide) (by decide)).trans h.2.2.1, fun z hz => ⟨(h'.2.2.1 z hz).1.trans (h.2.2.2.1 z hz).1, (h'.2.2.1 z hz).2.trans (h.2.2.2.1 z hz).2⟩, fun i a b z hz => (h'.2.2.2.1 i a b z hz).trans (h.2.2.2.2.1 i a b z hz), fun i a b z hz => (h'.2.2.2.2.1 i a b z hz).trans (h.2.2.2.2.2.1 i a b z hz), fun z hz => ⟨(h'.2.2.2.2.2 z hz).1.trans (h.2.2.2.2.2.2 z hz).1, (h'.2.2.2.2.2 z hz).2.trans (h.2.2.2.2.2.2 z hz).2⟩⟩
/-- what the model's reading does -/
def rdM (M : MI) (c0 : CSt) (F : Int) (M' : MI) : Prop := ∃ (t : Nat) (Mz : MI), frN (1 - M 53 18) M Mz ∧ ((F = 0 ∧ kdT (bt (M 54) (M 53 2)) (M 53 2) t = 26 ∧ TS (bt (M 54) (M 53 2)) (M 53 2) c0 (1 - M 53 18) t Mz ∧ M' = mu (mu Mz 53 17 (-1)) 53 18 (1 - M 53 18)) ∨ ((F = 1 ∨ F = 2) ∧ GT (bt (M 54) (M 53 2)) (M 53 2) c0 t ∧ vdT (cm (bt (M 54) (M 53 2)) (M 53 2) c0 t) t (kdT (bt (M 54) (M 53 2)) (M 53 2) t) F ∧ M' = mu Mz 53 17 (plT (bt (M 54) (M 53 2)) (M 53 2) t)))

-- read
set_option maxHeartbeats 4000000 in
set_option maxRecDepth 100000 in
theorem c_X12_read (l : Launch) (D : va_G) (cy : Nat → ClassId) {N : Nat} {sh : MS} {ad : Nat → Nat} {M L : MI} {R : MR} (hS : Std N sh R) (cd rk rs rc re : Int → Int) (hn : 0 ≤ M 53 2 ∧ M 53 2 ≤ 2000) (hl : 0 ≤ M 53 18 ∧ M 53 18 ≤ 1) (hK : keyOk L) : Ctr l D cy yX12_read wsX12_read ({ frames := 5, cells := 0, slots := 0, locals := 116 } : Room) N sh ad M L R [.ref (ad 53)] (eIL N sh ad R (fun r M' L' => rdM M (c00 cd rk rs rc re) r M' ∧ ∀ i : Nat, i ≠ 59 → L' i = L i)) := by
  refine Ctr.ofI (by decide) rfl (Nat.le_of_ble_eq_true rfl) ?_
  intro K hKl hKd hRm hnm X hret
  have X : VX K cX12_read 2 wsX12_read RX12 := X
  show V K 2 0 0 N sh ad M L R [(0, .ref (ad 53))] [] 0
  refine v_aload_n X 0 dX12_read_0 rfl rfl ?_
  refine v_aload_n X 0 dX12_read_1 rfl rfl ?_
  refine gt_X12_taped X iwX12 (Std.lt hS rfl) (Std.k hS rfl rfl) (List.mem_cons_of_mem _ bw_11_4) dX12_read_2 (M 53 2) rfl (fun hr1 => ?_)
  refine pt_X12_size X iwX12 (Std.lt hS rfl) (Std.k hS rfl rfl) (List.mem_cons_of_mem _ bw_19_10) ⟨by omega, by omega⟩ dX12_read_5 ?_
  refine v_iconst X dX12_read_8 ?_
  refine v_istore_n X [(1, .int (iz 0)), (0, .ref (ad 53))] dX12_read_9 rfl (by decide) rfl ?_
  have hl2 : ∀ (n4 : Nat) (i : Int), (0 ≤ i ∧ i ≤ M 53 2) → (M 53 2 - i).toNat < n4 → V K 2 0 0 N sh ad (mrow (mu M 53 4 (M 53 2)) 55 (cpy (M 54) (M 55) i)) L R [(0, .ref (ad 53)), (1, .int (iz i))] [] 10 := by
    intro n4
    induction n4 with
    | zero => intro i hi hn5; exact absurd hn5 (Nat.not_lt_zero _)
    | succ n4 ih3 =>
      intro i hi hn5
      refine v_iload_n X 1 dX12_read_10 rfl rfl ?_
      refine v_aload_n X 0 dX12_read_11 rfl rfl ?_
      refine gt_X12_size X iwX12 (Std.lt hS rfl) (Std.k hS rfl rfl) (List.mem_cons_of_mem _ bw_19_10) dX12_read_12 (M 53 2) rfl (fun hr6 => ?_)
      refine v_icmp_ge X 36 dX12_read_15 (by decide) ⟨by omega, by omega⟩ ⟨by omega, by omega⟩ (fun u7 => ?_) (fun u7 => ?_)
      · skip
        have hi2 : i = M 53 2 := by omega
        subst hi2
        refine v_aload_n X 0 dX12_read_36 rfl rfl ?_
        refine v_iconst X dX12_read_37 ?_
        refine pt_X12_taped X iwX12 (Std.lt hS rfl) (Std.k hS rfl rfl) (List.mem_cons_of_mem _ bw_11_4) ⟨by decide, by decide⟩ dX12_read_38 ?_
        refine v_aload_n X 0 dX12_read_41 rfl rfl ?_
        refine v_callV X [] hRm (c_X12_cut _ _ _ hS (show 0 ≤ M 53 2 ∧ M 53 2 ≤ 2000 from hn) hK) (gV bw_19_19 bw_19_20 bw_19_21 bw_1_5 bw_19_22) rfl ddX12_cut (by decide) (Std.lt hS rfl) (Std.k hS rfl rfl) ⟨rfl, by decide⟩ (Nat.le_of_ble_eq_true rfl) dX12_read_42 (k_eVL (fun Mu Lu eu => ?_))
        obtain ⟨eu1, eu2, eu3, eu4⟩ := eu
        replace eu1 : tokOk (bt (cpy (M 54) (M 55) (M 53 2)) (M 53 2)) (M 53 2) Mu := eu1
        rw [bt_cpy] at eu1
        have u18 : Mu 53 18 = M 53 18 := eu3 18 (by decide)
        refine v_aload_n X 0 dX12_read_45 rfl rfl ?_
        refine v_iconst X dX12_read_46 ?_
        refine pt_X12_t X iwX12 (Std.lt hS rfl) (Std.k hS rfl rfl) (List.mem_cons_of_mem _ bw_19_11) ⟨by decide, by decide⟩ dX12_read_47 ?_
        refine v_aload_n X 0 dX12_read_50 rfl rfl ?_
        refine v_iconst X dX12_read_51 ?_
        refine pt_X12_open X iwX12 (Std.lt hS rfl) (Std.k hS rfl rfl) (List.mem_cons_of_mem _ bw_19_12) ⟨by decide, by decide⟩ dX12_read_52 ?_
        refine v_aload_n X 0 dX12_read_55 rfl rfl ?_
        refine v_iconst X dX12_read_56 ?_
        refine pt_X12_fault X iwX12 (Std.lt hS rfl) (Std.k hS rfl rfl) (List.mem_cons_of_mem _ bw_19_13) ⟨by decide, by decide⟩ dX12_read_57 ?_
        refine v_aload_n X 0 dX12_read_60 rfl rfl ?_
        refine v_iconst X dX12_read_61 ?_
        refine pt_X12_worst X iwX12 (Std.lt hS rfl) (Std.k hS rfl rfl) (List.mem_cons_of_mem _ bw_19_14) ⟨by decide, by decide⟩ dX12_read_62 ?_
        refine v_aload_n X 0 dX12_read_65 rfl rfl ?_
        refine v_iconst X dX12_read_66 ?_
        refine v_aload_n X 0 dX12_read_67 rfl rfl ?_
        refine gt_X12_live X iwX12 (Std.lt hS rfl) (Std.k hS rfl rfl) (List.mem_cons_of_mem _ bw_19_15) dX12_read_68 (Mu 53 18) rfl (fun hr8 => ?_)
        refine v_isub X dX12_read_71 ?_
        obtain ⟨s9, hs9⟩ : ∃ z : Int, z = 1 - Mu 53 18 := ⟨_, rfl⟩
        rw [← hs9]
        have hs9b : s9 = 0 ∨ s9 = 1 := by omega
        have hs9c : s9 = 1 - M 53 18 := by omega
        refine pt_X12_side X iwX12 (Std.lt hS rfl) (Std.k hS rfl rfl) (List.mem_cons_of_mem _ bw_19_16) ⟨by omega, by omega⟩ dX12_read_72 ?_
        refine v_aload_n X 0 dX12_read_75 rfl rfl ?_
        refine gt_X12_rules X iwX12 (Std.lt hS rfl) (Std.k hS rfl rfl) (List.mem_cons_of_mem _ bw_7_23) dX12_read_76 61 (Std.r hS 20 rfl) ?_
        refine v_aload_n X 0 dX12_read_79 rfl rfl ?_
        refine gt_X12_side X iwX12 (Std.lt hS rfl) (Std.k hS rfl rfl) (List.mem_cons_of_mem _ bw_19_16) dX12_read_80 s9 rfl (fun hr9 => ?_)
        refine v_iconst X dX12_read_83 ?_
        refine v_iast X (Std.lt hS rfl) (Std.at hS rfl rfl) (by omega) (by omega) ⟨by decide, by decide⟩ dX12_read_84 ?_
        refine v_aload_n X 0 dX12_read_85 rfl rfl ?_
        refine gt_X12_relations X iwX12 (Std.lt hS rfl) (Std.k hS rfl rfl) (List.mem_cons_of_mem _ bw_8_5) dX12_read_86 67 (Std.r hS 26 rfl) ?_
        refine v_aload_n X 0 dX12_read_89 rfl rfl ?_
        refine gt_X12_side X iwX12 (Std.lt hS rfl) (Std.k hS rfl rfl) (List.mem_cons_of_mem _ bw_19_16) dX12_read_90 s9 rfl (fun hr10 => ?_)
        refine v_iconst X dX12_read_93 ?_
        refine v_iast X (Std.lt hS rfl) (Std.at hS rfl rfl) (by omega) (by omega) ⟨by decide, by decide⟩ dX12_read_94 ?_
        refine v_aload_n X 0 dX12_read_95 rfl rfl ?_
        refine v_sipush X dX12_read_96 (by decide) ?_
        refine v_aload_n X 0 dX12_read_99 rfl rfl ?_
        refine gt_X12_side X iwX12 (Std.lt hS rfl) (Std.k hS rfl rfl) (List.mem_cons_of_mem _ bw_19_16) dX12_read_100 s9 rfl (fun hr11 => ?_)
        refine v_imul X dX12_read_103 ?_
        refine pt_X12_codes X iwX12 (Std.lt hS rfl) (Std.k hS rfl rfl) (List.mem_cons_of_mem _ bw_19_17) ⟨by omega, by omega⟩ dX12_read_104 ?_
        have hl12 : ∀ (n14 : Nat) (My : MI) (t : Nat), (TS (bt (M 54) (M 53 2)) (M 53 2) (c00 cd rk rs rc re) s9 t My) → (frN s9 M My) → (tokOk (bt (M 54) (M 53 2)) (M 53 2) My) → 401 - t < n14 → V K 2 0 0 N sh ad My Lu R [(0, .ref (ad 53))] [] 107 := by
          intro n14
          induction n14 with
          | zero => intro My t hX hfm hTk hn15; exact absurd hn15 (Nat.not_lt_zero _)
          | succ n14 ih13 =>
            intro My t hX hfm hTk hn15
            obtain ⟨sd, cz, rz, cd1, rk1, rs1, rc1, re1, xG, xc, ⟨x11, x12, x13, x19, x61⟩, x5⟩ := id hX
            have x400 := xG.1
            have xK := GT_tok xG hTk
            rw [← x11] at xK
            have xQ := cOf_key (m := My 56 (My 53 11))
            rw [xK.1] at xQ
            refine v_aload_n X 0 dX12_read_107 rfl rfl ?_
            refine gt_X12_fault X iwX12 (Std.lt hS rfl) (Std.k hS rfl rfl) (List.mem_cons_of_mem _ bw_19_13) dX12_read_108 (My 53 13) rfl (fun hr16 => ?_)
            refine v_if_ne X 129 dX12_read_111 (by decide) ⟨by omega, by omega⟩ (fun q => absurd q (by omega)) (fun u17 => ?_)
            refine v_aload_n X 0 dX12_read_114 rfl rfl ?_
            refine v_iconst X dX12_read_115 ?_
            refine v_callV X [.int (iz 0)] hRm (c_X12_is _ _ _ hS 0 ⟨by decide, by decide⟩ (show 0 ≤ (My 53 11) ∧ (My 53 11) < 403 by omega)) (gV bw_20_18 bw_20_19 bw_20_20 bw_1_5 bw_20_21) rfl ddX12_is (by decide) (Std.lt hS rfl) (Std.k hS rfl rfl) ⟨rfl, by decide⟩ (Nat.le_of_ble_eq_true rfl) dX12_read_116 (k_pB (fun b18 => ?_) (fun b18 => ?_))
            · skip
              replace b18 : My 56 (My 53 11) = 0 := b18.2
              refine v_if_ne X 129 dX12_read_119 (by decide) ⟨by decide, by decide⟩ (fun _ => ?_) (fun q => absurd (by decide) q)
              refine v_aload_n X 0 dX12_read_129 rfl rfl ?_
              refine v_aload_n X 0 dX12_read_130 rfl rfl ?_
              refine gt_X12_fault X iwX12 (Std.lt hS rfl) (Std.k hS rfl rfl) (List.mem_cons_of_mem _ bw_19_13) dX12_read_131 (My 53 13) rfl (fun hr19 => ?_)
              refine v_if_le X 144 dX12_read_134 (by decide) ⟨by omega, by omega⟩ (fun u20 => ?_) (fun q => absurd (by omega) q)
              refine v_iconst X dX12_read_144 ?_
              refine pt_X12_place X iwX12 (Std.lt hS rfl) (Std.k hS rfl rfl) (List.mem_cons_of_mem _ bw_7_22) ⟨by decide, by decide⟩ dX12_read_145 ?_
              refine v_aload_n X 0 dX12_read_148 rfl rfl ?_
              refine gt_X12_fault X iwX12 (Std.lt hS rfl) (Std.k hS rfl rfl) (List.mem_cons_of_mem _ bw_19_13) dX12_read_149 (My 53 13) rfl (fun hr21 => ?_)
              refine v_if_le X 160 dX12_read_152 (by decide) ⟨by omega, by omega⟩ (fun u22 => ?_) (fun q => absurd (by omega) q)
              refine v_aload_n X 0 dX12_read_160 rfl rfl ?_
              refine v_aload_n X 0 dX12_read_161 rfl rfl ?_
              refine gt_X12_side X iwX12 (Std.lt hS rfl) (Std.k hS rfl rfl) (List.mem_cons_of_mem _ bw_19_16) dX12_read_162 (My 53 19) rfl (fun hr23 => ?_)
              refine pt_X12_live X iwX12 (Std.lt hS rfl) (Std.k hS rfl rfl) (List.mem_cons_of_mem _ bw_19_15) ⟨by omega, by omega⟩ dX12_read_165 ?_
              refine v_iconst X dX12_read_168 ?_
              refine hret _ _ _ _ _ _ _ _ _ _ _ (some (.int (iz 0))) dX12_read_169 ⟨rfl, _, rfl⟩ (by decide) (by decide) (fun hmok => ?_)
              refine ⟨rfl, rfl, rfl, rfl, 0, rfl, ⟨by decide, by decide⟩, ⟨t, My, ?_, Or.inl ⟨rfl, by omega, ?_, ?_⟩⟩, fun i hi => eu4 i hi⟩
              · rw [← hs9c]; exact hfm
              · rw [← hs9c]; exact hX
              · rw [← hs9c, ← x19]
            · skip
              replace b18 : ¬ My 56 (My 53 11) = 0 := fun z => b18 ⟨x13, z⟩
              refine v_if_ne X 129 dX12_read_119 (by decide) ⟨by decide, by decide⟩ (fun q => absurd q (by decide)) (fun _ => ?_)
              refine v_aload_n X 0 dX12_read_122 rfl rfl ?_
              refine v_callV X [] hRm (c_X12_tellRule _ _ _ hS (M 54) (M 53 2) (c00 cd rk rs rc re) s9 t hs9b hTk hX (by omega) (show (0 : Int) + (0 : Int) ≤ 0 by decide)) (gV bw_20_22 bw_20_23 bw_21_0 bw_1_5 bw_21_1) rfl ddX12_tellRule (by decide) (Std.lt hS rfl) (Std.k hS rfl rfl) ⟨rfl, by decide⟩ (Nat.le_of_ble_eq_true rfl) dX12_read_123 (k_eV (fun Mv ev => ?_))
              obtain ⟨ev, efs⟩ := ev
              have hfm1 := frN_S hfm efs
              have hTk1 := frS_tok efs hTk
              rcases ev with efl | ⟨t1, ht1, hX1⟩
              · skip
                obtain ⟨t9, F9, f1, f2, f3, f4, f5, f6⟩ := efl
                refine v_goto X 107 dX12_read_126 (by decide) ?_
                refine v_aload_n X 0 dX12_read_107 rfl rfl ?_
                refine gt_X12_fault X iwX12 (Std.lt hS rfl) (Std.k hS rfl rfl) (List.mem_cons_of_mem _ bw_19_13) dX12_read_108 (Mv 53 13) rfl (fun hr24 => ?_)
                refine v_if_ne X 129 dX12_read_111 (by decide) ⟨by omega, by omega⟩ (fun u25 => ?_) (fun q => absurd (by omega) q)
                refine v_aload_n X 0 dX12_read_129 rfl rfl ?_
                refine v_aload_n X 0 dX12_read_130 rfl rfl ?_
                refine gt_X12_fault X iwX12 (Std.lt hS rfl) (Std.k hS rfl rfl) (List.mem_cons_of_mem _ bw_19_13) dX12_read_131 (Mv 53 13) rfl (fun hr26 => ?_)
                refine v_if_le X 144 dX12_read_134 (by decide) ⟨by omega, by omega⟩ (fun q => absurd q (by omega)) (fun u27 => ?_)
                refine v_aload_n X 0 dX12_read_137 rfl rfl ?_
                refine gt_X12_faultPlace X iwX12 (Std.lt hS rfl) (Std.k hS rfl rfl) (List.mem_cons_of_mem _ bw_19_18) dX12_read_138 (Mv 53 14) rfl (fun hr28 => ?_)
                refine v_goto X 145 dX12_read_141 (by decide) ?_
                refine pt_X12_place X iwX12 (Std.lt hS rfl) (Std.k hS rfl rfl) (List.mem_cons_of_mem _ bw_7_22) ⟨by omega, by omega⟩ dX12_read_145 ?_
                refine v_aload_n X 0 dX12_read_148 rfl rfl ?_
                refine gt_X12_fault X iwX12 (Std.lt hS rfl) (Std.k hS rfl rfl) (List.mem_cons_of_mem _ bw_19_13) dX12_read_149 (Mv 53 13) rfl (fun hr29 => ?_)
                refine v_if_le X 160 dX12_read_152 (by decide) ⟨by omega, by omega⟩ (fun q => absurd q (by omega)) (fun u30 => ?_)
                refine v_aload_n X 0 dX12_read_155 rfl rfl ?_
                refine gt_X12_fault X iwX12 (Std.lt hS rfl) (Std.k hS rfl rfl) (List.mem_cons_of_mem _ bw_19_13) dX12_read_156 (Mv 53 13) rfl (fun hr31 => ?_)
                refine hret _ _ _ _ _ _ _ _ _ _ _ (some (.int (iz (Mv 53 13)))) dX12_read_159 ⟨rfl, _, rfl⟩ (by decide) (by decide) (fun hmok => ?_)
                refine ⟨rfl, rfl, rfl, rfl, (Mv 53 13), rfl, ⟨by omega, by omega⟩, ⟨t9, Mv, ?_, Or.inr ⟨by omega, f1, ?_, ?_⟩⟩, fun i hi => eu4 i hi⟩
                · rw [← hs9c]; exact hfm1
                · rw [f3]; exact f2
                · rw [f5]
              · skip
                refine v_goto X 107 dX12_read_126 (by decide) ?_
                exact ih13 Mv t1 (hX1) (hfm1) (hTk1) (by omega)
        refine v_lv [0] rfl ?_
        exact hl12 _ (mu (mu (mu (mu (mu (mu (mu (mu Mu 53 11 0) 53 12 0) 53 13 0) 53 15 0) 53 19 s9) 61 s9 0) 67 s9 0) 53 32 (500 * s9)) 0 (⟨0, 0, 0, cd, rk, rs, rc, re, ⟨by decide, fun i hi => absurd hi (Nat.not_lt_zero i)⟩, rfl, ⟨rfl, rfl, rfl, rfl, by rw [mu_i _ _ _ (by decide), mu_i _ _ _ (by decide), mu_s]⟩, ⟨Int.le_refl _, by show 500 * s9 - 500 * s9 ≤ 0; omega, by rw [mu_i _ _ _ (by decide), mu_s]; exact Int.le_refl _, by rw [mu_i _ _ _ (by decide), mu_s]; decide⟩, ⟨Int.le_refl _, by decide⟩, fun r r1 r2 => by omega⟩) (⟨fun i i1 i2 i3 => (by rw [mu_i _ _ _ (by omega), mu_i _ _ _ (by omega), mu_i _ _ _ (by omega), mu_i _ _ _ (by omega), mu_i _ _ _ (by omega), mu_i _ _ _ (by omega), mu_i _ _ _ (by omega), mu_i _ _ _ (by omega), eu2 i i1 (by omega)]; exact (show (mu (mrow (mu M 53 4 (M 53 2)) 55 (cpy (M 54) (M 55) (M 53 2))) 53 2 0) i = M i by rw [mu_i _ _ _ (by omega), mrow_i _ _ (by omega), mu_i _ _ _ (by omega)])), fun z a1 a2 a3 a4 a5 a6 a7 a8 a9 b1 b2 => (by rw [mu_z _ _ _ b1, mu_i _ _ _ (by decide), mu_i _ _ _ (by decide), mu_z _ _ _ a9, mu_z _ _ _ a8, mu_z _ _ _ a6, mu_z _ _ _ a5, mu_z _ _ _ a4, eu3 z a3, mu_z _ _ _ a1, mrow_i _ _ (by decide), mu_z _ _ _ a2]), (by rw [mu_z _ _ _ (by decide), mu_i _ _ _ (by decide), mu_i _ _ _ (by decide), mu_z _ _ _ (by decide), mu_z _ _ _ (by decide), mu_z _ _ _ (by decide), mu_z _ _ _ (by decide), mu_z _ _ _ (by decide), eu3 2 (by decide), mu_s]), fun z hz => ⟨(by rw [mu_i _ _ _ (by decide), mu_i _ _ _ (by decide), mu_z _ _ _ hz, mu_i _ _ _ (by decide), mu_i _ _ _ (by decide), mu_i _ _ _ (by decide), mu_i _ _ _ (by decide), mu_i _ _ _ (by decide), eu2 61 (by decide) (by decide)]; rfl), (by rw [mu_i _ _ _ (by decide), mu_z _ _ _ hz, mu_i _ _ _ (by decide), mu_i _ _ _ (by decide), mu_i _ _ _ (by decide), mu_i _ _ _ (by decide), mu_i _ _ _ (by decide), mu_i _ _ _ (by decide), eu2 67 (by decide) (by decide)]; rfl)⟩, fun i i1 i2 z hz => (by rw [mu_i _ _ _ (by omega), mu_i _ _ _ (by omega), mu_i _ _ _ (by omega), mu_i _ _ _ (by omega), mu_i _ _ _ (by omega), mu_i _ _ _ (by omega), mu_i _ _ _ (by omega), mu_i _ _ _ (by omega), eu2 i (by omega) (by omega), mu_i _ _ _ (by omega), mrow_i _ _ (by omega), mu_i _ _ _ (by omega)]), fun i i1 i2 z hz => (by rw [mu_i _ _ _ (by omega), mu_i _ _ _ (by omega), mu_i _ _ _ (by omega), mu_i _ _ _ (by omega), mu_i _ _ _ (by omega), mu_i _ _ _ (by omega), mu_i _ _ _ (by omega), mu_i _ _ _ (by omega), eu2 i (by omega) (by omega), mu_i _ _ _ (by omega), mrow_i _ _ (by omega), mu_i _ _ _ (by omega)]), fun z hz => ⟨(by rw [mu_i _ _ _ (by decide), mu_i _ _ _ (by decide), mu_i _ _ _ (by decide), mu_i _ _ _ (by decide), mu_i _ _ _ (by decide), mu_i _ _ _ (by decide), mu_i _ _ _ (by decide), mu_i _ _ _ (by decide), eu2 73 (by decide) (by decide)]; rfl), (by rw [mu_i _ _ _ (by decide), mu_i _ _ _ (by decide), mu_i _ _ _ (by decide), mu_i _ _ _ (by decide), mu_i _ _ _ (by decide), mu_i _ _ _ (by decide), mu_i _ _ _ (by decide), mu_i _ _ _ (by decide), eu2 74 (by decide) (by decide)]; rfl)⟩⟩) (fun k k1 k2 => by rw [mu_i _ _ _ (by decide), mu_i _ _ _ (by decide), mu_i _ _ _ (by decide), mu_i _ _ _ (by decide), mu_i _ _ _ (by decide), mu_i _ _ _ (by decide), mu_i _ _ _ (by decide), mu_i _ _ _ (by decide), mu_i _ _ _ (by decide), mu_i _ _ _ (by decide), mu_i _ _ _ (by decide), mu_i _ _ _ (by decide), mu_i _ _ _ (by decide), mu_i _ _ _ (by decide), mu_i _ _ _ (by decide), mu_i _ _ _ (by decide), mu_i _ _ _ (by decide), mu_i _ _ _ (by decide), mu_i _ _ _ (by decide), mu_i _ _ _ (by decide), mu_i _ _ _ (by decide), mu_i _ _ _ (by decide), mu_i _ _ _ (by decide), mu_i _ _ _ (by decide)]; exact eu1 k k1 k2) (Nat.lt_succ_self _)
      · skip
        refine v_aload_n X 0 dX12_read_18 rfl rfl ?_
        refine gt_X12_text X iwX12 (Std.lt hS rfl) (Std.k hS rfl rfl) (List.mem_cons_of_mem _ bw_7_15) dX12_read_19 55 (Std.r hS 3 rfl) ?_
        refine v_iload_n X 1 dX12_read_22 rfl rfl ?_
        refine v_aload_n X 0 dX12_read_23 rfl rfl ?_
        refine gt_X12_tape X iwX12 (Std.lt hS rfl) (Std.k hS rfl rfl) (List.mem_cons_of_mem _ bw_7_14) dX12_read_24 54 (Std.r hS 1 rfl) ?_
        refine v_iload_n X 1 dX12_read_27 rfl rfl ?_
        refine v_bald X (M 54 i) (Std.lt hS rfl) (Std.at hS rfl rfl) (by omega) (by omega) dX12_read_28 rfl (fun hr32 => ?_)
        refine v_bast X (Std.lt hS rfl) (Std.at hS rfl rfl) (by omega) (by omega) ⟨by omega, by omega⟩ dX12_read_29 ?_
        refine v_iinc X 1 [(1, .int (iz (i + 1))), (0, .ref (ad 53))] dX12_read_30 rfl (by decide) rfl ?_
        refine v_goto X 10 dX12_read_33 (by decide) ?_
        refine v_lv [1, 0] rfl ?_
        refine v_mem (M' := (mrow (mu M 53 4 (M 53 2)) 55 (cpy (M 54) (M 55) (i + 1)))) (by exact cpy_s (mu M 53 4 (M 53 2)) 55 (M 54) (M 55) i (by omega)) rfl rfl ?_
        exact ih3 (i + 1) (by omega) (by omega)
  refine v_lv [1, 0] rfl ?_
  refine v_mem (M' := (mrow (mu M 53 4 (M 53 2)) 55 (cpy (M 54) (M 55) 0))) (by exact (cpy_0 (mu M 53 4 (M 53 2)) 55 (M 54)).symm) rfl rfl ?_
  exact hl2 _ 0 (by omega) (Nat.lt_succ_self _)

