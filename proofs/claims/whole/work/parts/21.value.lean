/-! THE MODEL'S CODE: 0 an int, 1 a variable, 2 plus, 3 minus, 4 times -/
def mBin (op a b : Int) : Int := if op = 2 then wrp (a + b) else if op = 3 then wrp (a - b) else wrp (a * b)
def vStep (v : Int → Int) (st : List Int) (op arg : Int) : List Int := if op < 2 then (if op = 0 then arg else v arg) :: st else bin (mBin op) st
def vRun (c ci v : Int → Int) (f : Int) : Nat → List Int
  | 0 => []
  | n + 1 => vStep v (vRun c ci v f n) (c (f + (n : Int))) (ci (f + (n : Int)))
theorem vRun_s (c ci v : Int → Int) (f : Int) (n : Nat) : vRun c ci v f (n + 1) = vStep v (vRun c ci v f n) (c (f + (n : Int))) (ci (f + (n : Int))) := rfl
def mVal (c ci v : Int → Int) (f e : Int) : Int := (vRun c ci v f (e - f).toNat).getLastD 0
def mWf (c ci : Int → Int) (f e : Int) : Prop := (0 ≤ f ∧ f < e ∧ e ≤ 1000 ∧ e - f ≤ 400) ∧ (∀ n : Nat, (n : Int) < e - f → 0 ≤ c (f + (n : Int)) ∧ (c (f + (n : Int)) = 1 → 0 ≤ ci (f + (n : Int)) ∧ ci (f + (n : Int)) < 9) ∧ ∀ v : Int → Int, 2 ≤ c (f + (n : Int)) → 2 ≤ ((vRun c ci v f n).length : Int)) ∧ ∀ v : Int → Int, vRun c ci v f (e - f).toNat ≠ []
def relB (s a b : Int) : Bool := if s = 0 then decide (a = b) else if s = 1 then decide (a ≠ b) else if s = 2 then decide (a < b) else decide (a ≤ b)
/-- over the relations: whether it is true already, and whether the ones of this 'and' hold -/
def hSt (o x : Int → Bool) (k0 : Int) : Nat → Bool × Bool
  | 0 => (false, false)
  | n + 1 => if (hSt o x k0 n).1 = true then hSt o x k0 n else if o (k0 + (n : Int)) = true ∧ (hSt o x k0 n).2 = true then (true, true) else if o (k0 + (n : Int)) = true ∨ (hSt o x k0 n).2 = true then (false, x (k0 + (n : Int))) else (false, false)
theorem hSt_s (o x : Int → Bool) (k0 : Int) (n : Nat) : hSt o x k0 (n + 1) = if (hSt o x k0 n).1 = true then hSt o x k0 n else if o (k0 + (n : Int)) = true ∧ (hSt o x k0 n).2 = true then (true, true) else if o (k0 + (n : Int)) = true ∨ (hSt o x k0 n).2 = true then (false, x (k0 + (n : Int))) else (false, false) := rfl
theorem hSt_done {o x : Int → Bool} {k0 : Int} {j n : Nat} (h : hSt o x k0 j = (true, true)) (hn : j ≤ n) : hSt o x k0 n = (true, true) := by
  induction n with
  | zero => rw [show j = 0 by omega] at h; exact h
  | succ n ih =>
    rcases Nat.lt_or_ge n j with q | q
    · rw [show n + 1 = j by omega]; exact h
    · rw [hSt_s, ih q]; rfl
def hRes (o x : Int → Bool) (k0 : Int) (n : Nat) : Bool := (hSt o x k0 n).1 || (hSt o x k0 n).2

-- value
set_option maxHeartbeats 4000000 in
set_option maxRecDepth 100000 in
theorem c_X12_value (l : Launch) (D : va_G) (cy : Nat → ClassId) {N : Nat} {sh : MS} {ad : Nat → Nat} {M L : MI} {R : MR} (hS : Std N sh R) (f e : Int) (hw : mWf (M 73) (M 74) f e) : Ctr l D cy yX12_value wsX12_value ({ frames := 0, cells := 0, slots := 0, locals := 0 } : Room) N sh ad M L R [.ref (ad 53), .int (iz f), .int (iz e)] (eI N sh ad L R (fun r M' => r = mVal (M 73) (M 74) (M 94) f e ∧ ∃ g : Int → Int, M' = mrow M 95 g)) := by
  refine Ctr.ofI (by decide) rfl (Nat.le_of_ble_eq_true rfl) ?_
  intro K hKl hKd hRm hnm X hret
  have X : VX K cX12_value 7 wsX12_value RX12 := X
  show V K 7 0 0 N sh ad M L R [(0, .ref (ad 53)), (1, .int (iz f)), (2, .int (iz e))] [] 0
  have hw1 := hw.1
  refine v_iconst X dX12_value_0 ?_
  refine v_istore_n X [(3, .int (iz 0)), (0, .ref (ad 53)), (1, .int (iz f)), (2, .int (iz e))] dX12_value_1 rfl (by decide) rfl ?_
  refine v_iload_n X 2 dX12_value_2 rfl rfl ?_
  refine v_istore X [(4, .int (iz f)), (3, .int (iz 0)), (0, .ref (ad 53)), (1, .int (iz f)), (2, .int (iz e))] dX12_value_3 (by decide) rfl ?_
  have hl1 : ∀ (n3 : Nat) (tp : Int) (i : Int) (j : Nat) (g : Int → Int), (i = f + (j : Int)) → (i ≤ e) → (tp = ((vRun (M 73) (M 74) (M 94) f j).length : Int)) → (0 ≤ tp ∧ tp ≤ (j : Int)) → (rep g (vRun (M 73) (M 74) (M 94) f j)) → (e - i).toNat < n3 → V K 7 0 0 N sh ad (mrow M 95 g) L R [(0, .ref (ad 53)), (1, .int (iz f)), (2, .int (iz e)), (3, .int (iz tp)), (4, .int (iz i))] [] 5 := by
    intro n3
    induction n3 with
    | zero => intro tp i j g ei hi ht ht2 hrep hn4; exact absurd hn4 (Nat.not_lt_zero _)
    | succ n3 ih2 =>
      intro tp i j g ei hi ht ht2 hrep hn4
      refine v_iload X 4 dX12_value_5 rfl ?_
      refine v_iload_n X 2 dX12_value_7 rfl rfl ?_
      refine v_icmp_ge X 144 dX12_value_8 (by decide) ⟨by omega, by omega⟩ ⟨by omega, by omega⟩ (fun u5 => ?_) (fun u5 => ?_)
      · skip
        refine v_aload_n X 0 dX12_value_144 rfl rfl ?_
        refine gt_X12_pile X iwX12 (Std.lt hS rfl) (Std.k hS rfl rfl) (List.mem_cons_of_mem _ bw_9_9) dX12_value_145 95 (Std.r hS 61 rfl) ?_
        refine v_iconst X dX12_value_148 ?_
        refine v_iald X (g 0) (Std.lt hS rfl) (Std.at hS rfl rfl) (by omega) (by omega) dX12_value_149 rfl (fun hr6 => ?_)
        refine hret _ _ _ _ _ _ _ _ _ _ _ (some (.int (iz (g 0)))) dX12_value_150 ⟨rfl, _, rfl⟩ (by decide) (by decide) (fun hmok => ?_)
        refine ⟨rfl, rfl, rfl, rfl, rfl, (g 0), rfl, ⟨by omega, by omega⟩, ?_⟩
        try dsimp only
        refine ⟨?_, ⟨_, rfl⟩⟩
        unfold mVal
        rw [← rep_last (g := g) (by rw [show (e - f).toNat = j by omega]; exact hrep) (hw.2.2 (M 94))]
      · skip
        have hc9 := hw.2.1 j (by omega)
        rw [← ei] at hc9
        refine v_aload_n X 0 dX12_value_11 rfl rfl ?_
        refine gt_X12_code X iwX12 (Std.lt hS rfl) (Std.k hS rfl rfl) (List.mem_cons_of_mem _ bw_8_11) dX12_value_12 73 (Std.r hS 33 rfl) ?_
        refine v_iload X 4 dX12_value_15 rfl ?_
        refine v_iald X (M 73 i) (Std.lt hS rfl) (Std.at hS rfl rfl) (by omega) (by omega) dX12_value_17 rfl (fun hr7 => ?_)
        refine v_iconst X dX12_value_18 ?_
        refine v_icmp_ge X 66 dX12_value_19 (by decide) ⟨by omega, by omega⟩ ⟨by decide, by decide⟩ (fun u8 => ?_) (fun u8 => ?_)
        · skip
          obtain ⟨b9, a9, t9, hst⟩ := two_of (st := (vRun (M 73) (M 74) (M 94) f j)) (by have := hc9.2.2 (M 94) (by omega); omega)
          have hl9 : tp = (t9.length : Int) + 2 := by rw [hst] at ht; simp only [List.length_cons] at ht; omega
          have hb9 : g (tp + -1) = b9 := by rw [hst] at hrep; exact rep_b hrep (by omega)
          have ha9 : g (tp + -1 - 1) = a9 := by rw [hst] at hrep; exact rep_a hrep (by omega)
          refine v_iinc X 3 [(3, .int (iz (tp + (-1)))), (0, .ref (ad 53)), (1, .int (iz f)), (2, .int (iz e)), (4, .int (iz i))] dX12_value_66 rfl (by decide) rfl ?_
          refine v_aload_n X 1 dX12_value_69 rfl rfl ?_
          refine gt_X12_pile X iwX12 (Std.lt hS rfl) (Std.k hS rfl rfl) (List.mem_cons_of_mem _ bw_9_9) dX12_value_70 95 (Std.r hS 61 rfl) ?_
          refine v_iload_n X 0 dX12_value_73 rfl rfl ?_
          refine v_iconst X dX12_value_74 ?_
          refine v_isub X dX12_value_75 ?_
          refine v_iald X (g ((tp + (-1)) - 1)) (Std.lt hS rfl) (Std.at hS rfl rfl) (by omega) (by omega) dX12_value_76 rfl (fun hr9 => ?_)
          refine v_istore X [(5, .int (iz (g ((tp + (-1)) - 1)))), (3, .int (iz (tp + (-1)))), (0, .ref (ad 53)), (1, .int (iz f)), (2, .int (iz e)), (4, .int (iz i))] dX12_value_77 (by decide) rfl ?_
          refine v_aload_n X 2 dX12_value_79 rfl rfl ?_
          refine gt_X12_pile X iwX12 (Std.lt hS rfl) (Std.k hS rfl rfl) (List.mem_cons_of_mem _ bw_9_9) dX12_value_80 95 (Std.r hS 61 rfl) ?_
          refine v_iload_n X 1 dX12_value_83 rfl rfl ?_
          refine v_iald X (g (tp + (-1))) (Std.lt hS rfl) (Std.at hS rfl rfl) (by omega) (by omega) dX12_value_84 rfl (fun hr10 => ?_)
          refine v_istore X [(6, .int (iz (g (tp + (-1))))), (5, .int (iz (g ((tp + (-1)) - 1)))), (3, .int (iz (tp + (-1)))), (0, .ref (ad 53)), (1, .int (iz f)), (2, .int (iz e)), (4, .int (iz i))] dX12_value_85 (by decide) rfl ?_
          refine v_aload_n X 3 dX12_value_87 rfl rfl ?_
          refine gt_X12_pile X iwX12 (Std.lt hS rfl) (Std.k hS rfl rfl) (List.mem_cons_of_mem _ bw_9_9) dX12_value_88 95 (Std.r hS 61 rfl) ?_
          refine v_iload_n X 2 dX12_value_91 rfl rfl ?_
          refine v_iconst X dX12_value_92 ?_
          refine v_isub X dX12_value_93 ?_
          refine v_aload_n X 3 dX12_value_94 rfl rfl ?_
          refine gt_X12_code X iwX12 (Std.lt hS rfl) (Std.k hS rfl rfl) (List.mem_cons_of_mem _ bw_8_11) dX12_value_95 73 (Std.r hS 33 rfl) ?_
          refine v_iload X 6 dX12_value_98 rfl ?_
          refine v_iald X (M 73 i) (Std.lt hS rfl) (Std.at hS rfl rfl) (by omega) (by omega) dX12_value_100 rfl (fun hr11 => ?_)
          refine v_iconst X dX12_value_101 ?_
          refine v_icmp_ne X 113 dX12_value_102 (by decide) ⟨by omega, by omega⟩ ⟨by decide, by decide⟩ (fun u12 => ?_) (fun u12 => ?_)
          · skip
            refine v_aload_n X 3 dX12_value_113 rfl rfl ?_
            refine gt_X12_code X iwX12 (Std.lt hS rfl) (Std.k hS rfl rfl) (List.mem_cons_of_mem _ bw_8_11) dX12_value_114 73 (Std.r hS 33 rfl) ?_
            refine v_iload X 6 dX12_value_117 rfl ?_
            refine v_iald X (M 73 i) (Std.lt hS rfl) (Std.at hS rfl rfl) (by omega) (by omega) dX12_value_119 rfl (fun hr13 => ?_)
            refine v_iconst X dX12_value_120 ?_
            refine v_icmp_ne X 132 dX12_value_121 (by decide) ⟨by omega, by omega⟩ ⟨by decide, by decide⟩ (fun u14 => ?_) (fun u14 => ?_)
            · skip
              refine v_iload X 1 dX12_value_132 rfl ?_
              refine v_iload X 0 dX12_value_134 rfl ?_
              refine v_imul X dX12_value_136 ?_
              refine v_st (st' := [.int (iz (wrp ((g ((tp + (-1)) - 1)) * (g (tp + (-1)))))), .int (iz ((tp + (-1)) - 1)), .ref (ad 95)]) (by rw [wrp_iz]) ?_
              have hw9 := wrp_in ((g ((tp + (-1)) - 1)) * (g (tp + (-1))))
              refine v_iast X (Std.lt hS rfl) (Std.at hS rfl rfl) (by omega) (by omega) ⟨by omega, by omega⟩ dX12_value_137 ?_
              refine v_iinc X 6 [(4, .int (iz (i + 1))), (6, .int (iz (g (tp + (-1))))), (5, .int (iz (g ((tp + (-1)) - 1)))), (3, .int (iz (tp + (-1)))), (0, .ref (ad 53)), (1, .int (iz f)), (2, .int (iz e))] dX12_value_138 rfl (by decide) rfl ?_
              refine v_goto X 5 dX12_value_141 (by decide) ?_
              refine v_lv [4, 5, 6, 3, 0] rfl ?_
              refine v_mem (M' := (mrow M 95 (fun b => if b = ((tp + (-1)) - 1) then (wrp ((g ((tp + (-1)) - 1)) * (g (tp + (-1))))) else g b))) (by simp only [mu_mrow]) rfl rfl ?_
              exact ih2 (tp + (-1)) (i + 1) (j + 1) (fun b => if b = ((tp + (-1)) - 1) then (wrp ((g ((tp + (-1)) - 1)) * (g (tp + (-1))))) else g b) (by omega) (by omega) (by subst ei; rw [vRun_s, hst]; unfold vStep; rw [if_neg (by omega)]; show _ = ((mBin _ _ _ :: t9).length : Int); simp only [List.length_cons]; omega) (by omega) (by subst ei; rw [vRun_s, hst]; unfold vStep; rw [if_neg (by omega)]; show rep _ (mBin (M 73 (f + (j : Int))) a9 b9 :: t9); unfold mBin; rw [if_neg (by omega), if_neg (by omega)]; rw [hb9, ha9]; rw [hst] at hrep; exact rep_bin hrep (by omega)) (by omega)
            · skip
              refine v_iload X 1 dX12_value_124 rfl ?_
              refine v_iload X 0 dX12_value_126 rfl ?_
              refine v_isub X dX12_value_128 ?_
              refine v_goto X 137 dX12_value_129 (by decide) ?_
              refine v_st (st' := [.int (iz (wrp ((g ((tp + (-1)) - 1)) - (g (tp + (-1)))))), .int (iz ((tp + (-1)) - 1)), .ref (ad 95)]) (by rw [wrp_iz]) ?_
              have hw9 := wrp_in ((g ((tp + (-1)) - 1)) - (g (tp + (-1))))
              refine v_iast X (Std.lt hS rfl) (Std.at hS rfl rfl) (by omega) (by omega) ⟨by omega, by omega⟩ dX12_value_137 ?_
              refine v_iinc X 6 [(4, .int (iz (i + 1))), (6, .int (iz (g (tp + (-1))))), (5, .int (iz (g ((tp + (-1)) - 1)))), (3, .int (iz (tp + (-1)))), (0, .ref (ad 53)), (1, .int (iz f)), (2, .int (iz e))] dX12_value_138 rfl (by decide) rfl ?_
              refine v_goto X 5 dX12_value_141 (by decide) ?_
              refine v_lv [4, 5, 6, 3, 0] rfl ?_
              refine v_mem (M' := (mrow M 95 (fun b => if b = ((tp + (-1)) - 1) then (wrp ((g ((tp + (-1)) - 1)) - (g (tp + (-1))))) else g b))) (by simp only [mu_mrow]) rfl rfl ?_
              exact ih2 (tp + (-1)) (i + 1) (j + 1) (fun b => if b = ((tp + (-1)) - 1) then (wrp ((g ((tp + (-1)) - 1)) - (g (tp + (-1))))) else g b) (by omega) (by omega) (by subst ei; rw [vRun_s, hst]; unfold vStep; rw [if_neg (by omega)]; show _ = ((mBin _ _ _ :: t9).length : Int); simp only [List.length_cons]; omega) (by omega) (by subst ei; rw [vRun_s, hst]; unfold vStep; rw [if_neg (by omega)]; show rep _ (mBin (M 73 (f + (j : Int))) a9 b9 :: t9); unfold mBin; rw [if_neg (by omega), if_pos (by omega)]; rw [hb9, ha9]; rw [hst] at hrep; exact rep_bin hrep (by omega)) (by omega)
          · skip
            refine v_iload X 1 dX12_value_105 rfl ?_
            refine v_iload X 0 dX12_value_107 rfl ?_
            refine v_iadd X dX12_value_109 ?_
            refine v_goto X 137 dX12_value_110 (by decide) ?_
            refine v_st (st' := [.int (iz (wrp ((g ((tp + (-1)) - 1)) + (g (tp + (-1)))))), .int (iz ((tp + (-1)) - 1)), .ref (ad 95)]) (by rw [wrp_iz]) ?_
            have hw9 := wrp_in ((g ((tp + (-1)) - 1)) + (g (tp + (-1))))
            refine v_iast X (Std.lt hS rfl) (Std.at hS rfl rfl) (by omega) (by omega) ⟨by omega, by omega⟩ dX12_value_137 ?_
            refine v_iinc X 6 [(4, .int (iz (i + 1))), (6, .int (iz (g (tp + (-1))))), (5, .int (iz (g ((tp + (-1)) - 1)))), (3, .int (iz (tp + (-1)))), (0, .ref (ad 53)), (1, .int (iz f)), (2, .int (iz e))] dX12_value_138 rfl (by decide) rfl ?_
            refine v_goto X 5 dX12_value_141 (by decide) ?_
            refine v_lv [4, 5, 6, 3, 0] rfl ?_
            refine v_mem (M' := (mrow M 95 (fun b => if b = ((tp + (-1)) - 1) then (wrp ((g ((tp + (-1)) - 1)) + (g (tp + (-1))))) else g b))) (by simp only [mu_mrow]) rfl rfl ?_
            exact ih2 (tp + (-1)) (i + 1) (j + 1) (fun b => if b = ((tp + (-1)) - 1) then (wrp ((g ((tp + (-1)) - 1)) + (g (tp + (-1))))) else g b) (by omega) (by omega) (by subst ei; rw [vRun_s, hst]; unfold vStep; rw [if_neg (by omega)]; show _ = ((mBin _ _ _ :: t9).length : Int); simp only [List.length_cons]; omega) (by omega) (by subst ei; rw [vRun_s, hst]; unfold vStep; rw [if_neg (by omega)]; show rep _ (mBin (M 73 (f + (j : Int))) a9 b9 :: t9); unfold mBin; rw [if_pos (by omega)]; rw [hb9, ha9]; rw [hst] at hrep; exact rep_bin hrep (by omega)) (by omega)
        · skip
          refine v_aload_n X 0 dX12_value_22 rfl rfl ?_
          refine gt_X12_pile X iwX12 (Std.lt hS rfl) (Std.k hS rfl rfl) (List.mem_cons_of_mem _ bw_9_9) dX12_value_23 95 (Std.r hS 61 rfl) ?_
          refine v_iload_n X 3 dX12_value_26 rfl rfl ?_
          refine v_aload_n X 0 dX12_value_27 rfl rfl ?_
          refine gt_X12_code X iwX12 (Std.lt hS rfl) (Std.k hS rfl rfl) (List.mem_cons_of_mem _ bw_8_11) dX12_value_28 73 (Std.r hS 33 rfl) ?_
          refine v_iload X 4 dX12_value_31 rfl ?_
          refine v_iald X (M 73 i) (Std.lt hS rfl) (Std.at hS rfl rfl) (by omega) (by omega) dX12_value_33 rfl (fun hr15 => ?_)
          refine v_if_ne X 47 dX12_value_34 (by decide) ⟨by omega, by omega⟩ (fun u16 => ?_) (fun u16 => ?_)
          · skip
            refine v_aload_n X 0 dX12_value_47 rfl rfl ?_
            refine gt_X12_variables X iwX12 (Std.lt hS rfl) (Std.k hS rfl rfl) (List.mem_cons_of_mem _ bw_9_8) dX12_value_48 94 (Std.r hS 60 rfl) ?_
            refine v_aload_n X 0 dX12_value_51 rfl rfl ?_
            refine gt_X12_codeInt X iwX12 (Std.lt hS rfl) (Std.k hS rfl rfl) (List.mem_cons_of_mem _ bw_8_12) dX12_value_52 74 (Std.r hS 34 rfl) ?_
            refine v_iload X 4 dX12_value_55 rfl ?_
            refine v_iald X (M 74 i) (Std.lt hS rfl) (Std.at hS rfl rfl) (by omega) (by omega) dX12_value_57 rfl (fun hr17 => ?_)
            refine v_iald X (M 94 (M 74 i)) (Std.lt hS rfl) (Std.at hS rfl rfl) (by omega) (by omega) dX12_value_58 rfl (fun hr18 => ?_)
            refine v_iast X (Std.lt hS rfl) (Std.at hS rfl rfl) (by omega) (by omega) ⟨by omega, by omega⟩ dX12_value_59 ?_
            refine v_iinc X 3 [(3, .int (iz (tp + 1))), (0, .ref (ad 53)), (1, .int (iz f)), (2, .int (iz e)), (4, .int (iz i))] dX12_value_60 rfl (by decide) rfl ?_
            refine v_goto X 138 dX12_value_63 (by decide) ?_
            refine v_iinc X 4 [(4, .int (iz (i + 1))), (3, .int (iz (tp + 1))), (0, .ref (ad 53)), (1, .int (iz f)), (2, .int (iz e))] dX12_value_138 rfl (by decide) rfl ?_
            refine v_goto X 5 dX12_value_141 (by decide) ?_
            refine v_lv [2, 3, 4, 1, 0] rfl ?_
            refine v_mem (M' := (mrow M 95 (fun b => if b = tp then (M 94 (M 74 i)) else g b))) (by simp only [mu_mrow]) rfl rfl ?_
            exact ih2 (tp + 1) (i + 1) (j + 1) (fun b => if b = tp then (M 94 (M 74 i)) else g b) (by omega) (by omega) (by subst ei; rw [vRun_s]; unfold vStep; rw [if_pos (by omega)]; rw [if_neg (by omega)]; simp only [List.length_cons]; omega) (by omega) (by subst ei; rw [vRun_s]; unfold vStep; rw [if_pos (by omega)]; rw [if_neg (by omega)]; exact rep_push hrep ht) (by omega)
          · skip
            refine v_aload_n X 0 dX12_value_37 rfl rfl ?_
            refine gt_X12_codeInt X iwX12 (Std.lt hS rfl) (Std.k hS rfl rfl) (List.mem_cons_of_mem _ bw_8_12) dX12_value_38 74 (Std.r hS 34 rfl) ?_
            refine v_iload X 4 dX12_value_41 rfl ?_
            refine v_iald X (M 74 i) (Std.lt hS rfl) (Std.at hS rfl rfl) (by omega) (by omega) dX12_value_43 rfl (fun hr19 => ?_)
            refine v_goto X 59 dX12_value_44 (by decide) ?_
            refine v_iast X (Std.lt hS rfl) (Std.at hS rfl rfl) (by omega) (by omega) ⟨by omega, by omega⟩ dX12_value_59 ?_
            refine v_iinc X 3 [(3, .int (iz (tp + 1))), (0, .ref (ad 53)), (1, .int (iz f)), (2, .int (iz e)), (4, .int (iz i))] dX12_value_60 rfl (by decide) rfl ?_
            refine v_goto X 138 dX12_value_63 (by decide) ?_
            refine v_iinc X 4 [(4, .int (iz (i + 1))), (3, .int (iz (tp + 1))), (0, .ref (ad 53)), (1, .int (iz f)), (2, .int (iz e))] dX12_value_138 rfl (by decide) rfl ?_
            refine v_goto X 5 dX12_value_141 (by decide) ?_
            refine v_lv [2, 3, 4, 1, 0] rfl ?_
            refine v_mem (M' := (mrow M 95 (fun b => if b = tp then (M 74 i) else g b))) (by simp only [mu_mrow]) rfl rfl ?_
            exact ih2 (tp + 1) (i + 1) (j + 1) (fun b => if b = tp then (M 74 i) else g b) (by omega) (by omega) (by subst ei; rw [vRun_s]; unfold vStep; rw [if_pos (by omega)]; rw [if_pos (by omega)]; simp only [List.length_cons]; omega) (by omega) (by subst ei; rw [vRun_s]; unfold vStep; rw [if_pos (by omega)]; rw [if_pos (by omega)]; exact rep_push hrep ht) (by omega)
  refine v_lv [2, 3, 4, 1, 0] rfl ?_
  refine v_mem (M' := (mrow M 95 (M 95))) (by exact (mrow_self M 95).symm) rfl rfl ?_
  exact hl1 _ 0 f 0 (M 95) (by omega) (by omega) (rfl) (by omega) (trivial) (Nat.lt_succ_self _)

def mO (M : MI) : Int → Bool := fun k => decide (M 72 (200 * M 53 18 + k) ≠ 0)
def mX (M : MI) : Int → Bool := fun k => relB (M 68 (200 * M 53 18 + k)) (mVal (M 73) (M 74) (M 94) (M 69 (200 * M 53 18 + k)) (M 70 (200 * M 53 18 + k))) (mVal (M 73) (M 74) (M 94) (M 70 (200 * M 53 18 + k)) (M 71 (200 * M 53 18 + k)))
def mHold (M : MI) (q : Int) : Bool := decide (M 65 q = M 66 q) || hRes (mO M) (mX M) (M 65 q) (M 66 q - M 65 q).toNat
def mRel (M : MI) (q : Int) : Prop := (0 ≤ M 65 q ∧ M 65 q ≤ M 66 q ∧ M 66 q ≤ 200) ∧ ∀ k : Int, M 65 q ≤ k → k < M 66 q → mWf (M 73) (M 74) (M 69 (200 * M 53 18 + k)) (M 70 (200 * M 53 18 + k)) ∧ mWf (M 73) (M 74) (M 70 (200 * M 53 18 + k)) (M 71 (200 * M 53 18 + k))
theorem relB_eq {s a b : Int} : (if relB s a b = true then (1 : Int) else 0) = if s = 0 then (if a = b then 1 else 0) else if s = 1 then (if a ≠ b then 1 else 0) else if s = 2 then (if a < b then 1 else 0) else (if a ≤ b then 1 else 0) := by
  unfold relB
  repeat' split
  all_goals simp_all
theorem mX_e (M : MI) (k : Int) : mX M k = relB (M 68 (200 * M 53 18 + k)) (mVal (M 73) (M 74) (M 94) (M 69 (200 * M 53 18 + k)) (M 70 (200 * M 53 18 + k))) (mVal (M 73) (M 74) (M 94) (M 70 (200 * M 53 18 + k)) (M 71 (200 * M 53 18 + k))) := rfl
theorem mO_t {M : MI} {k : Int} : mO M k = true ↔ M 72 (200 * M 53 18 + k) ≠ 0 := decide_eq_true_iff

-- holds
set_option maxHeartbeats 4000000 in
set_option maxRecDepth 100000 in
theorem c_X12_holds (l : Launch) (D : va_G) (cy : Nat → ClassId) {N : Nat} {sh : MS} {ad : Nat → Nat} {M L : MI} {R : MR} (hS : Std N sh R) (q : Int) (hq : 0 ≤ q ∧ q < 32) (hl : 0 ≤ M 53 18 ∧ M 53 18 ≤ 1) (hR : mRel M q) : Ctr l D cy yX12_holds wsX12_holds ({ frames := 1, cells := 0, slots := 0, locals := 26 } : Room) N sh ad M L R [.ref (ad 53), .int (iz q)] (eB N sh ad L R (fun M' => mHold M q = true ∧ ∃ g : Int → Int, M' = mrow M 95 g) (fun M' => mHold M q = false ∧ ∃ g : Int → Int, M' = mrow M 95 g)) := by
  refine Ctr.ofZ (by decide) rfl (Nat.le_of_ble_eq_true rfl) ?_
  intro K hKl hKd hRm hnm X hret
  have X : VX K cX12_holds 7 wsX12_holds RX12 := X
  show V K 7 0 0 N sh ad M L R [(0, .ref (ad 53)), (1, .int (iz q))] [] 0
  have hR1 := hR.1
  refine v_aload_n X 0 dX12_holds_0 rfl rfl ?_
  refine gt_X12_relFirst X iwX12 (Std.lt hS rfl) (Std.k hS rfl rfl) (List.mem_cons_of_mem _ bw_8_3) dX12_holds_1 65 (Std.r hS 24 rfl) ?_
  refine v_iload_n X 1 dX12_holds_4 rfl rfl ?_
  refine v_iald X (M 65 q) (Std.lt hS rfl) (Std.at hS rfl rfl) (by omega) (by omega) dX12_holds_5 rfl (fun hr1 => ?_)
  refine v_aload_n X 0 dX12_holds_6 rfl rfl ?_
  refine gt_X12_relLast X iwX12 (Std.lt hS rfl) (Std.k hS rfl rfl) (List.mem_cons_of_mem _ bw_8_4) dX12_holds_7 66 (Std.r hS 25 rfl) ?_
  refine v_iload_n X 1 dX12_holds_10 rfl rfl ?_
  refine v_iald X (M 66 q) (Std.lt hS rfl) (Std.at hS rfl rfl) (by omega) (by omega) dX12_holds_11 rfl (fun hr2 => ?_)
  refine v_icmp_ne X 17 dX12_holds_12 (by decide) ⟨by omega, by omega⟩ ⟨by omega, by omega⟩ (fun u3 => ?_) (fun u3 => ?_)
  · skip
    refine v_iconst X dX12_holds_17 ?_
    refine v_istore_n X [(2, .int (iz 0)), (0, .ref (ad 53)), (1, .int (iz q))] dX12_holds_18 rfl (by decide) rfl ?_
    refine v_aload_n X 1 dX12_holds_19 rfl rfl ?_
    refine gt_X12_relFirst X iwX12 (Std.lt hS rfl) (Std.k hS rfl rfl) (List.mem_cons_of_mem _ bw_8_3) dX12_holds_20 65 (Std.r hS 24 rfl) ?_
    refine v_iload_n X 2 dX12_holds_23 rfl rfl ?_
    refine v_iald X (M 65 q) (Std.lt hS rfl) (Std.at hS rfl rfl) (by omega) (by omega) dX12_holds_24 rfl (fun hr4 => ?_)
    refine v_istore_n X [(3, .int (iz (M 65 q))), (2, .int (iz 0)), (0, .ref (ad 53)), (1, .int (iz q))] dX12_holds_25 rfl (by decide) rfl ?_
    have hl5 : ∀ (n7 : Nat) (a2 : Int) (k : Int) (j : Nat) (al : Bool) (g : Int → Int), (k = M 65 q + (j : Int)) → (k ≤ M 66 q) → (M 65 q ≠ M 66 q) → (a2 = if al = true then 1 else 0) → (0 ≤ a2 ∧ a2 ≤ 1) → (hSt (mO M) (mX M) (M 65 q) j = (false, al)) → (M 66 q - k).toNat < n7 → V K 7 0 0 N sh ad (mrow M 95 g) L R [(0, .ref (ad 53)), (1, .int (iz q)), (2, .int (iz a2)), (3, .int (iz k))] [] 26 := by
      intro n7
      induction n7 with
      | zero => intro a2 k j al g ek hk hne ha ha2 hst hn8; exact absurd hn8 (Nat.not_lt_zero _)
      | succ n7 ih6 =>
        intro a2 k j al g ek hk hne ha ha2 hst hn8
        refine v_iload_n X 3 dX12_holds_26 rfl rfl ?_
        refine v_aload_n X 0 dX12_holds_27 rfl rfl ?_
        refine gt_X12_relLast X iwX12 (Std.lt hS rfl) (Std.k hS rfl rfl) (List.mem_cons_of_mem _ bw_8_4) dX12_holds_28 66 (Std.r hS 25 rfl) ?_
        refine v_iload_n X 1 dX12_holds_31 rfl rfl ?_
        refine v_iald X (M 66 q) (Std.lt hS rfl) (Std.at hS rfl rfl) (by omega) (by omega) dX12_holds_32 rfl (fun hr9 => ?_)
        refine v_icmp_ge X 219 dX12_holds_33 (by decide) ⟨by omega, by omega⟩ ⟨by omega, by omega⟩ (fun u10 => ?_) (fun u10 => ?_)
        · skip
          refine v_iload_n X 2 dX12_holds_219 rfl rfl ?_
          refine hret _ _ _ _ _ _ _ _ _ _ _ (some (.int (iz a2))) dX12_holds_220 ⟨rfl, a2, ⟨by omega, by omega⟩, rfl⟩ (by decide) (by decide) (fun hmok => ?_)
          have e7 : (M 66 q - M 65 q).toNat = j := by omega
          cases al with
          | true =>
            simp only [if_true] at ha
            subst ha
            refine ⟨rfl, rfl, rfl, rfl, rfl, 1, rfl, Or.inl ⟨rfl, ?_, ⟨_, rfl⟩⟩⟩
            unfold mHold hRes
            rw [e7, hst]
            simp
          | false =>
            simp only [Bool.false_eq_true, if_false] at ha
            subst ha
            refine ⟨rfl, rfl, rfl, rfl, rfl, 0, rfl, Or.inr ⟨rfl, ?_, ⟨_, rfl⟩⟩⟩
            unfold mHold hRes
            rw [e7, hst, Bool.or_eq_false_iff]
            exact ⟨decide_eq_false (by omega), rfl⟩
        · skip
          refine v_sipush X dX12_holds_36 (by decide) ?_
          refine v_aload_n X 0 dX12_holds_39 rfl rfl ?_
          refine gt_X12_live X iwX12 (Std.lt hS rfl) (Std.k hS rfl rfl) (List.mem_cons_of_mem _ bw_19_15) dX12_holds_40 (M 53 18) rfl (fun hr11 => ?_)
          refine v_imul X dX12_holds_43 ?_
          refine v_iload_n X 3 dX12_holds_44 rfl rfl ?_
          refine v_iadd X dX12_holds_45 ?_
          refine v_istore X [(4, .int (iz ((200 * (M 53 18)) + k))), (0, .ref (ad 53)), (1, .int (iz q)), (2, .int (iz a2)), (3, .int (iz k))] dX12_holds_46 (by decide) rfl ?_
          have hR9 := hR.2 k (by omega) (by omega)
          refine v_aload_n X 1 dX12_holds_48 rfl rfl ?_
          refine gt_X12_relOr X iwX12 (Std.lt hS rfl) (Std.k hS rfl rfl) (List.mem_cons_of_mem _ bw_8_10) dX12_holds_49 72 (Std.r hS 31 rfl) ?_
          refine v_iload X 0 dX12_holds_52 rfl ?_
          refine v_zald X (M 72 ((200 * (M 53 18)) + k)) (Std.lt hS rfl) (Std.at hS rfl rfl) (by omega) (by omega) dX12_holds_54 rfl (fun hr12 => ?_)
          refine v_if_eq X 64 dX12_holds_55 (by decide) ⟨by omega, by omega⟩ (fun u13 => ?_) (fun u13 => ?_)
          · skip
            refine v_aload_n X 1 dX12_holds_64 rfl rfl ?_
            refine gt_X12_relOr X iwX12 (Std.lt hS rfl) (Std.k hS rfl rfl) (List.mem_cons_of_mem _ bw_8_10) dX12_holds_65 72 (Std.r hS 31 rfl) ?_
            refine v_iload X 0 dX12_holds_68 rfl ?_
            refine v_zald X (M 72 ((200 * (M 53 18)) + k)) (Std.lt hS rfl) (Std.at hS rfl rfl) (by omega) (by omega) dX12_holds_70 rfl (fun hr14 => ?_)
            refine v_if_eq X 76 dX12_holds_71 (by decide) ⟨by omega, by omega⟩ (fun u15 => ?_) (fun u15 => ?_)
            · skip
              refine v_iload_n X 3 dX12_holds_76 rfl rfl ?_
              refine v_if_ne X 83 dX12_holds_77 (by decide) ⟨by omega, by omega⟩ (fun u16 => ?_) (fun u16 => ?_)
              · skip
                have hR7 := hR9.1.1
                have hR6 := hR9.2.1
                refine v_aload_n X 1 dX12_holds_83 rfl rfl ?_
                refine v_aload_n X 1 dX12_holds_84 rfl rfl ?_
                refine gt_X12_relLeft X iwX12 (Std.lt hS rfl) (Std.k hS rfl rfl) (List.mem_cons_of_mem _ bw_8_7) dX12_holds_85 69 (Std.r hS 28 rfl) ?_
                refine v_iload X 0 dX12_holds_88 rfl ?_
                refine v_iald X (M 69 ((200 * (M 53 18)) + k)) (Std.lt hS rfl) (Std.at hS rfl rfl) (by omega) (by omega) dX12_holds_90 rfl (fun hr17 => ?_)
                refine v_aload_n X 1 dX12_holds_91 rfl rfl ?_
                refine gt_X12_relRight X iwX12 (Std.lt hS rfl) (Std.k hS rfl rfl) (List.mem_cons_of_mem _ bw_8_8) dX12_holds_92 70 (Std.r hS 29 rfl) ?_
                refine v_iload X 0 dX12_holds_95 rfl ?_
                refine v_iald X (M 70 ((200 * (M 53 18)) + k)) (Std.lt hS rfl) (Std.at hS rfl rfl) (by omega) (by omega) dX12_holds_97 rfl (fun hr18 => ?_)
                refine v_callV X [.int (iz (M 69 ((200 * (M 53 18)) + k))), .int (iz (M 70 ((200 * (M 53 18)) + k)))] hRm (c_X12_value _ _ _ hS (M 69 ((200 * (M 53 18)) + k)) (M 70 ((200 * (M 53 18)) + k)) hR9.1) (gV bw_40_10 bw_40_11 bw_40_12 bw_1_5 bw_40_13) rfl ddX12_value (by decide) (Std.lt hS rfl) (Std.k hS rfl rfl) ⟨rfl, by decide⟩ (Nat.le_of_ble_eq_true rfl) dX12_holds_98 (k_eI (fun r19 M20 hr21 e22 => ?_))
                obtain ⟨e22p, g23, e22m⟩ := e22
                replace e22m : M20 = (mrow M 95 g23) := e22m.trans (by first | rfl | exact mrow_mrow _ _ _ _)
                subst e22m
                replace e22p : r19 = mVal (M 73) (M 74) (M 94) (M 69 ((200 * (M 53 18)) + k)) (M 70 ((200 * (M 53 18)) + k)) := e22p
                refine v_istore X [(5, .int (iz r19)), (4, .int (iz ((200 * (M 53 18)) + k))), (0, .ref (ad 53)), (1, .int (iz q)), (2, .int (iz a2)), (3, .int (iz k))] dX12_holds_101 (by decide) rfl ?_
                refine v_aload_n X 2 dX12_holds_103 rfl rfl ?_
                refine v_aload_n X 2 dX12_holds_104 rfl rfl ?_
                refine gt_X12_relRight X iwX12 (Std.lt hS rfl) (Std.k hS rfl rfl) (List.mem_cons_of_mem _ bw_8_8) dX12_holds_105 70 (Std.r hS 29 rfl) ?_
                refine v_iload X 1 dX12_holds_108 rfl ?_
                refine v_iald X (M 70 ((200 * (M 53 18)) + k)) (Std.lt hS rfl) (Std.at hS rfl rfl) (by omega) (by omega) dX12_holds_110 rfl (fun hr24 => ?_)
                refine v_aload_n X 2 dX12_holds_111 rfl rfl ?_
                refine gt_X12_relEnd X iwX12 (Std.lt hS rfl) (Std.k hS rfl rfl) (List.mem_cons_of_mem _ bw_8_9) dX12_holds_112 71 (Std.r hS 30 rfl) ?_
                refine v_iload X 1 dX12_holds_115 rfl ?_
                refine v_iald X (M 71 ((200 * (M 53 18)) + k)) (Std.lt hS rfl) (Std.at hS rfl rfl) (by omega) (by omega) dX12_holds_117 rfl (fun hr25 => ?_)
                refine v_callV X [.int (iz (M 70 ((200 * (M 53 18)) + k))), .int (iz (M 71 ((200 * (M 53 18)) + k)))] hRm (c_X12_value _ _ _ hS (M 70 ((200 * (M 53 18)) + k)) (M 71 ((200 * (M 53 18)) + k)) hR9.2) (gV bw_40_10 bw_40_11 bw_40_12 bw_1_5 bw_40_13) rfl ddX12_value (by decide) (Std.lt hS rfl) (Std.k hS rfl rfl) ⟨rfl, by decide⟩ (Nat.le_of_ble_eq_true rfl) dX12_holds_118 (k_eI (fun r26 M27 hr28 e29 => ?_))
                obtain ⟨e29p, g30, e29m⟩ := e29
                replace e29m : M27 = (mrow M 95 g30) := e29m.trans (by first | rfl | exact mrow_mrow _ _ _ _)
                subst e29m
                replace e29p : r26 = mVal (M 73) (M 74) (M 94) (M 70 ((200 * (M 53 18)) + k)) (M 71 ((200 * (M 53 18)) + k)) := e29p
                refine v_istore X [(6, .int (iz r26)), (5, .int (iz r19)), (4, .int (iz ((200 * (M 53 18)) + k))), (0, .ref (ad 53)), (1, .int (iz q)), (2, .int (iz a2)), (3, .int (iz k))] dX12_holds_121 (by decide) rfl ?_
                refine v_aload_n X 3 dX12_holds_123 rfl rfl ?_
                refine gt_X12_relSort X iwX12 (Std.lt hS rfl) (Std.k hS rfl rfl) (List.mem_cons_of_mem _ bw_8_6) dX12_holds_124 68 (Std.r hS 27 rfl) ?_
                refine v_iload X 2 dX12_holds_127 rfl ?_
                refine v_iald X (M 68 ((200 * (M 53 18)) + k)) (Std.lt hS rfl) (Std.at hS rfl rfl) (by omega) (by omega) dX12_holds_129 rfl (fun hr31 => ?_)
                refine v_if_ne X 148 dX12_holds_130 (by decide) ⟨by omega, by omega⟩ (fun u32 => ?_) (fun u32 => ?_)
                · skip
                  refine v_aload_n X 3 dX12_holds_148 rfl rfl ?_
                  refine gt_X12_relSort X iwX12 (Std.lt hS rfl) (Std.k hS rfl rfl) (List.mem_cons_of_mem _ bw_8_6) dX12_holds_149 68 (Std.r hS 27 rfl) ?_
                  refine v_iload X 2 dX12_holds_152 rfl ?_
                  refine v_iald X (M 68 ((200 * (M 53 18)) + k)) (Std.lt hS rfl) (Std.at hS rfl rfl) (by omega) (by omega) dX12_holds_154 rfl (fun hr33 => ?_)
                  refine v_iconst X dX12_holds_155 ?_
                  refine v_icmp_ne X 174 dX12_holds_156 (by decide) ⟨by omega, by omega⟩ ⟨by decide, by decide⟩ (fun u34 => ?_) (fun u34 => ?_)
                  · skip
                    refine v_aload_n X 3 dX12_holds_174 rfl rfl ?_
                    refine gt_X12_relSort X iwX12 (Std.lt hS rfl) (Std.k hS rfl rfl) (List.mem_cons_of_mem _ bw_8_6) dX12_holds_175 68 (Std.r hS 27 rfl) ?_
                    refine v_iload X 2 dX12_holds_178 rfl ?_
                    refine v_iald X (M 68 ((200 * (M 53 18)) + k)) (Std.lt hS rfl) (Std.at hS rfl rfl) (by omega) (by omega) dX12_holds_180 rfl (fun hr35 => ?_)
                    refine v_iconst X dX12_holds_181 ?_
                    refine v_icmp_ne X 200 dX12_holds_182 (by decide) ⟨by omega, by omega⟩ ⟨by decide, by decide⟩ (fun u36 => ?_) (fun u36 => ?_)
                    · skip
                      refine v_iload X 1 dX12_holds_200 rfl ?_
                      refine v_iload X 0 dX12_holds_202 rfl ?_
                      refine v_icmp_gt X 211 dX12_holds_204 (by decide) ⟨by omega, by omega⟩ ⟨by omega, by omega⟩ (fun u37 => ?_) (fun u37 => ?_)
                      · skip
                        refine v_iconst X dX12_holds_211 ?_
                        refine v_istore_n X [(2, .int (iz 0)), (6, .int (iz r26)), (5, .int (iz r19)), (4, .int (iz ((200 * (M 53 18)) + k))), (0, .ref (ad 53)), (1, .int (iz q)), (3, .int (iz k))] dX12_holds_212 rfl (by decide) rfl ?_
                        refine v_iinc X 6 [(3, .int (iz (k + 1))), (2, .int (iz 0)), (6, .int (iz r26)), (5, .int (iz r19)), (4, .int (iz ((200 * (M 53 18)) + k))), (0, .ref (ad 53)), (1, .int (iz q))] dX12_holds_213 rfl (by decide) rfl ?_
                        refine v_goto X 26 dX12_holds_216 (by decide) ?_
                        refine v_lv [5, 6, 1, 0] rfl ?_
                        refine v_mem (M' := (mrow M 95 g30)) (by rfl) rfl rfl ?_
                        exact ih6 0 (k + 1) (j + 1) (mX M (M 65 q + (j : Int))) g30 (by omega) (by omega) (by omega) (by first | (exfalso; omega) | (subst ek; rw [mX_e, ← e22p, ← e29p, relB_eq]; repeat (first | rw [if_pos (by omega)] | rw [if_neg (by omega)]))) (by omega) (by first | (exfalso; omega; done) | (skip; rw [hSt_s, hst]; subst ek; dsimp only; rw [if_neg Bool.false_ne_true, if_neg (fun z => by have := mO_t.mp z.1; omega), if_pos (Or.inr (by cases al with | true => rfl | false => exfalso; simp only [Bool.false_eq_true, if_false] at ha; omega))])) (by omega)
                      · skip
                        refine v_iconst X dX12_holds_207 ?_
                        refine v_goto X 212 dX12_holds_208 (by decide) ?_
                        refine v_istore_n X [(2, .int (iz 1)), (6, .int (iz r26)), (5, .int (iz r19)), (4, .int (iz ((200 * (M 53 18)) + k))), (0, .ref (ad 53)), (1, .int (iz q)), (3, .int (iz k))] dX12_holds_212 rfl (by decide) rfl ?_
                        refine v_iinc X 6 [(3, .int (iz (k + 1))), (2, .int (iz 1)), (6, .int (iz r26)), (5, .int (iz r19)), (4, .int (iz ((200 * (M 53 18)) + k))), (0, .ref (ad 53)), (1, .int (iz q))] dX12_holds_213 rfl (by decide) rfl ?_
                        refine v_goto X 26 dX12_holds_216 (by decide) ?_
                        refine v_lv [5, 6, 1, 0] rfl ?_
                        refine v_mem (M' := (mrow M 95 g30)) (by rfl) rfl rfl ?_
                        exact ih6 1 (k + 1) (j + 1) (mX M (M 65 q + (j : Int))) g30 (by omega) (by omega) (by omega) (by first | (exfalso; omega) | (subst ek; rw [mX_e, ← e22p, ← e29p, relB_eq]; repeat (first | rw [if_pos (by omega)] | rw [if_neg (by omega)]))) (by omega) (by first | (exfalso; omega; done) | (skip; rw [hSt_s, hst]; subst ek; dsimp only; rw [if_neg Bool.false_ne_true, if_neg (fun z => by have := mO_t.mp z.1; omega), if_pos (Or.inr (by cases al with | true => rfl | false => exfalso; simp only [Bool.false_eq_true, if_false] at ha; omega))])) (by omega)
                    · skip
                      refine v_iload X 1 dX12_holds_185 rfl ?_
                      refine v_iload X 0 dX12_holds_187 rfl ?_
                      refine v_icmp_ge X 196 dX12_holds_189 (by decide) ⟨by omega, by omega⟩ ⟨by omega, by omega⟩ (fun u38 => ?_) (fun u38 => ?_)
                      · skip
                        refine v_iconst X dX12_holds_196 ?_
                        refine v_goto X 212 dX12_holds_197 (by decide) ?_
                        refine v_istore_n X [(2, .int (iz 0)), (6, .int (iz r26)), (5, .int (iz r19)), (4, .int (iz ((200 * (M 53 18)) + k))), (0, .ref (ad 53)), (1, .int (iz q)), (3, .int (iz k))] dX12_holds_212 rfl (by decide) rfl ?_
                        refine v_iinc X 6 [(3, .int (iz (k + 1))), (2, .int (iz 0)), (6, .int (iz r26)), (5, .int (iz r19)), (4, .int (iz ((200 * (M 53 18)) + k))), (0, .ref (ad 53)), (1, .int (iz q))] dX12_holds_213 rfl (by decide) rfl ?_
                        refine v_goto X 26 dX12_holds_216 (by decide) ?_
                        refine v_lv [5, 6, 1, 0] rfl ?_
                        refine v_mem (M' := (mrow M 95 g30)) (by rfl) rfl rfl ?_
                        exact ih6 0 (k + 1) (j + 1) (mX M (M 65 q + (j : Int))) g30 (by omega) (by omega) (by omega) (by first | (exfalso; omega) | (subst ek; rw [mX_e, ← e22p, ← e29p, relB_eq]; repeat (first | rw [if_pos (by omega)] | rw [if_neg (by omega)]))) (by omega) (by first | (exfalso; omega; done) | (skip; rw [hSt_s, hst]; subst ek; dsimp only; rw [if_neg Bool.false_ne_true, if_neg (fun z => by have := mO_t.mp z.1; omega), if_pos (Or.inr (by cases al with | true => rfl | false => exfalso; simp only [Bool.false_eq_true, if_false] at ha; omega))])) (by omega)
                      · skip
                        refine v_iconst X dX12_holds_192 ?_
                        refine v_goto X 212 dX12_holds_193 (by decide) ?_
                        refine v_istore_n X [(2, .int (iz 1)), (6, .int (iz r26)), (5, .int (iz r19)), (4, .int (iz ((200 * (M 53 18)) + k))), (0, .ref (ad 53)), (1, .int (iz q)), (3, .int (iz k))] dX12_holds_212 rfl (by decide) rfl ?_
                        refine v_iinc X 6 [(3, .int (iz (k + 1))), (2, .int (iz 1)), (6, .int (iz r26)), (5, .int (iz r19)), (4, .int (iz ((200 * (M 53 18)) + k))), (0, .ref (ad 53)), (1, .int (iz q))] dX12_holds_213 rfl (by decide) rfl ?_
                        refine v_goto X 26 dX12_holds_216 (by decide) ?_
                        refine v_lv [5, 6, 1, 0] rfl ?_
                        refine v_mem (M' := (mrow M 95 g30)) (by rfl) rfl rfl ?_
                        exact ih6 1 (k + 1) (j + 1) (mX M (M 65 q + (j : Int))) g30 (by omega) (by omega) (by omega) (by first | (exfalso; omega) | (subst ek; rw [mX_e, ← e22p, ← e29p, relB_eq]; repeat (first | rw [if_pos (by omega)] | rw [if_neg (by omega)]))) (by omega) (by first | (exfalso; omega; done) | (skip; rw [hSt_s, hst]; subst ek; dsimp only; rw [if_neg Bool.false_ne_true, if_neg (fun z => by have := mO_t.mp z.1; omega), if_pos (Or.inr (by cases al with | true => rfl | false => exfalso; simp only [Bool.false_eq_true, if_false] at ha; omega))])) (by omega)
                  · skip
                    refine v_iload X 1 dX12_holds_159 rfl ?_
                    refine v_iload X 0 dX12_holds_161 rfl ?_
                    refine v_icmp_eq X 170 dX12_holds_163 (by decide) ⟨by omega, by omega⟩ ⟨by omega, by omega⟩ (fun u39 => ?_) (fun u39 => ?_)
                    · skip
                      refine v_iconst X dX12_holds_170 ?_
                      refine v_goto X 212 dX12_holds_171 (by decide) ?_
                      refine v_istore_n X [(2, .int (iz 0)), (6, .int (iz r26)), (5, .int (iz r19)), (4, .int (iz ((200 * (M 53 18)) + k))), (0, .ref (ad 53)), (1, .int (iz q)), (3, .int (iz k))] dX12_holds_212 rfl (by decide) rfl ?_
                      refine v_iinc X 6 [(3, .int (iz (k + 1))), (2, .int (iz 0)), (6, .int (iz r26)), (5, .int (iz r19)), (4, .int (iz ((200 * (M 53 18)) + k))), (0, .ref (ad 53)), (1, .int (iz q))] dX12_holds_213 rfl (by decide) rfl ?_
                      refine v_goto X 26 dX12_holds_216 (by decide) ?_
                      refine v_lv [5, 6, 1, 0] rfl ?_
                      refine v_mem (M' := (mrow M 95 g30)) (by rfl) rfl rfl ?_
                      exact ih6 0 (k + 1) (j + 1) (mX M (M 65 q + (j : Int))) g30 (by omega) (by omega) (by omega) (by first | (exfalso; omega) | (subst ek; rw [mX_e, ← e22p, ← e29p, relB_eq]; repeat (first | rw [if_pos (by omega)] | rw [if_neg (by omega)]))) (by omega) (by first | (exfalso; omega; done) | (skip; rw [hSt_s, hst]; subst ek; dsimp only; rw [if_neg Bool.false_ne_true, if_neg (fun z => by have := mO_t.mp z.1; omega), if_pos (Or.inr (by cases al with | true => rfl | false => exfalso; simp only [Bool.false_eq_true, if_false] at ha; omega))])) (by omega)
                    · skip
                      refine v_iconst X dX12_holds_166 ?_
                      refine v_goto X 212 dX12_holds_167 (by decide) ?_
                      refine v_istore_n X [(2, .int (iz 1)), (6, .int (iz r26)), (5, .int (iz r19)), (4, .int (iz ((200 * (M 53 18)) + k))), (0, .ref (ad 53)), (1, .int (iz q)), (3, .int (iz k))] dX12_holds_212 rfl (by decide) rfl ?_
                      refine v_iinc X 6 [(3, .int (iz (k + 1))), (2, .int (iz 1)), (6, .int (iz r26)), (5, .int (iz r19)), (4, .int (iz ((200 * (M 53 18)) + k))), (0, .ref (ad 53)), (1, .int (iz q))] dX12_holds_213 rfl (by decide) rfl ?_
                      refine v_goto X 26 dX12_holds_216 (by decide) ?_
                      refine v_lv [5, 6, 1, 0] rfl ?_
                      refine v_mem (M' := (mrow M 95 g30)) (by rfl) rfl rfl ?_
                      exact ih6 1 (k + 1) (j + 1) (mX M (M 65 q + (j : Int))) g30 (by omega) (by omega) (by omega) (by first | (exfalso; omega) | (subst ek; rw [mX_e, ← e22p, ← e29p, relB_eq]; repeat (first | rw [if_pos (by omega)] | rw [if_neg (by omega)]))) (by omega) (by first | (exfalso; omega; done) | (skip; rw [hSt_s, hst]; subst ek; dsimp only; rw [if_neg Bool.false_ne_true, if_neg (fun z => by have := mO_t.mp z.1; omega), if_pos (Or.inr (by cases al with | true => rfl | false => exfalso; simp only [Bool.false_eq_true, if_false] at ha; omega))])) (by omega)
                · skip
                  refine v_iload X 1 dX12_holds_133 rfl ?_
                  refine v_iload X 0 dX12_holds_135 rfl ?_
                  refine v_icmp_ne X 144 dX12_holds_137 (by decide) ⟨by omega, by omega⟩ ⟨by omega, by omega⟩ (fun u40 => ?_) (fun u40 => ?_)
                  · skip
                    refine v_iconst X dX12_holds_144 ?_
                    refine v_goto X 212 dX12_holds_145 (by decide) ?_
                    refine v_istore_n X [(2, .int (iz 0)), (6, .int (iz r26)), (5, .int (iz r19)), (4, .int (iz ((200 * (M 53 18)) + k))), (0, .ref (ad 53)), (1, .int (iz q)), (3, .int (iz k))] dX12_holds_212 rfl (by decide) rfl ?_
                    refine v_iinc X 6 [(3, .int (iz (k + 1))), (2, .int (iz 0)), (6, .int (iz r26)), (5, .int (iz r19)), (4, .int (iz ((200 * (M 53 18)) + k))), (0, .ref (ad 53)), (1, .int (iz q))] dX12_holds_213 rfl (by decide) rfl ?_
                    refine v_goto X 26 dX12_holds_216 (by decide) ?_
                    refine v_lv [5, 6, 1, 0] rfl ?_
                    refine v_mem (M' := (mrow M 95 g30)) (by rfl) rfl rfl ?_
                    exact ih6 0 (k + 1) (j + 1) (mX M (M 65 q + (j : Int))) g30 (by omega) (by omega) (by omega) (by first | (exfalso; omega) | (subst ek; rw [mX_e, ← e22p, ← e29p, relB_eq]; repeat (first | rw [if_pos (by omega)] | rw [if_neg (by omega)]))) (by omega) (by first | (exfalso; omega; done) | (skip; rw [hSt_s, hst]; subst ek; dsimp only; rw [if_neg Bool.false_ne_true, if_neg (fun z => by have := mO_t.mp z.1; omega), if_pos (Or.inr (by cases al with | true => rfl | false => exfalso; simp only [Bool.false_eq_true, if_false] at ha; omega))])) (by omega)
                  · skip
                    refine v_iconst X dX12_holds_140 ?_
                    refine v_goto X 212 dX12_holds_141 (by decide) ?_
                    refine v_istore_n X [(2, .int (iz 1)), (6, .int (iz r26)), (5, .int (iz r19)), (4, .int (iz ((200 * (M 53 18)) + k))), (0, .ref (ad 53)), (1, .int (iz q)), (3, .int (iz k))] dX12_holds_212 rfl (by decide) rfl ?_
                    refine v_iinc X 6 [(3, .int (iz (k + 1))), (2, .int (iz 1)), (6, .int (iz r26)), (5, .int (iz r19)), (4, .int (iz ((200 * (M 53 18)) + k))), (0, .ref (ad 53)), (1, .int (iz q))] dX12_holds_213 rfl (by decide) rfl ?_
                    refine v_goto X 26 dX12_holds_216 (by decide) ?_
                    refine v_lv [5, 6, 1, 0] rfl ?_
                    refine v_mem (M' := (mrow M 95 g30)) (by rfl) rfl rfl ?_
                    exact ih6 1 (k + 1) (j + 1) (mX M (M 65 q + (j : Int))) g30 (by omega) (by omega) (by omega) (by first | (exfalso; omega) | (subst ek; rw [mX_e, ← e22p, ← e29p, relB_eq]; repeat (first | rw [if_pos (by omega)] | rw [if_neg (by omega)]))) (by omega) (by first | (exfalso; omega; done) | (skip; rw [hSt_s, hst]; subst ek; dsimp only; rw [if_neg Bool.false_ne_true, if_neg (fun z => by have := mO_t.mp z.1; omega), if_pos (Or.inr (by cases al with | true => rfl | false => exfalso; simp only [Bool.false_eq_true, if_false] at ha; omega))])) (by omega)
              · skip
                refine v_goto X 213 dX12_holds_80 (by decide) ?_
                refine v_iinc X 4 [(3, .int (iz (k + 1))), (4, .int (iz ((200 * (M 53 18)) + k))), (0, .ref (ad 53)), (1, .int (iz q)), (2, .int (iz a2))] dX12_holds_213 rfl (by decide) rfl ?_
                refine v_goto X 26 dX12_holds_216 (by decide) ?_
                refine v_lv [2, 3, 4, 0] rfl ?_
                refine v_mem (M' := (mrow M 95 g)) (by rfl) rfl rfl ?_
                exact ih6 a2 (k + 1) (j + 1) false g (by omega) (by omega) (by omega) (by simp only [Bool.false_eq_true, if_false]; omega) (by omega) (by rw [hSt_s, hst]; subst ek; dsimp only; rw [if_neg Bool.false_ne_true, if_neg (fun z => by have := mO_t.mp z.1; omega), if_neg (fun z => z.elim (fun z => by have := mO_t.mp z; omega) (fun z => by rw [show al = false from (by cases al with | false => rfl | true => exfalso; simp only [if_true] at ha; omega)] at z; cases z))]) (by omega)
            · skip
              refine v_iconst X dX12_holds_74 ?_
              refine v_istore_n X [(2, .int (iz 1)), (4, .int (iz ((200 * (M 53 18)) + k))), (0, .ref (ad 53)), (1, .int (iz q)), (3, .int (iz k))] dX12_holds_75 rfl (by decide) rfl ?_
              refine v_iload_n X 0 dX12_holds_76 rfl rfl ?_
              refine v_if_ne X 83 dX12_holds_77 (by decide) ⟨by decide, by decide⟩ (fun _ => ?_) (fun q => absurd (by decide) q)
              have hR7 := hR9.1.1
              have hR6 := hR9.2.1
              refine v_aload_n X 2 dX12_holds_83 rfl rfl ?_
              refine v_aload_n X 2 dX12_holds_84 rfl rfl ?_
              refine gt_X12_relLeft X iwX12 (Std.lt hS rfl) (Std.k hS rfl rfl) (List.mem_cons_of_mem _ bw_8_7) dX12_holds_85 69 (Std.r hS 28 rfl) ?_
              refine v_iload X 1 dX12_holds_88 rfl ?_
              refine v_iald X (M 69 ((200 * (M 53 18)) + k)) (Std.lt hS rfl) (Std.at hS rfl rfl) (by omega) (by omega) dX12_holds_90 rfl (fun hr41 => ?_)
              refine v_aload_n X 2 dX12_holds_91 rfl rfl ?_
              refine gt_X12_relRight X iwX12 (Std.lt hS rfl) (Std.k hS rfl rfl) (List.mem_cons_of_mem _ bw_8_8) dX12_holds_92 70 (Std.r hS 29 rfl) ?_
              refine v_iload X 1 dX12_holds_95 rfl ?_
              refine v_iald X (M 70 ((200 * (M 53 18)) + k)) (Std.lt hS rfl) (Std.at hS rfl rfl) (by omega) (by omega) dX12_holds_97 rfl (fun hr42 => ?_)
              refine v_callV X [.int (iz (M 69 ((200 * (M 53 18)) + k))), .int (iz (M 70 ((200 * (M 53 18)) + k)))] hRm (c_X12_value _ _ _ hS (M 69 ((200 * (M 53 18)) + k)) (M 70 ((200 * (M 53 18)) + k)) hR9.1) (gV bw_40_10 bw_40_11 bw_40_12 bw_1_5 bw_40_13) rfl ddX12_value (by decide) (Std.lt hS rfl) (Std.k hS rfl rfl) ⟨rfl, by decide⟩ (Nat.le_of_ble_eq_true rfl) dX12_holds_98 (k_eI (fun r43 M44 hr45 e46 => ?_))
              obtain ⟨e46p, g47, e46m⟩ := e46
              replace e46m : M44 = (mrow M 95 g47) := e46m.trans (by first | rfl | exact mrow_mrow _ _ _ _)
              subst e46m
              replace e46p : r43 = mVal (M 73) (M 74) (M 94) (M 69 ((200 * (M 53 18)) + k)) (M 70 ((200 * (M 53 18)) + k)) := e46p
              refine v_istore X [(5, .int (iz r43)), (2, .int (iz 1)), (4, .int (iz ((200 * (M 53 18)) + k))), (0, .ref (ad 53)), (1, .int (iz q)), (3, .int (iz k))] dX12_holds_101 (by decide) rfl ?_
              refine v_aload_n X 3 dX12_holds_103 rfl rfl ?_
              refine v_aload_n X 3 dX12_holds_104 rfl rfl ?_
              refine gt_X12_relRight X iwX12 (Std.lt hS rfl) (Std.k hS rfl rfl) (List.mem_cons_of_mem _ bw_8_8) dX12_holds_105 70 (Std.r hS 29 rfl) ?_
              refine v_iload X 2 dX12_holds_108 rfl ?_
              refine v_iald X (M 70 ((200 * (M 53 18)) + k)) (Std.lt hS rfl) (Std.at hS rfl rfl) (by omega) (by omega) dX12_holds_110 rfl (fun hr48 => ?_)
              refine v_aload_n X 3 dX12_holds_111 rfl rfl ?_
              refine gt_X12_relEnd X iwX12 (Std.lt hS rfl) (Std.k hS rfl rfl) (List.mem_cons_of_mem _ bw_8_9) dX12_holds_112 71 (Std.r hS 30 rfl) ?_
              refine v_iload X 2 dX12_holds_115 rfl ?_
              refine v_iald X (M 71 ((200 * (M 53 18)) + k)) (Std.lt hS rfl) (Std.at hS rfl rfl) (by omega) (by omega) dX12_holds_117 rfl (fun hr49 => ?_)
              refine v_callV X [.int (iz (M 70 ((200 * (M 53 18)) + k))), .int (iz (M 71 ((200 * (M 53 18)) + k)))] hRm (c_X12_value _ _ _ hS (M 70 ((200 * (M 53 18)) + k)) (M 71 ((200 * (M 53 18)) + k)) hR9.2) (gV bw_40_10 bw_40_11 bw_40_12 bw_1_5 bw_40_13) rfl ddX12_value (by decide) (Std.lt hS rfl) (Std.k hS rfl rfl) ⟨rfl, by decide⟩ (Nat.le_of_ble_eq_true rfl) dX12_holds_118 (k_eI (fun r50 M51 hr52 e53 => ?_))
              obtain ⟨e53p, g54, e53m⟩ := e53
              replace e53m : M51 = (mrow M 95 g54) := e53m.trans (by first | rfl | exact mrow_mrow _ _ _ _)
              subst e53m
              replace e53p : r50 = mVal (M 73) (M 74) (M 94) (M 70 ((200 * (M 53 18)) + k)) (M 71 ((200 * (M 53 18)) + k)) := e53p
              refine v_istore X [(6, .int (iz r50)), (5, .int (iz r43)), (2, .int (iz 1)), (4, .int (iz ((200 * (M 53 18)) + k))), (0, .ref (ad 53)), (1, .int (iz q)), (3, .int (iz k))] dX12_holds_121 (by decide) rfl ?_
              refine v_aload_n X 4 dX12_holds_123 rfl rfl ?_
              refine gt_X12_relSort X iwX12 (Std.lt hS rfl) (Std.k hS rfl rfl) (List.mem_cons_of_mem _ bw_8_6) dX12_holds_124 68 (Std.r hS 27 rfl) ?_
              refine v_iload X 3 dX12_holds_127 rfl ?_
              refine v_iald X (M 68 ((200 * (M 53 18)) + k)) (Std.lt hS rfl) (Std.at hS rfl rfl) (by omega) (by omega) dX12_holds_129 rfl (fun hr55 => ?_)
              refine v_if_ne X 148 dX12_holds_130 (by decide) ⟨by omega, by omega⟩ (fun u56 => ?_) (fun u56 => ?_)
              · skip
                refine v_aload_n X 4 dX12_holds_148 rfl rfl ?_
                refine gt_X12_relSort X iwX12 (Std.lt hS rfl) (Std.k hS rfl rfl) (List.mem_cons_of_mem _ bw_8_6) dX12_holds_149 68 (Std.r hS 27 rfl) ?_
                refine v_iload X 3 dX12_holds_152 rfl ?_
                refine v_iald X (M 68 ((200 * (M 53 18)) + k)) (Std.lt hS rfl) (Std.at hS rfl rfl) (by omega) (by omega) dX12_holds_154 rfl (fun hr57 => ?_)
                refine v_iconst X dX12_holds_155 ?_
                refine v_icmp_ne X 174 dX12_holds_156 (by decide) ⟨by omega, by omega⟩ ⟨by decide, by decide⟩ (fun u58 => ?_) (fun u58 => ?_)
                · skip
                  refine v_aload_n X 4 dX12_holds_174 rfl rfl ?_
                  refine gt_X12_relSort X iwX12 (Std.lt hS rfl) (Std.k hS rfl rfl) (List.mem_cons_of_mem _ bw_8_6) dX12_holds_175 68 (Std.r hS 27 rfl) ?_
                  refine v_iload X 3 dX12_holds_178 rfl ?_
                  refine v_iald X (M 68 ((200 * (M 53 18)) + k)) (Std.lt hS rfl) (Std.at hS rfl rfl) (by omega) (by omega) dX12_holds_180 rfl (fun hr59 => ?_)
                  refine v_iconst X dX12_holds_181 ?_
                  refine v_icmp_ne X 200 dX12_holds_182 (by decide) ⟨by omega, by omega⟩ ⟨by decide, by decide⟩ (fun u60 => ?_) (fun u60 => ?_)
                  · skip
                    refine v_iload X 1 dX12_holds_200 rfl ?_
                    refine v_iload X 0 dX12_holds_202 rfl ?_
                    refine v_icmp_gt X 211 dX12_holds_204 (by decide) ⟨by omega, by omega⟩ ⟨by omega, by omega⟩ (fun u61 => ?_) (fun u61 => ?_)
                    · skip
                      refine v_iconst X dX12_holds_211 ?_
                      refine v_istore_n X [(2, .int (iz 0)), (6, .int (iz r50)), (5, .int (iz r43)), (4, .int (iz ((200 * (M 53 18)) + k))), (0, .ref (ad 53)), (1, .int (iz q)), (3, .int (iz k))] dX12_holds_212 rfl (by decide) rfl ?_
                      refine v_iinc X 6 [(3, .int (iz (k + 1))), (2, .int (iz 0)), (6, .int (iz r50)), (5, .int (iz r43)), (4, .int (iz ((200 * (M 53 18)) + k))), (0, .ref (ad 53)), (1, .int (iz q))] dX12_holds_213 rfl (by decide) rfl ?_
                      refine v_goto X 26 dX12_holds_216 (by decide) ?_
                      refine v_lv [5, 6, 1, 0] rfl ?_
                      refine v_mem (M' := (mrow M 95 g54)) (by rfl) rfl rfl ?_
                      exact ih6 0 (k + 1) (j + 1) (mX M (M 65 q + (j : Int))) g54 (by omega) (by omega) (by omega) (by first | (exfalso; omega) | (subst ek; rw [mX_e, ← e46p, ← e53p, relB_eq]; repeat (first | rw [if_pos (by omega)] | rw [if_neg (by omega)]))) (by omega) (by first | (exfalso; omega; done) | (skip; rw [hSt_s, hst]; subst ek; dsimp only; rw [if_neg Bool.false_ne_true, if_neg (fun z => by rw [show al = false from (by cases al with | false => rfl | true => exfalso; simp only [if_true] at ha; omega)] at z; cases z.2), if_pos (Or.inl (mO_t.mpr (by omega)))])) (by omega)
                    · skip
                      refine v_iconst X dX12_holds_207 ?_
                      refine v_goto X 212 dX12_holds_208 (by decide) ?_
                      refine v_istore_n X [(2, .int (iz 1)), (6, .int (iz r50)), (5, .int (iz r43)), (4, .int (iz ((200 * (M 53 18)) + k))), (0, .ref (ad 53)), (1, .int (iz q)), (3, .int (iz k))] dX12_holds_212 rfl (by decide) rfl ?_
                      refine v_iinc X 6 [(3, .int (iz (k + 1))), (2, .int (iz 1)), (6, .int (iz r50)), (5, .int (iz r43)), (4, .int (iz ((200 * (M 53 18)) + k))), (0, .ref (ad 53)), (1, .int (iz q))] dX12_holds_213 rfl (by decide) rfl ?_
                      refine v_goto X 26 dX12_holds_216 (by decide) ?_
                      refine v_lv [5, 6, 1, 0] rfl ?_
                      refine v_mem (M' := (mrow M 95 g54)) (by rfl) rfl rfl ?_
                      exact ih6 1 (k + 1) (j + 1) (mX M (M 65 q + (j : Int))) g54 (by omega) (by omega) (by omega) (by first | (exfalso; omega) | (subst ek; rw [mX_e, ← e46p, ← e53p, relB_eq]; repeat (first | rw [if_pos (by omega)] | rw [if_neg (by omega)]))) (by omega) (by first | (exfalso; omega; done) | (skip; rw [hSt_s, hst]; subst ek; dsimp only; rw [if_neg Bool.false_ne_true, if_neg (fun z => by rw [show al = false from (by cases al with | false => rfl | true => exfalso; simp only [if_true] at ha; omega)] at z; cases z.2), if_pos (Or.inl (mO_t.mpr (by omega)))])) (by omega)
                  · skip
                    refine v_iload X 1 dX12_holds_185 rfl ?_
                    refine v_iload X 0 dX12_holds_187 rfl ?_
                    refine v_icmp_ge X 196 dX12_holds_189 (by decide) ⟨by omega, by omega⟩ ⟨by omega, by omega⟩ (fun u62 => ?_) (fun u62 => ?_)
                    · skip
                      refine v_iconst X dX12_holds_196 ?_
                      refine v_goto X 212 dX12_holds_197 (by decide) ?_
                      refine v_istore_n X [(2, .int (iz 0)), (6, .int (iz r50)), (5, .int (iz r43)), (4, .int (iz ((200 * (M 53 18)) + k))), (0, .ref (ad 53)), (1, .int (iz q)), (3, .int (iz k))] dX12_holds_212 rfl (by decide) rfl ?_
                      refine v_iinc X 6 [(3, .int (iz (k + 1))), (2, .int (iz 0)), (6, .int (iz r50)), (5, .int (iz r43)), (4, .int (iz ((200 * (M 53 18)) + k))), (0, .ref (ad 53)), (1, .int (iz q))] dX12_holds_213 rfl (by decide) rfl ?_
                      refine v_goto X 26 dX12_holds_216 (by decide) ?_
                      refine v_lv [5, 6, 1, 0] rfl ?_
                      refine v_mem (M' := (mrow M 95 g54)) (by rfl) rfl rfl ?_
                      exact ih6 0 (k + 1) (j + 1) (mX M (M 65 q + (j : Int))) g54 (by omega) (by omega) (by omega) (by first | (exfalso; omega) | (subst ek; rw [mX_e, ← e46p, ← e53p, relB_eq]; repeat (first | rw [if_pos (by omega)] | rw [if_neg (by omega)]))) (by omega) (by first | (exfalso; omega; done) | (skip; rw [hSt_s, hst]; subst ek; dsimp only; rw [if_neg Bool.false_ne_true, if_neg (fun z => by rw [show al = false from (by cases al with | false => rfl | true => exfalso; simp only [if_true] at ha; omega)] at z; cases z.2), if_pos (Or.inl (mO_t.mpr (by omega)))])) (by omega)
                    · skip
                      refine v_iconst X dX12_holds_192 ?_
                      refine v_goto X 212 dX12_holds_193 (by decide) ?_
                      refine v_istore_n X [(2, .int (iz 1)), (6, .int (iz r50)), (5, .int (iz r43)), (4, .int (iz ((200 * (M 53 18)) + k))), (0, .ref (ad 53)), (1, .int (iz q)), (3, .int (iz k))] dX12_holds_212 rfl (by decide) rfl ?_
                      refine v_iinc X 6 [(3, .int (iz (k + 1))), (2, .int (iz 1)), (6, .int (iz r50)), (5, .int (iz r43)), (4, .int (iz ((200 * (M 53 18)) + k))), (0, .ref (ad 53)), (1, .int (iz q))] dX12_holds_213 rfl (by decide) rfl ?_
                      refine v_goto X 26 dX12_holds_216 (by decide) ?_
                      refine v_lv [5, 6, 1, 0] rfl ?_
                      refine v_mem (M' := (mrow M 95 g54)) (by rfl) rfl rfl ?_
                      exact ih6 1 (k + 1) (j + 1) (mX M (M 65 q + (j : Int))) g54 (by omega) (by omega) (by omega) (by first | (exfalso; omega) | (subst ek; rw [mX_e, ← e46p, ← e53p, relB_eq]; repeat (first | rw [if_pos (by omega)] | rw [if_neg (by omega)]))) (by omega) (by first | (exfalso; omega; done) | (skip; rw [hSt_s, hst]; subst ek; dsimp only; rw [if_neg Bool.false_ne_true, if_neg (fun z => by rw [show al = false from (by cases al with | false => rfl | true => exfalso; simp only [if_true] at ha; omega)] at z; cases z.2), if_pos (Or.inl (mO_t.mpr (by omega)))])) (by omega)
                · skip
                  refine v_iload X 1 dX12_holds_159 rfl ?_
                  refine v_iload X 0 dX12_holds_161 rfl ?_
                  refine v_icmp_eq X 170 dX12_holds_163 (by decide) ⟨by omega, by omega⟩ ⟨by omega, by omega⟩ (fun u63 => ?_) (fun u63 => ?_)
                  · skip
                    refine v_iconst X dX12_holds_170 ?_
                    refine v_goto X 212 dX12_holds_171 (by decide) ?_
                    refine v_istore_n X [(2, .int (iz 0)), (6, .int (iz r50)), (5, .int (iz r43)), (4, .int (iz ((200 * (M 53 18)) + k))), (0, .ref (ad 53)), (1, .int (iz q)), (3, .int (iz k))] dX12_holds_212 rfl (by decide) rfl ?_
                    refine v_iinc X 6 [(3, .int (iz (k + 1))), (2, .int (iz 0)), (6, .int (iz r50)), (5, .int (iz r43)), (4, .int (iz ((200 * (M 53 18)) + k))), (0, .ref (ad 53)), (1, .int (iz q))] dX12_holds_213 rfl (by decide) rfl ?_
                    refine v_goto X 26 dX12_holds_216 (by decide) ?_
                    refine v_lv [5, 6, 1, 0] rfl ?_
                    refine v_mem (M' := (mrow M 95 g54)) (by rfl) rfl rfl ?_
                    exact ih6 0 (k + 1) (j + 1) (mX M (M 65 q + (j : Int))) g54 (by omega) (by omega) (by omega) (by first | (exfalso; omega) | (subst ek; rw [mX_e, ← e46p, ← e53p, relB_eq]; repeat (first | rw [if_pos (by omega)] | rw [if_neg (by omega)]))) (by omega) (by first | (exfalso; omega; done) | (skip; rw [hSt_s, hst]; subst ek; dsimp only; rw [if_neg Bool.false_ne_true, if_neg (fun z => by rw [show al = false from (by cases al with | false => rfl | true => exfalso; simp only [if_true] at ha; omega)] at z; cases z.2), if_pos (Or.inl (mO_t.mpr (by omega)))])) (by omega)
                  · skip
                    refine v_iconst X dX12_holds_166 ?_
                    refine v_goto X 212 dX12_holds_167 (by decide) ?_
                    refine v_istore_n X [(2, .int (iz 1)), (6, .int (iz r50)), (5, .int (iz r43)), (4, .int (iz ((200 * (M 53 18)) + k))), (0, .ref (ad 53)), (1, .int (iz q)), (3, .int (iz k))] dX12_holds_212 rfl (by decide) rfl ?_
                    refine v_iinc X 6 [(3, .int (iz (k + 1))), (2, .int (iz 1)), (6, .int (iz r50)), (5, .int (iz r43)), (4, .int (iz ((200 * (M 53 18)) + k))), (0, .ref (ad 53)), (1, .int (iz q))] dX12_holds_213 rfl (by decide) rfl ?_
                    refine v_goto X 26 dX12_holds_216 (by decide) ?_
                    refine v_lv [5, 6, 1, 0] rfl ?_
                    refine v_mem (M' := (mrow M 95 g54)) (by rfl) rfl rfl ?_
                    exact ih6 1 (k + 1) (j + 1) (mX M (M 65 q + (j : Int))) g54 (by omega) (by omega) (by omega) (by first | (exfalso; omega) | (subst ek; rw [mX_e, ← e46p, ← e53p, relB_eq]; repeat (first | rw [if_pos (by omega)] | rw [if_neg (by omega)]))) (by omega) (by first | (exfalso; omega; done) | (skip; rw [hSt_s, hst]; subst ek; dsimp only; rw [if_neg Bool.false_ne_true, if_neg (fun z => by rw [show al = false from (by cases al with | false => rfl | true => exfalso; simp only [if_true] at ha; omega)] at z; cases z.2), if_pos (Or.inl (mO_t.mpr (by omega)))])) (by omega)
              · skip
                refine v_iload X 1 dX12_holds_133 rfl ?_
                refine v_iload X 0 dX12_holds_135 rfl ?_
                refine v_icmp_ne X 144 dX12_holds_137 (by decide) ⟨by omega, by omega⟩ ⟨by omega, by omega⟩ (fun u64 => ?_) (fun u64 => ?_)
                · skip
                  refine v_iconst X dX12_holds_144 ?_
                  refine v_goto X 212 dX12_holds_145 (by decide) ?_
                  refine v_istore_n X [(2, .int (iz 0)), (6, .int (iz r50)), (5, .int (iz r43)), (4, .int (iz ((200 * (M 53 18)) + k))), (0, .ref (ad 53)), (1, .int (iz q)), (3, .int (iz k))] dX12_holds_212 rfl (by decide) rfl ?_
                  refine v_iinc X 6 [(3, .int (iz (k + 1))), (2, .int (iz 0)), (6, .int (iz r50)), (5, .int (iz r43)), (4, .int (iz ((200 * (M 53 18)) + k))), (0, .ref (ad 53)), (1, .int (iz q))] dX12_holds_213 rfl (by decide) rfl ?_
                  refine v_goto X 26 dX12_holds_216 (by decide) ?_
                  refine v_lv [5, 6, 1, 0] rfl ?_
                  refine v_mem (M' := (mrow M 95 g54)) (by rfl) rfl rfl ?_
                  exact ih6 0 (k + 1) (j + 1) (mX M (M 65 q + (j : Int))) g54 (by omega) (by omega) (by omega) (by first | (exfalso; omega) | (subst ek; rw [mX_e, ← e46p, ← e53p, relB_eq]; repeat (first | rw [if_pos (by omega)] | rw [if_neg (by omega)]))) (by omega) (by first | (exfalso; omega; done) | (skip; rw [hSt_s, hst]; subst ek; dsimp only; rw [if_neg Bool.false_ne_true, if_neg (fun z => by rw [show al = false from (by cases al with | false => rfl | true => exfalso; simp only [if_true] at ha; omega)] at z; cases z.2), if_pos (Or.inl (mO_t.mpr (by omega)))])) (by omega)
                · skip
                  refine v_iconst X dX12_holds_140 ?_
                  refine v_goto X 212 dX12_holds_141 (by decide) ?_
                  refine v_istore_n X [(2, .int (iz 1)), (6, .int (iz r50)), (5, .int (iz r43)), (4, .int (iz ((200 * (M 53 18)) + k))), (0, .ref (ad 53)), (1, .int (iz q)), (3, .int (iz k))] dX12_holds_212 rfl (by decide) rfl ?_
                  refine v_iinc X 6 [(3, .int (iz (k + 1))), (2, .int (iz 1)), (6, .int (iz r50)), (5, .int (iz r43)), (4, .int (iz ((200 * (M 53 18)) + k))), (0, .ref (ad 53)), (1, .int (iz q))] dX12_holds_213 rfl (by decide) rfl ?_
                  refine v_goto X 26 dX12_holds_216 (by decide) ?_
                  refine v_lv [5, 6, 1, 0] rfl ?_
                  refine v_mem (M' := (mrow M 95 g54)) (by rfl) rfl rfl ?_
                  exact ih6 1 (k + 1) (j + 1) (mX M (M 65 q + (j : Int))) g54 (by omega) (by omega) (by omega) (by first | (exfalso; omega) | (subst ek; rw [mX_e, ← e46p, ← e53p, relB_eq]; repeat (first | rw [if_pos (by omega)] | rw [if_neg (by omega)]))) (by omega) (by first | (exfalso; omega; done) | (skip; rw [hSt_s, hst]; subst ek; dsimp only; rw [if_neg Bool.false_ne_true, if_neg (fun z => by rw [show al = false from (by cases al with | false => rfl | true => exfalso; simp only [if_true] at ha; omega)] at z; cases z.2), if_pos (Or.inl (mO_t.mpr (by omega)))])) (by omega)
          · skip
            refine v_iload_n X 3 dX12_holds_58 rfl rfl ?_
            refine v_if_eq X 64 dX12_holds_59 (by decide) ⟨by omega, by omega⟩ (fun u65 => ?_) (fun u65 => ?_)
            · skip
              refine v_aload_n X 1 dX12_holds_64 rfl rfl ?_
              refine gt_X12_relOr X iwX12 (Std.lt hS rfl) (Std.k hS rfl rfl) (List.mem_cons_of_mem _ bw_8_10) dX12_holds_65 72 (Std.r hS 31 rfl) ?_
              refine v_iload X 0 dX12_holds_68 rfl ?_
              refine v_zald X (M 72 ((200 * (M 53 18)) + k)) (Std.lt hS rfl) (Std.at hS rfl rfl) (by omega) (by omega) dX12_holds_70 rfl (fun hr66 => ?_)
              refine v_if_eq X 76 dX12_holds_71 (by decide) ⟨by omega, by omega⟩ (fun u67 => ?_) (fun u67 => ?_)
              · skip
                refine v_iload_n X 3 dX12_holds_76 rfl rfl ?_
                refine v_if_ne X 83 dX12_holds_77 (by decide) ⟨by omega, by omega⟩ (fun u68 => ?_) (fun u68 => ?_)
                · skip
                  have hR7 := hR9.1.1
                  have hR6 := hR9.2.1
                  refine v_aload_n X 1 dX12_holds_83 rfl rfl ?_
                  refine v_aload_n X 1 dX12_holds_84 rfl rfl ?_
                  refine gt_X12_relLeft X iwX12 (Std.lt hS rfl) (Std.k hS rfl rfl) (List.mem_cons_of_mem _ bw_8_7) dX12_holds_85 69 (Std.r hS 28 rfl) ?_
                  refine v_iload X 0 dX12_holds_88 rfl ?_
                  refine v_iald X (M 69 ((200 * (M 53 18)) + k)) (Std.lt hS rfl) (Std.at hS rfl rfl) (by omega) (by omega) dX12_holds_90 rfl (fun hr69 => ?_)
                  refine v_aload_n X 1 dX12_holds_91 rfl rfl ?_
                  refine gt_X12_relRight X iwX12 (Std.lt hS rfl) (Std.k hS rfl rfl) (List.mem_cons_of_mem _ bw_8_8) dX12_holds_92 70 (Std.r hS 29 rfl) ?_
                  refine v_iload X 0 dX12_holds_95 rfl ?_
                  refine v_iald X (M 70 ((200 * (M 53 18)) + k)) (Std.lt hS rfl) (Std.at hS rfl rfl) (by omega) (by omega) dX12_holds_97 rfl (fun hr70 => ?_)
                  refine v_callV X [.int (iz (M 69 ((200 * (M 53 18)) + k))), .int (iz (M 70 ((200 * (M 53 18)) + k)))] hRm (c_X12_value _ _ _ hS (M 69 ((200 * (M 53 18)) + k)) (M 70 ((200 * (M 53 18)) + k)) hR9.1) (gV bw_40_10 bw_40_11 bw_40_12 bw_1_5 bw_40_13) rfl ddX12_value (by decide) (Std.lt hS rfl) (Std.k hS rfl rfl) ⟨rfl, by decide⟩ (Nat.le_of_ble_eq_true rfl) dX12_holds_98 (k_eI (fun r71 M72 hr73 e74 => ?_))
                  obtain ⟨e74p, g75, e74m⟩ := e74
                  replace e74m : M72 = (mrow M 95 g75) := e74m.trans (by first | rfl | exact mrow_mrow _ _ _ _)
                  subst e74m
                  replace e74p : r71 = mVal (M 73) (M 74) (M 94) (M 69 ((200 * (M 53 18)) + k)) (M 70 ((200 * (M 53 18)) + k)) := e74p
                  refine v_istore X [(5, .int (iz r71)), (4, .int (iz ((200 * (M 53 18)) + k))), (0, .ref (ad 53)), (1, .int (iz q)), (2, .int (iz a2)), (3, .int (iz k))] dX12_holds_101 (by decide) rfl ?_
                  refine v_aload_n X 2 dX12_holds_103 rfl rfl ?_
                  refine v_aload_n X 2 dX12_holds_104 rfl rfl ?_
                  refine gt_X12_relRight X iwX12 (Std.lt hS rfl) (Std.k hS rfl rfl) (List.mem_cons_of_mem _ bw_8_8) dX12_holds_105 70 (Std.r hS 29 rfl) ?_
                  refine v_iload X 1 dX12_holds_108 rfl ?_
                  refine v_iald X (M 70 ((200 * (M 53 18)) + k)) (Std.lt hS rfl) (Std.at hS rfl rfl) (by omega) (by omega) dX12_holds_110 rfl (fun hr76 => ?_)
                  refine v_aload_n X 2 dX12_holds_111 rfl rfl ?_
                  refine gt_X12_relEnd X iwX12 (Std.lt hS rfl) (Std.k hS rfl rfl) (List.mem_cons_of_mem _ bw_8_9) dX12_holds_112 71 (Std.r hS 30 rfl) ?_
                  refine v_iload X 1 dX12_holds_115 rfl ?_
                  refine v_iald X (M 71 ((200 * (M 53 18)) + k)) (Std.lt hS rfl) (Std.at hS rfl rfl) (by omega) (by omega) dX12_holds_117 rfl (fun hr77 => ?_)
                  refine v_callV X [.int (iz (M 70 ((200 * (M 53 18)) + k))), .int (iz (M 71 ((200 * (M 53 18)) + k)))] hRm (c_X12_value _ _ _ hS (M 70 ((200 * (M 53 18)) + k)) (M 71 ((200 * (M 53 18)) + k)) hR9.2) (gV bw_40_10 bw_40_11 bw_40_12 bw_1_5 bw_40_13) rfl ddX12_value (by decide) (Std.lt hS rfl) (Std.k hS rfl rfl) ⟨rfl, by decide⟩ (Nat.le_of_ble_eq_true rfl) dX12_holds_118 (k_eI (fun r78 M79 hr80 e81 => ?_))
                  obtain ⟨e81p, g82, e81m⟩ := e81
                  replace e81m : M79 = (mrow M 95 g82) := e81m.trans (by first | rfl | exact mrow_mrow _ _ _ _)
                  subst e81m
                  replace e81p : r78 = mVal (M 73) (M 74) (M 94) (M 70 ((200 * (M 53 18)) + k)) (M 71 ((200 * (M 53 18)) + k)) := e81p
                  refine v_istore X [(6, .int (iz r78)), (5, .int (iz r71)), (4, .int (iz ((200 * (M 53 18)) + k))), (0, .ref (ad 53)), (1, .int (iz q)), (2, .int (iz a2)), (3, .int (iz k))] dX12_holds_121 (by decide) rfl ?_
                  refine v_aload_n X 3 dX12_holds_123 rfl rfl ?_
                  refine gt_X12_relSort X iwX12 (Std.lt hS rfl) (Std.k hS rfl rfl) (List.mem_cons_of_mem _ bw_8_6) dX12_holds_124 68 (Std.r hS 27 rfl) ?_
                  refine v_iload X 2 dX12_holds_127 rfl ?_
                  refine v_iald X (M 68 ((200 * (M 53 18)) + k)) (Std.lt hS rfl) (Std.at hS rfl rfl) (by omega) (by omega) dX12_holds_129 rfl (fun hr83 => ?_)
                  refine v_if_ne X 148 dX12_holds_130 (by decide) ⟨by omega, by omega⟩ (fun u84 => ?_) (fun u84 => ?_)
                  · skip
                    refine v_aload_n X 3 dX12_holds_148 rfl rfl ?_
                    refine gt_X12_relSort X iwX12 (Std.lt hS rfl) (Std.k hS rfl rfl) (List.mem_cons_of_mem _ bw_8_6) dX12_holds_149 68 (Std.r hS 27 rfl) ?_
                    refine v_iload X 2 dX12_holds_152 rfl ?_
                    refine v_iald X (M 68 ((200 * (M 53 18)) + k)) (Std.lt hS rfl) (Std.at hS rfl rfl) (by omega) (by omega) dX12_holds_154 rfl (fun hr85 => ?_)
                    refine v_iconst X dX12_holds_155 ?_
                    refine v_icmp_ne X 174 dX12_holds_156 (by decide) ⟨by omega, by omega⟩ ⟨by decide, by decide⟩ (fun u86 => ?_) (fun u86 => ?_)
                    · skip
                      refine v_aload_n X 3 dX12_holds_174 rfl rfl ?_
                      refine gt_X12_relSort X iwX12 (Std.lt hS rfl) (Std.k hS rfl rfl) (List.mem_cons_of_mem _ bw_8_6) dX12_holds_175 68 (Std.r hS 27 rfl) ?_
                      refine v_iload X 2 dX12_holds_178 rfl ?_
                      refine v_iald X (M 68 ((200 * (M 53 18)) + k)) (Std.lt hS rfl) (Std.at hS rfl rfl) (by omega) (by omega) dX12_holds_180 rfl (fun hr87 => ?_)
                      refine v_iconst X dX12_holds_181 ?_
                      refine v_icmp_ne X 200 dX12_holds_182 (by decide) ⟨by omega, by omega⟩ ⟨by decide, by decide⟩ (fun u88 => ?_) (fun u88 => ?_)
                      · skip
                        refine v_iload X 1 dX12_holds_200 rfl ?_
                        refine v_iload X 0 dX12_holds_202 rfl ?_
                        refine v_icmp_gt X 211 dX12_holds_204 (by decide) ⟨by omega, by omega⟩ ⟨by omega, by omega⟩ (fun u89 => ?_) (fun u89 => ?_)
                        · skip
                          refine v_iconst X dX12_holds_211 ?_
                          refine v_istore_n X [(2, .int (iz 0)), (6, .int (iz r78)), (5, .int (iz r71)), (4, .int (iz ((200 * (M 53 18)) + k))), (0, .ref (ad 53)), (1, .int (iz q)), (3, .int (iz k))] dX12_holds_212 rfl (by decide) rfl ?_
                          refine v_iinc X 6 [(3, .int (iz (k + 1))), (2, .int (iz 0)), (6, .int (iz r78)), (5, .int (iz r71)), (4, .int (iz ((200 * (M 53 18)) + k))), (0, .ref (ad 53)), (1, .int (iz q))] dX12_holds_213 rfl (by decide) rfl ?_
                          refine v_goto X 26 dX12_holds_216 (by decide) ?_
                          refine v_lv [5, 6, 1, 0] rfl ?_
                          refine v_mem (M' := (mrow M 95 g82)) (by rfl) rfl rfl ?_
                          exact ih6 0 (k + 1) (j + 1) (mX M (M 65 q + (j : Int))) g82 (by omega) (by omega) (by omega) (by first | (exfalso; omega) | (subst ek; rw [mX_e, ← e74p, ← e81p, relB_eq]; repeat (first | rw [if_pos (by omega)] | rw [if_neg (by omega)]))) (by omega) (by first | (exfalso; omega; done) | (skip; rw [hSt_s, hst]; subst ek; dsimp only; rw [if_neg Bool.false_ne_true, if_neg (fun z => by have := mO_t.mp z.1; omega), if_pos (Or.inr (by cases al with | true => rfl | false => exfalso; simp only [Bool.false_eq_true, if_false] at ha; omega))])) (by omega)
                        · skip
                          refine v_iconst X dX12_holds_207 ?_
                          refine v_goto X 212 dX12_holds_208 (by decide) ?_
                          refine v_istore_n X [(2, .int (iz 1)), (6, .int (iz r78)), (5, .int (iz r71)), (4, .int (iz ((200 * (M 53 18)) + k))), (0, .ref (ad 53)), (1, .int (iz q)), (3, .int (iz k))] dX12_holds_212 rfl (by decide) rfl ?_
                          refine v_iinc X 6 [(3, .int (iz (k + 1))), (2, .int (iz 1)), (6, .int (iz r78)), (5, .int (iz r71)), (4, .int (iz ((200 * (M 53 18)) + k))), (0, .ref (ad 53)), (1, .int (iz q))] dX12_holds_213 rfl (by decide) rfl ?_
                          refine v_goto X 26 dX12_holds_216 (by decide) ?_
                          refine v_lv [5, 6, 1, 0] rfl ?_
                          refine v_mem (M' := (mrow M 95 g82)) (by rfl) rfl rfl ?_
                          exact ih6 1 (k + 1) (j + 1) (mX M (M 65 q + (j : Int))) g82 (by omega) (by omega) (by omega) (by first | (exfalso; omega) | (subst ek; rw [mX_e, ← e74p, ← e81p, relB_eq]; repeat (first | rw [if_pos (by omega)] | rw [if_neg (by omega)]))) (by omega) (by first | (exfalso; omega; done) | (skip; rw [hSt_s, hst]; subst ek; dsimp only; rw [if_neg Bool.false_ne_true, if_neg (fun z => by have := mO_t.mp z.1; omega), if_pos (Or.inr (by cases al with | true => rfl | false => exfalso; simp only [Bool.false_eq_true, if_false] at ha; omega))])) (by omega)
                      · skip
                        refine v_iload X 1 dX12_holds_185 rfl ?_
                        refine v_iload X 0 dX12_holds_187 rfl ?_
                        refine v_icmp_ge X 196 dX12_holds_189 (by decide) ⟨by omega, by omega⟩ ⟨by omega, by omega⟩ (fun u90 => ?_) (fun u90 => ?_)
                        · skip
                          refine v_iconst X dX12_holds_196 ?_
                          refine v_goto X 212 dX12_holds_197 (by decide) ?_
                          refine v_istore_n X [(2, .int (iz 0)), (6, .int (iz r78)), (5, .int (iz r71)), (4, .int (iz ((200 * (M 53 18)) + k))), (0, .ref (ad 53)), (1, .int (iz q)), (3, .int (iz k))] dX12_holds_212 rfl (by decide) rfl ?_
                          refine v_iinc X 6 [(3, .int (iz (k + 1))), (2, .int (iz 0)), (6, .int (iz r78)), (5, .int (iz r71)), (4, .int (iz ((200 * (M 53 18)) + k))), (0, .ref (ad 53)), (1, .int (iz q))] dX12_holds_213 rfl (by decide) rfl ?_
                          refine v_goto X 26 dX12_holds_216 (by decide) ?_
                          refine v_lv [5, 6, 1, 0] rfl ?_
                          refine v_mem (M' := (mrow M 95 g82)) (by rfl) rfl rfl ?_
                          exact ih6 0 (k + 1) (j + 1) (mX M (M 65 q + (j : Int))) g82 (by omega) (by omega) (by omega) (by first | (exfalso; omega) | (subst ek; rw [mX_e, ← e74p, ← e81p, relB_eq]; repeat (first | rw [if_pos (by omega)] | rw [if_neg (by omega)]))) (by omega) (by first | (exfalso; omega; done) | (skip; rw [hSt_s, hst]; subst ek; dsimp only; rw [if_neg Bool.false_ne_true, if_neg (fun z => by have := mO_t.mp z.1; omega), if_pos (Or.inr (by cases al with | true => rfl | false => exfalso; simp only [Bool.false_eq_true, if_false] at ha; omega))])) (by omega)
                        · skip
                          refine v_iconst X dX12_holds_192 ?_
                          refine v_goto X 212 dX12_holds_193 (by decide) ?_
                          refine v_istore_n X [(2, .int (iz 1)), (6, .int (iz r78)), (5, .int (iz r71)), (4, .int (iz ((200 * (M 53 18)) + k))), (0, .ref (ad 53)), (1, .int (iz q)), (3, .int (iz k))] dX12_holds_212 rfl (by decide) rfl ?_
                          refine v_iinc X 6 [(3, .int (iz (k + 1))), (2, .int (iz 1)), (6, .int (iz r78)), (5, .int (iz r71)), (4, .int (iz ((200 * (M 53 18)) + k))), (0, .ref (ad 53)), (1, .int (iz q))] dX12_holds_213 rfl (by decide) rfl ?_
                          refine v_goto X 26 dX12_holds_216 (by decide) ?_
                          refine v_lv [5, 6, 1, 0] rfl ?_
                          refine v_mem (M' := (mrow M 95 g82)) (by rfl) rfl rfl ?_
                          exact ih6 1 (k + 1) (j + 1) (mX M (M 65 q + (j : Int))) g82 (by omega) (by omega) (by omega) (by first | (exfalso; omega) | (subst ek; rw [mX_e, ← e74p, ← e81p, relB_eq]; repeat (first | rw [if_pos (by omega)] | rw [if_neg (by omega)]))) (by omega) (by first | (exfalso; omega; done) | (skip; rw [hSt_s, hst]; subst ek; dsimp only; rw [if_neg Bool.false_ne_true, if_neg (fun z => by have := mO_t.mp z.1; omega), if_pos (Or.inr (by cases al with | true => rfl | false => exfalso; simp only [Bool.false_eq_true, if_false] at ha; omega))])) (by omega)
                    · skip
                      refine v_iload X 1 dX12_holds_159 rfl ?_
                      refine v_iload X 0 dX12_holds_161 rfl ?_
                      refine v_icmp_eq X 170 dX12_holds_163 (by decide) ⟨by omega, by omega⟩ ⟨by omega, by omega⟩ (fun u91 => ?_) (fun u91 => ?_)
                      · skip
                        refine v_iconst X dX12_holds_170 ?_
                        refine v_goto X 212 dX12_holds_171 (by decide) ?_
                        refine v_istore_n X [(2, .int (iz 0)), (6, .int (iz r78)), (5, .int (iz r71)), (4, .int (iz ((200 * (M 53 18)) + k))), (0, .ref (ad 53)), (1, .int (iz q)), (3, .int (iz k))] dX12_holds_212 rfl (by decide) rfl ?_
                        refine v_iinc X 6 [(3, .int (iz (k + 1))), (2, .int (iz 0)), (6, .int (iz r78)), (5, .int (iz r71)), (4, .int (iz ((200 * (M 53 18)) + k))), (0, .ref (ad 53)), (1, .int (iz q))] dX12_holds_213 rfl (by decide) rfl ?_
                        refine v_goto X 26 dX12_holds_216 (by decide) ?_
                        refine v_lv [5, 6, 1, 0] rfl ?_
                        refine v_mem (M' := (mrow M 95 g82)) (by rfl) rfl rfl ?_
                        exact ih6 0 (k + 1) (j + 1) (mX M (M 65 q + (j : Int))) g82 (by omega) (by omega) (by omega) (by first | (exfalso; omega) | (subst ek; rw [mX_e, ← e74p, ← e81p, relB_eq]; repeat (first | rw [if_pos (by omega)] | rw [if_neg (by omega)]))) (by omega) (by first | (exfalso; omega; done) | (skip; rw [hSt_s, hst]; subst ek; dsimp only; rw [if_neg Bool.false_ne_true, if_neg (fun z => by have := mO_t.mp z.1; omega), if_pos (Or.inr (by cases al with | true => rfl | false => exfalso; simp only [Bool.false_eq_true, if_false] at ha; omega))])) (by omega)
                      · skip
                        refine v_iconst X dX12_holds_166 ?_
                        refine v_goto X 212 dX12_holds_167 (by decide) ?_
                        refine v_istore_n X [(2, .int (iz 1)), (6, .int (iz r78)), (5, .int (iz r71)), (4, .int (iz ((200 * (M 53 18)) + k))), (0, .ref (ad 53)), (1, .int (iz q)), (3, .int (iz k))] dX12_holds_212 rfl (by decide) rfl ?_
                        refine v_iinc X 6 [(3, .int (iz (k + 1))), (2, .int (iz 1)), (6, .int (iz r78)), (5, .int (iz r71)), (4, .int (iz ((200 * (M 53 18)) + k))), (0, .ref (ad 53)), (1, .int (iz q))] dX12_holds_213 rfl (by decide) rfl ?_
                        refine v_goto X 26 dX12_holds_216 (by decide) ?_
                        refine v_lv [5, 6, 1, 0] rfl ?_
                        refine v_mem (M' := (mrow M 95 g82)) (by rfl) rfl rfl ?_
                        exact ih6 1 (k + 1) (j + 1) (mX M (M 65 q + (j : Int))) g82 (by omega) (by omega) (by omega) (by first | (exfalso; omega) | (subst ek; rw [mX_e, ← e74p, ← e81p, relB_eq]; repeat (first | rw [if_pos (by omega)] | rw [if_neg (by omega)]))) (by omega) (by first | (exfalso; omega; done) | (skip; rw [hSt_s, hst]; subst ek; dsimp only; rw [if_neg Bool.false_ne_true, if_neg (fun z => by have := mO_t.mp z.1; omega), if_pos (Or.inr (by cases al with | true => rfl | false => exfalso; simp only [Bool.false_eq_true, if_false] at ha; omega))])) (by omega)
                  · skip
                    refine v_iload X 1 dX12_holds_133 rfl ?_
                    refine v_iload X 0 dX12_holds_135 rfl ?_
                    refine v_icmp_ne X 144 dX12_holds_137 (by decide) ⟨by omega, by omega⟩ ⟨by omega, by omega⟩ (fun u92 => ?_) (fun u92 => ?_)
                    · skip
                      refine v_iconst X dX12_holds_144 ?_
                      refine v_goto X 212 dX12_holds_145 (by decide) ?_
                      refine v_istore_n X [(2, .int (iz 0)), (6, .int (iz r78)), (5, .int (iz r71)), (4, .int (iz ((200 * (M 53 18)) + k))), (0, .ref (ad 53)), (1, .int (iz q)), (3, .int (iz k))] dX12_holds_212 rfl (by decide) rfl ?_
                      refine v_iinc X 6 [(3, .int (iz (k + 1))), (2, .int (iz 0)), (6, .int (iz r78)), (5, .int (iz r71)), (4, .int (iz ((200 * (M 53 18)) + k))), (0, .ref (ad 53)), (1, .int (iz q))] dX12_holds_213 rfl (by decide) rfl ?_
                      refine v_goto X 26 dX12_holds_216 (by decide) ?_
                      refine v_lv [5, 6, 1, 0] rfl ?_
                      refine v_mem (M' := (mrow M 95 g82)) (by rfl) rfl rfl ?_
                      exact ih6 0 (k + 1) (j + 1) (mX M (M 65 q + (j : Int))) g82 (by omega) (by omega) (by omega) (by first | (exfalso; omega) | (subst ek; rw [mX_e, ← e74p, ← e81p, relB_eq]; repeat (first | rw [if_pos (by omega)] | rw [if_neg (by omega)]))) (by omega) (by first | (exfalso; omega; done) | (skip; rw [hSt_s, hst]; subst ek; dsimp only; rw [if_neg Bool.false_ne_true, if_neg (fun z => by have := mO_t.mp z.1; omega), if_pos (Or.inr (by cases al with | true => rfl | false => exfalso; simp only [Bool.false_eq_true, if_false] at ha; omega))])) (by omega)
                    · skip
                      refine v_iconst X dX12_holds_140 ?_
                      refine v_goto X 212 dX12_holds_141 (by decide) ?_
                      refine v_istore_n X [(2, .int (iz 1)), (6, .int (iz r78)), (5, .int (iz r71)), (4, .int (iz ((200 * (M 53 18)) + k))), (0, .ref (ad 53)), (1, .int (iz q)), (3, .int (iz k))] dX12_holds_212 rfl (by decide) rfl ?_
                      refine v_iinc X 6 [(3, .int (iz (k + 1))), (2, .int (iz 1)), (6, .int (iz r78)), (5, .int (iz r71)), (4, .int (iz ((200 * (M 53 18)) + k))), (0, .ref (ad 53)), (1, .int (iz q))] dX12_holds_213 rfl (by decide) rfl ?_
                      refine v_goto X 26 dX12_holds_216 (by decide) ?_
                      refine v_lv [5, 6, 1, 0] rfl ?_
                      refine v_mem (M' := (mrow M 95 g82)) (by rfl) rfl rfl ?_
                      exact ih6 1 (k + 1) (j + 1) (mX M (M 65 q + (j : Int))) g82 (by omega) (by omega) (by omega) (by first | (exfalso; omega) | (subst ek; rw [mX_e, ← e74p, ← e81p, relB_eq]; repeat (first | rw [if_pos (by omega)] | rw [if_neg (by omega)]))) (by omega) (by first | (exfalso; omega; done) | (skip; rw [hSt_s, hst]; subst ek; dsimp only; rw [if_neg Bool.false_ne_true, if_neg (fun z => by have := mO_t.mp z.1; omega), if_pos (Or.inr (by cases al with | true => rfl | false => exfalso; simp only [Bool.false_eq_true, if_false] at ha; omega))])) (by omega)
                · skip
                  refine v_goto X 213 dX12_holds_80 (by decide) ?_
                  refine v_iinc X 4 [(3, .int (iz (k + 1))), (4, .int (iz ((200 * (M 53 18)) + k))), (0, .ref (ad 53)), (1, .int (iz q)), (2, .int (iz a2))] dX12_holds_213 rfl (by decide) rfl ?_
                  refine v_goto X 26 dX12_holds_216 (by decide) ?_
                  refine v_lv [2, 3, 4, 0] rfl ?_
                  refine v_mem (M' := (mrow M 95 g)) (by rfl) rfl rfl ?_
                  exact ih6 a2 (k + 1) (j + 1) false g (by omega) (by omega) (by omega) (by simp only [Bool.false_eq_true, if_false]; omega) (by omega) (by rw [hSt_s, hst]; subst ek; dsimp only; rw [if_neg Bool.false_ne_true, if_neg (fun z => by have := mO_t.mp z.1; omega), if_neg (fun z => z.elim (fun z => by have := mO_t.mp z; omega) (fun z => by rw [show al = false from (by cases al with | false => rfl | true => exfalso; simp only [if_true] at ha; omega)] at z; cases z))]) (by omega)
              · skip
                refine v_iconst X dX12_holds_74 ?_
                refine v_istore_n X [(2, .int (iz 1)), (4, .int (iz ((200 * (M 53 18)) + k))), (0, .ref (ad 53)), (1, .int (iz q)), (3, .int (iz k))] dX12_holds_75 rfl (by decide) rfl ?_
                refine v_iload_n X 0 dX12_holds_76 rfl rfl ?_
                refine v_if_ne X 83 dX12_holds_77 (by decide) ⟨by decide, by decide⟩ (fun _ => ?_) (fun q => absurd (by decide) q)
                have hR7 := hR9.1.1
                have hR6 := hR9.2.1
                refine v_aload_n X 2 dX12_holds_83 rfl rfl ?_
                refine v_aload_n X 2 dX12_holds_84 rfl rfl ?_
                refine gt_X12_relLeft X iwX12 (Std.lt hS rfl) (Std.k hS rfl rfl) (List.mem_cons_of_mem _ bw_8_7) dX12_holds_85 69 (Std.r hS 28 rfl) ?_
                refine v_iload X 1 dX12_holds_88 rfl ?_
                refine v_iald X (M 69 ((200 * (M 53 18)) + k)) (Std.lt hS rfl) (Std.at hS rfl rfl) (by omega) (by omega) dX12_holds_90 rfl (fun hr93 => ?_)
                refine v_aload_n X 2 dX12_holds_91 rfl rfl ?_
                refine gt_X12_relRight X iwX12 (Std.lt hS rfl) (Std.k hS rfl rfl) (List.mem_cons_of_mem _ bw_8_8) dX12_holds_92 70 (Std.r hS 29 rfl) ?_
                refine v_iload X 1 dX12_holds_95 rfl ?_
                refine v_iald X (M 70 ((200 * (M 53 18)) + k)) (Std.lt hS rfl) (Std.at hS rfl rfl) (by omega) (by omega) dX12_holds_97 rfl (fun hr94 => ?_)
                refine v_callV X [.int (iz (M 69 ((200 * (M 53 18)) + k))), .int (iz (M 70 ((200 * (M 53 18)) + k)))] hRm (c_X12_value _ _ _ hS (M 69 ((200 * (M 53 18)) + k)) (M 70 ((200 * (M 53 18)) + k)) hR9.1) (gV bw_40_10 bw_40_11 bw_40_12 bw_1_5 bw_40_13) rfl ddX12_value (by decide) (Std.lt hS rfl) (Std.k hS rfl rfl) ⟨rfl, by decide⟩ (Nat.le_of_ble_eq_true rfl) dX12_holds_98 (k_eI (fun r95 M96 hr97 e98 => ?_))
                obtain ⟨e98p, g99, e98m⟩ := e98
                replace e98m : M96 = (mrow M 95 g99) := e98m.trans (by first | rfl | exact mrow_mrow _ _ _ _)
                subst e98m
                replace e98p : r95 = mVal (M 73) (M 74) (M 94) (M 69 ((200 * (M 53 18)) + k)) (M 70 ((200 * (M 53 18)) + k)) := e98p
                refine v_istore X [(5, .int (iz r95)), (2, .int (iz 1)), (4, .int (iz ((200 * (M 53 18)) + k))), (0, .ref (ad 53)), (1, .int (iz q)), (3, .int (iz k))] dX12_holds_101 (by decide) rfl ?_
                refine v_aload_n X 3 dX12_holds_103 rfl rfl ?_
                refine v_aload_n X 3 dX12_holds_104 rfl rfl ?_
                refine gt_X12_relRight X iwX12 (Std.lt hS rfl) (Std.k hS rfl rfl) (List.mem_cons_of_mem _ bw_8_8) dX12_holds_105 70 (Std.r hS 29 rfl) ?_
                refine v_iload X 2 dX12_holds_108 rfl ?_
                refine v_iald X (M 70 ((200 * (M 53 18)) + k)) (Std.lt hS rfl) (Std.at hS rfl rfl) (by omega) (by omega) dX12_holds_110 rfl (fun hr100 => ?_)
                refine v_aload_n X 3 dX12_holds_111 rfl rfl ?_
                refine gt_X12_relEnd X iwX12 (Std.lt hS rfl) (Std.k hS rfl rfl) (List.mem_cons_of_mem _ bw_8_9) dX12_holds_112 71 (Std.r hS 30 rfl) ?_
                refine v_iload X 2 dX12_holds_115 rfl ?_
                refine v_iald X (M 71 ((200 * (M 53 18)) + k)) (Std.lt hS rfl) (Std.at hS rfl rfl) (by omega) (by omega) dX12_holds_117 rfl (fun hr101 => ?_)
                refine v_callV X [.int (iz (M 70 ((200 * (M 53 18)) + k))), .int (iz (M 71 ((200 * (M 53 18)) + k)))] hRm (c_X12_value _ _ _ hS (M 70 ((200 * (M 53 18)) + k)) (M 71 ((200 * (M 53 18)) + k)) hR9.2) (gV bw_40_10 bw_40_11 bw_40_12 bw_1_5 bw_40_13) rfl ddX12_value (by decide) (Std.lt hS rfl) (Std.k hS rfl rfl) ⟨rfl, by decide⟩ (Nat.le_of_ble_eq_true rfl) dX12_holds_118 (k_eI (fun r102 M103 hr104 e105 => ?_))
                obtain ⟨e105p, g106, e105m⟩ := e105
                replace e105m : M103 = (mrow M 95 g106) := e105m.trans (by first | rfl | exact mrow_mrow _ _ _ _)
                subst e105m
                replace e105p : r102 = mVal (M 73) (M 74) (M 94) (M 70 ((200 * (M 53 18)) + k)) (M 71 ((200 * (M 53 18)) + k)) := e105p
                refine v_istore X [(6, .int (iz r102)), (5, .int (iz r95)), (2, .int (iz 1)), (4, .int (iz ((200 * (M 53 18)) + k))), (0, .ref (ad 53)), (1, .int (iz q)), (3, .int (iz k))] dX12_holds_121 (by decide) rfl ?_
                refine v_aload_n X 4 dX12_holds_123 rfl rfl ?_
                refine gt_X12_relSort X iwX12 (Std.lt hS rfl) (Std.k hS rfl rfl) (List.mem_cons_of_mem _ bw_8_6) dX12_holds_124 68 (Std.r hS 27 rfl) ?_
                refine v_iload X 3 dX12_holds_127 rfl ?_
                refine v_iald X (M 68 ((200 * (M 53 18)) + k)) (Std.lt hS rfl) (Std.at hS rfl rfl) (by omega) (by omega) dX12_holds_129 rfl (fun hr107 => ?_)
                refine v_if_ne X 148 dX12_holds_130 (by decide) ⟨by omega, by omega⟩ (fun u108 => ?_) (fun u108 => ?_)
                · skip
                  refine v_aload_n X 4 dX12_holds_148 rfl rfl ?_
                  refine gt_X12_relSort X iwX12 (Std.lt hS rfl) (Std.k hS rfl rfl) (List.mem_cons_of_mem _ bw_8_6) dX12_holds_149 68 (Std.r hS 27 rfl) ?_
                  refine v_iload X 3 dX12_holds_152 rfl ?_
                  refine v_iald X (M 68 ((200 * (M 53 18)) + k)) (Std.lt hS rfl) (Std.at hS rfl rfl) (by omega) (by omega) dX12_holds_154 rfl (fun hr109 => ?_)
                  refine v_iconst X dX12_holds_155 ?_
                  refine v_icmp_ne X 174 dX12_holds_156 (by decide) ⟨by omega, by omega⟩ ⟨by decide, by decide⟩ (fun u110 => ?_) (fun u110 => ?_)
                  · skip
                    refine v_aload_n X 4 dX12_holds_174 rfl rfl ?_
                    refine gt_X12_relSort X iwX12 (Std.lt hS rfl) (Std.k hS rfl rfl) (List.mem_cons_of_mem _ bw_8_6) dX12_holds_175 68 (Std.r hS 27 rfl) ?_
                    refine v_iload X 3 dX12_holds_178 rfl ?_
                    refine v_iald X (M 68 ((200 * (M 53 18)) + k)) (Std.lt hS rfl) (Std.at hS rfl rfl) (by omega) (by omega) dX12_holds_180 rfl (fun hr111 => ?_)
                    refine v_iconst X dX12_holds_181 ?_
                    refine v_icmp_ne X 200 dX12_holds_182 (by decide) ⟨by omega, by omega⟩ ⟨by decide, by decide⟩ (fun u112 => ?_) (fun u112 => ?_)
                    · skip
                      refine v_iload X 1 dX12_holds_200 rfl ?_
                      refine v_iload X 0 dX12_holds_202 rfl ?_
                      refine v_icmp_gt X 211 dX12_holds_204 (by decide) ⟨by omega, by omega⟩ ⟨by omega, by omega⟩ (fun u113 => ?_) (fun u113 => ?_)
                      · skip
                        refine v_iconst X dX12_holds_211 ?_
                        refine v_istore_n X [(2, .int (iz 0)), (6, .int (iz r102)), (5, .int (iz r95)), (4, .int (iz ((200 * (M 53 18)) + k))), (0, .ref (ad 53)), (1, .int (iz q)), (3, .int (iz k))] dX12_holds_212 rfl (by decide) rfl ?_
                        refine v_iinc X 6 [(3, .int (iz (k + 1))), (2, .int (iz 0)), (6, .int (iz r102)), (5, .int (iz r95)), (4, .int (iz ((200 * (M 53 18)) + k))), (0, .ref (ad 53)), (1, .int (iz q))] dX12_holds_213 rfl (by decide) rfl ?_
                        refine v_goto X 26 dX12_holds_216 (by decide) ?_
                        refine v_lv [5, 6, 1, 0] rfl ?_
                        refine v_mem (M' := (mrow M 95 g106)) (by rfl) rfl rfl ?_
                        exact ih6 0 (k + 1) (j + 1) (mX M (M 65 q + (j : Int))) g106 (by omega) (by omega) (by omega) (by first | (exfalso; omega) | (subst ek; rw [mX_e, ← e98p, ← e105p, relB_eq]; repeat (first | rw [if_pos (by omega)] | rw [if_neg (by omega)]))) (by omega) (by first | (exfalso; omega; done) | (skip; rw [hSt_s, hst]; subst ek; dsimp only; rw [if_neg Bool.false_ne_true, if_neg (fun z => by rw [show al = false from (by cases al with | false => rfl | true => exfalso; simp only [if_true] at ha; omega)] at z; cases z.2), if_pos (Or.inl (mO_t.mpr (by omega)))])) (by omega)
                      · skip
                        refine v_iconst X dX12_holds_207 ?_
                        refine v_goto X 212 dX12_holds_208 (by decide) ?_
                        refine v_istore_n X [(2, .int (iz 1)), (6, .int (iz r102)), (5, .int (iz r95)), (4, .int (iz ((200 * (M 53 18)) + k))), (0, .ref (ad 53)), (1, .int (iz q)), (3, .int (iz k))] dX12_holds_212 rfl (by decide) rfl ?_
                        refine v_iinc X 6 [(3, .int (iz (k + 1))), (2, .int (iz 1)), (6, .int (iz r102)), (5, .int (iz r95)), (4, .int (iz ((200 * (M 53 18)) + k))), (0, .ref (ad 53)), (1, .int (iz q))] dX12_holds_213 rfl (by decide) rfl ?_
                        refine v_goto X 26 dX12_holds_216 (by decide) ?_
                        refine v_lv [5, 6, 1, 0] rfl ?_
                        refine v_mem (M' := (mrow M 95 g106)) (by rfl) rfl rfl ?_
                        exact ih6 1 (k + 1) (j + 1) (mX M (M 65 q + (j : Int))) g106 (by omega) (by omega) (by omega) (by first | (exfalso; omega) | (subst ek; rw [mX_e, ← e98p, ← e105p, relB_eq]; repeat (first | rw [if_pos (by omega)] | rw [if_neg (by omega)]))) (by omega) (by first | (exfalso; omega; done) | (skip; rw [hSt_s, hst]; subst ek; dsimp only; rw [if_neg Bool.false_ne_true, if_neg (fun z => by rw [show al = false from (by cases al with | false => rfl | true => exfalso; simp only [if_true] at ha; omega)] at z; cases z.2), if_pos (Or.inl (mO_t.mpr (by omega)))])) (by omega)
                    · skip
                      refine v_iload X 1 dX12_holds_185 rfl ?_
                      refine v_iload X 0 dX12_holds_187 rfl ?_
                      refine v_icmp_ge X 196 dX12_holds_189 (by decide) ⟨by omega, by omega⟩ ⟨by omega, by omega⟩ (fun u114 => ?_) (fun u114 => ?_)
                      · skip
                        refine v_iconst X dX12_holds_196 ?_
                        refine v_goto X 212 dX12_holds_197 (by decide) ?_
                        refine v_istore_n X [(2, .int (iz 0)), (6, .int (iz r102)), (5, .int (iz r95)), (4, .int (iz ((200 * (M 53 18)) + k))), (0, .ref (ad 53)), (1, .int (iz q)), (3, .int (iz k))] dX12_holds_212 rfl (by decide) rfl ?_
                        refine v_iinc X 6 [(3, .int (iz (k + 1))), (2, .int (iz 0)), (6, .int (iz r102)), (5, .int (iz r95)), (4, .int (iz ((200 * (M 53 18)) + k))), (0, .ref (ad 53)), (1, .int (iz q))] dX12_holds_213 rfl (by decide) rfl ?_
                        refine v_goto X 26 dX12_holds_216 (by decide) ?_
                        refine v_lv [5, 6, 1, 0] rfl ?_
                        refine v_mem (M' := (mrow M 95 g106)) (by rfl) rfl rfl ?_
                        exact ih6 0 (k + 1) (j + 1) (mX M (M 65 q + (j : Int))) g106 (by omega) (by omega) (by omega) (by first | (exfalso; omega) | (subst ek; rw [mX_e, ← e98p, ← e105p, relB_eq]; repeat (first | rw [if_pos (by omega)] | rw [if_neg (by omega)]))) (by omega) (by first | (exfalso; omega; done) | (skip; rw [hSt_s, hst]; subst ek; dsimp only; rw [if_neg Bool.false_ne_true, if_neg (fun z => by rw [show al = false from (by cases al with | false => rfl | true => exfalso; simp only [if_true] at ha; omega)] at z; cases z.2), if_pos (Or.inl (mO_t.mpr (by omega)))])) (by omega)
                      · skip
                        refine v_iconst X dX12_holds_192 ?_
                        refine v_goto X 212 dX12_holds_193 (by decide) ?_
                        refine v_istore_n X [(2, .int (iz 1)), (6, .int (iz r102)), (5, .int (iz r95)), (4, .int (iz ((200 * (M 53 18)) + k))), (0, .ref (ad 53)), (1, .int (iz q)), (3, .int (iz k))] dX12_holds_212 rfl (by decide) rfl ?_
                        refine v_iinc X 6 [(3, .int (iz (k + 1))), (2, .int (iz 1)), (6, .int (iz r102)), (5, .int (iz r95)), (4, .int (iz ((200 * (M 53 18)) + k))), (0, .ref (ad 53)), (1, .int (iz q))] dX12_holds_213 rfl (by decide) rfl ?_
                        refine v_goto X 26 dX12_holds_216 (by decide) ?_
                        refine v_lv [5, 6, 1, 0] rfl ?_
                        refine v_mem (M' := (mrow M 95 g106)) (by rfl) rfl rfl ?_
                        exact ih6 1 (k + 1) (j + 1) (mX M (M 65 q + (j : Int))) g106 (by omega) (by omega) (by omega) (by first | (exfalso; omega) | (subst ek; rw [mX_e, ← e98p, ← e105p, relB_eq]; repeat (first | rw [if_pos (by omega)] | rw [if_neg (by omega)]))) (by omega) (by first | (exfalso; omega; done) | (skip; rw [hSt_s, hst]; subst ek; dsimp only; rw [if_neg Bool.false_ne_true, if_neg (fun z => by rw [show al = false from (by cases al with | false => rfl | true => exfalso; simp only [if_true] at ha; omega)] at z; cases z.2), if_pos (Or.inl (mO_t.mpr (by omega)))])) (by omega)
                  · skip
                    refine v_iload X 1 dX12_holds_159 rfl ?_
                    refine v_iload X 0 dX12_holds_161 rfl ?_
                    refine v_icmp_eq X 170 dX12_holds_163 (by decide) ⟨by omega, by omega⟩ ⟨by omega, by omega⟩ (fun u115 => ?_) (fun u115 => ?_)
                    · skip
                      refine v_iconst X dX12_holds_170 ?_
                      refine v_goto X 212 dX12_holds_171 (by decide) ?_
                      refine v_istore_n X [(2, .int (iz 0)), (6, .int (iz r102)), (5, .int (iz r95)), (4, .int (iz ((200 * (M 53 18)) + k))), (0, .ref (ad 53)), (1, .int (iz q)), (3, .int (iz k))] dX12_holds_212 rfl (by decide) rfl ?_
                      refine v_iinc X 6 [(3, .int (iz (k + 1))), (2, .int (iz 0)), (6, .int (iz r102)), (5, .int (iz r95)), (4, .int (iz ((200 * (M 53 18)) + k))), (0, .ref (ad 53)), (1, .int (iz q))] dX12_holds_213 rfl (by decide) rfl ?_
                      refine v_goto X 26 dX12_holds_216 (by decide) ?_
                      refine v_lv [5, 6, 1, 0] rfl ?_
                      refine v_mem (M' := (mrow M 95 g106)) (by rfl) rfl rfl ?_
                      exact ih6 0 (k + 1) (j + 1) (mX M (M 65 q + (j : Int))) g106 (by omega) (by omega) (by omega) (by first | (exfalso; omega) | (subst ek; rw [mX_e, ← e98p, ← e105p, relB_eq]; repeat (first | rw [if_pos (by omega)] | rw [if_neg (by omega)]))) (by omega) (by first | (exfalso; omega; done) | (skip; rw [hSt_s, hst]; subst ek; dsimp only; rw [if_neg Bool.false_ne_true, if_neg (fun z => by rw [show al = false from (by cases al with | false => rfl | true => exfalso; simp only [if_true] at ha; omega)] at z; cases z.2), if_pos (Or.inl (mO_t.mpr (by omega)))])) (by omega)
                    · skip
                      refine v_iconst X dX12_holds_166 ?_
                      refine v_goto X 212 dX12_holds_167 (by decide) ?_
                      refine v_istore_n X [(2, .int (iz 1)), (6, .int (iz r102)), (5, .int (iz r95)), (4, .int (iz ((200 * (M 53 18)) + k))), (0, .ref (ad 53)), (1, .int (iz q)), (3, .int (iz k))] dX12_holds_212 rfl (by decide) rfl ?_
                      refine v_iinc X 6 [(3, .int (iz (k + 1))), (2, .int (iz 1)), (6, .int (iz r102)), (5, .int (iz r95)), (4, .int (iz ((200 * (M 53 18)) + k))), (0, .ref (ad 53)), (1, .int (iz q))] dX12_holds_213 rfl (by decide) rfl ?_
                      refine v_goto X 26 dX12_holds_216 (by decide) ?_
                      refine v_lv [5, 6, 1, 0] rfl ?_
                      refine v_mem (M' := (mrow M 95 g106)) (by rfl) rfl rfl ?_
                      exact ih6 1 (k + 1) (j + 1) (mX M (M 65 q + (j : Int))) g106 (by omega) (by omega) (by omega) (by first | (exfalso; omega) | (subst ek; rw [mX_e, ← e98p, ← e105p, relB_eq]; repeat (first | rw [if_pos (by omega)] | rw [if_neg (by omega)]))) (by omega) (by first | (exfalso; omega; done) | (skip; rw [hSt_s, hst]; subst ek; dsimp only; rw [if_neg Bool.false_ne_true, if_neg (fun z => by rw [show al = false from (by cases al with | false => rfl | true => exfalso; simp only [if_true] at ha; omega)] at z; cases z.2), if_pos (Or.inl (mO_t.mpr (by omega)))])) (by omega)
                · skip
                  refine v_iload X 1 dX12_holds_133 rfl ?_
                  refine v_iload X 0 dX12_holds_135 rfl ?_
                  refine v_icmp_ne X 144 dX12_holds_137 (by decide) ⟨by omega, by omega⟩ ⟨by omega, by omega⟩ (fun u116 => ?_) (fun u116 => ?_)
                  · skip
                    refine v_iconst X dX12_holds_144 ?_
                    refine v_goto X 212 dX12_holds_145 (by decide) ?_
                    refine v_istore_n X [(2, .int (iz 0)), (6, .int (iz r102)), (5, .int (iz r95)), (4, .int (iz ((200 * (M 53 18)) + k))), (0, .ref (ad 53)), (1, .int (iz q)), (3, .int (iz k))] dX12_holds_212 rfl (by decide) rfl ?_
                    refine v_iinc X 6 [(3, .int (iz (k + 1))), (2, .int (iz 0)), (6, .int (iz r102)), (5, .int (iz r95)), (4, .int (iz ((200 * (M 53 18)) + k))), (0, .ref (ad 53)), (1, .int (iz q))] dX12_holds_213 rfl (by decide) rfl ?_
                    refine v_goto X 26 dX12_holds_216 (by decide) ?_
                    refine v_lv [5, 6, 1, 0] rfl ?_
                    refine v_mem (M' := (mrow M 95 g106)) (by rfl) rfl rfl ?_
                    exact ih6 0 (k + 1) (j + 1) (mX M (M 65 q + (j : Int))) g106 (by omega) (by omega) (by omega) (by first | (exfalso; omega) | (subst ek; rw [mX_e, ← e98p, ← e105p, relB_eq]; repeat (first | rw [if_pos (by omega)] | rw [if_neg (by omega)]))) (by omega) (by first | (exfalso; omega; done) | (skip; rw [hSt_s, hst]; subst ek; dsimp only; rw [if_neg Bool.false_ne_true, if_neg (fun z => by rw [show al = false from (by cases al with | false => rfl | true => exfalso; simp only [if_true] at ha; omega)] at z; cases z.2), if_pos (Or.inl (mO_t.mpr (by omega)))])) (by omega)
                  · skip
                    refine v_iconst X dX12_holds_140 ?_
                    refine v_goto X 212 dX12_holds_141 (by decide) ?_
                    refine v_istore_n X [(2, .int (iz 1)), (6, .int (iz r102)), (5, .int (iz r95)), (4, .int (iz ((200 * (M 53 18)) + k))), (0, .ref (ad 53)), (1, .int (iz q)), (3, .int (iz k))] dX12_holds_212 rfl (by decide) rfl ?_
                    refine v_iinc X 6 [(3, .int (iz (k + 1))), (2, .int (iz 1)), (6, .int (iz r102)), (5, .int (iz r95)), (4, .int (iz ((200 * (M 53 18)) + k))), (0, .ref (ad 53)), (1, .int (iz q))] dX12_holds_213 rfl (by decide) rfl ?_
                    refine v_goto X 26 dX12_holds_216 (by decide) ?_
                    refine v_lv [5, 6, 1, 0] rfl ?_
                    refine v_mem (M' := (mrow M 95 g106)) (by rfl) rfl rfl ?_
                    exact ih6 1 (k + 1) (j + 1) (mX M (M 65 q + (j : Int))) g106 (by omega) (by omega) (by omega) (by first | (exfalso; omega) | (subst ek; rw [mX_e, ← e98p, ← e105p, relB_eq]; repeat (first | rw [if_pos (by omega)] | rw [if_neg (by omega)]))) (by omega) (by first | (exfalso; omega; done) | (skip; rw [hSt_s, hst]; subst ek; dsimp only; rw [if_neg Bool.false_ne_true, if_neg (fun z => by rw [show al = false from (by cases al with | false => rfl | true => exfalso; simp only [if_true] at ha; omega)] at z; cases z.2), if_pos (Or.inl (mO_t.mpr (by omega)))])) (by omega)
            · skip
              refine v_iconst X dX12_holds_62 ?_
              refine hret _ _ _ _ _ _ _ _ _ _ _ (some (.int (iz 1))) dX12_holds_63 ⟨rfl, 1, ⟨by omega, by omega⟩, rfl⟩ (by decide) (by decide) (fun hmok => ?_)
              refine ⟨rfl, rfl, rfl, rfl, rfl, 1, rfl, Or.inl ⟨rfl, ?_, ⟨_, rfl⟩⟩⟩
              unfold mHold hRes
              rw [hSt_done (j := j + 1) (by subst ek; rw [hSt_s, hst]; dsimp only; rw [if_neg Bool.false_ne_true, if_pos ⟨mO_t.mpr (by omega), by cases al with | true => rfl | false => exfalso; simp only [Bool.false_eq_true, if_false] at ha; omega⟩]) (by omega)]
              simp
    refine v_lv [2, 3, 1, 0] rfl ?_
    refine v_mem (M' := (mrow M 95 (M 95))) (by exact (mrow_self M 95).symm) rfl rfl ?_
    exact hl5 _ 0 (M 65 q) 0 false (M 95) (by omega) (by omega) (by omega) (rfl) (by omega) (rfl) (Nat.lt_succ_self _)
  · skip
    refine v_iconst X dX12_holds_15 ?_
    refine hret _ _ _ _ _ _ _ _ _ _ _ (some (.int (iz 1))) dX12_holds_16 ⟨rfl, 1, ⟨by omega, by omega⟩, rfl⟩ (by decide) (by decide) (fun hmok => ?_)
    refine ⟨rfl, rfl, rfl, rfl, rfl, 1, rfl, Or.inl ⟨rfl, ?_, M 95, (mrow_self M 95).symm⟩⟩
    unfold mHold
    rw [Bool.or_eq_true]
    exact Or.inl (decide_eq_true (by omega))

