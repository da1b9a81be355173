/-! lengths: sums and heights over the figures that count -/
def fAll (rf : Int → Bool) (mn : Int → Int) : Nat → Int
  | 0 => 0
  | n + 1 => fAll rf mn n + (if rf (n : Int) = true then 0 else mn (n : Int))
def fTop (rf : Int → Bool) (ht : Int → Int) : Nat → Int
  | 0 => -1
  | n + 1 => if rf (n : Int) = true then fTop rf ht n else max (fTop rf ht n) (ht (n : Int))
theorem fAll_s (rf : Int → Bool) (mn : Int → Int) (n : Nat) : fAll rf mn (n + 1) = fAll rf mn n + (if rf (n : Int) = true then 0 else mn (n : Int)) := rfl
theorem fTop_s (rf : Int → Bool) (ht : Int → Int) (n : Nat) : fTop rf ht (n + 1) = if rf (n : Int) = true then fTop rf ht n else max (fTop rf ht n) (ht (n : Int)) := rfl
def lenF (n : Nat) (rf hi : Int → Bool) (mn ht : Int → Int) (b : Int) : Int := if fTop rf ht n < b then fAll rf mn n else if fTop (fun k => rf k || hi k) ht n < b then fAll (fun k => rf k || hi k) mn n else 0
def mRf (M : MI) (a : Int) : Int → Bool := fun j => decide (M 53 52 ≤ mFar M (6 * a + j))
def mHi (M : MI) (a : Int) : Int → Bool := fun j => decide (M 86 (6 * a + j) ≠ 0)
def mMn (M : MI) (a : Int) : Int → Int := fun j => M 83 (6 * a + j)
def mHt (M : MI) (a : Int) : Int → Int := fun j => M 85 (6 * a + j)
theorem mRf_t {M : MI} {a j : Int} : mRf M a j = true ↔ M 53 52 ≤ mFar M (6 * a + j) := decide_eq_true_iff
theorem mRH_t {M : MI} {a j : Int} : (mRf M a j || mHi M a j) = true ↔ (M 53 52 ≤ mFar M (6 * a + j) ∨ M 86 (6 * a + j) ≠ 0) := by
  unfold mRf mHi
  rw [Bool.or_eq_true, decide_eq_true_iff, decide_eq_true_iff]
def mLen (M : MI) (a b : Int) : Int := lenF (M 82 a).toNat (mRf M a) (mHi M a) (mMn M a) (mHt M a) b

-- act
set_option maxHeartbeats 4000000 in
set_option maxRecDepth 100000 in
theorem c_X12_act (l : Launch) (D : va_G) (cy : Nat → ClassId) {N : Nat} {sh : MS} {ad : Nat → Nat} {M L : MI} {R : MR} (hS : Std N sh R) (k : Int) (p : Int) (w : Int) (c : Int) (h : Int) (f : Int) (hk : inR k) (hp : inR p) (hw : inR w) (hc : inR c) (hh : inR h) (hf : inR f) (hB : mBnd M) : Ctr l D cy yX12_act wsX12_act ({ frames := 0, cells := 0, slots := 0, locals := 0 } : Room) N sh ad M L R [.ref (ad 53), .int (iz k), .int (iz p), .int (iz w), .int (iz c), .int (iz h), .int (iz f)] (eI N sh ad L R (fun r M' => if M 53 37 < 6 ∧ 0 ≤ k ∧ k ≤ 3 ∧ 0 ≤ p ∧ p ≤ 7 ∧ 0 ≤ w ∧ w ≤ 100 ∧ 1 ≤ c ∧ c ≤ 20 ∧ 1 ≤ h ∧ h ≤ 20 ∧ 1 ≤ f ∧ f ≤ 120 then r = M 53 37 ∧ M' = (mu (mu (mu (mu (mu (mu (mu (mu M 76 (M 53 37) k) 77 (M 53 37) p) 78 (M 53 37) w) 79 (M 53 37) c) 80 (M 53 37) h) 81 (M 53 37) f) 82 (M 53 37) 0) 53 37 ((M 53 37) + 1)) else r = -1 ∧ M' = M)) := by
  refine Ctr.ofI (by decide) rfl (Nat.le_of_ble_eq_true rfl) ?_
  intro K hKl hKd hRm hnm X hret
  have X : VX K cX12_act 7 wsX12_act RX12 := X
  show V K 7 0 0 N sh ad M L R [(0, .ref (ad 53)), (1, .int (iz k)), (2, .int (iz p)), (3, .int (iz w)), (4, .int (iz c)), (5, .int (iz h)), (6, .int (iz f))] [] 0
  have b1 := hB.1
  refine v_aload_n X 0 dX12_act_0 rfl rfl ?_
  refine gt_X12_acts X iwX12 (Std.lt hS rfl) (Std.k hS rfl rfl) (List.mem_cons_of_mem _ bw_23_20) dX12_act_1 (M 53 37) rfl (fun hr1 => ?_)
  refine v_bipush X dX12_act_4 (by decide) ?_
  refine v_icmp_eq X 77 dX12_act_6 (by decide) ⟨by omega, by omega⟩ ⟨by decide, by decide⟩ (fun u2 => ?_) (fun u2 => ?_)
  · skip
    refine v_iconst X dX12_act_77 ?_
    refine hret _ _ _ _ _ _ _ _ _ _ _ (some (.int (iz (-1)))) dX12_act_78 ⟨rfl, _, rfl⟩ (by decide) (by decide) (fun hmok => ?_)
    refine ⟨rfl, rfl, rfl, rfl, rfl, (-1), rfl, ⟨by decide, by decide⟩, ?_⟩
    try dsimp only
    first | (rw [if_neg (by omega)]; exact ⟨rfl, rfl⟩) | (rw [if_pos (by omega)]; exact ⟨by omega, rfl⟩)
  · skip
    refine v_iload_n X 1 dX12_act_9 rfl rfl ?_
    refine v_if_lt X 77 dX12_act_10 (by decide) ⟨by omega, by omega⟩ (fun u3 => ?_) (fun u3 => ?_)
    · skip
      refine v_iconst X dX12_act_77 ?_
      refine hret _ _ _ _ _ _ _ _ _ _ _ (some (.int (iz (-1)))) dX12_act_78 ⟨rfl, _, rfl⟩ (by decide) (by decide) (fun hmok => ?_)
      refine ⟨rfl, rfl, rfl, rfl, rfl, (-1), rfl, ⟨by decide, by decide⟩, ?_⟩
      try dsimp only
      first | (rw [if_neg (by omega)]; exact ⟨rfl, rfl⟩) | (rw [if_pos (by omega)]; exact ⟨by omega, rfl⟩)
    · skip
      refine v_iload_n X 1 dX12_act_13 rfl rfl ?_
      refine v_iconst X dX12_act_14 ?_
      refine v_icmp_gt X 77 dX12_act_15 (by decide) ⟨by omega, by omega⟩ ⟨by decide, by decide⟩ (fun u4 => ?_) (fun u4 => ?_)
      · skip
        refine v_iconst X dX12_act_77 ?_
        refine hret _ _ _ _ _ _ _ _ _ _ _ (some (.int (iz (-1)))) dX12_act_78 ⟨rfl, _, rfl⟩ (by decide) (by decide) (fun hmok => ?_)
        refine ⟨rfl, rfl, rfl, rfl, rfl, (-1), rfl, ⟨by decide, by decide⟩, ?_⟩
        try dsimp only
        first | (rw [if_neg (by omega)]; exact ⟨rfl, rfl⟩) | (rw [if_pos (by omega)]; exact ⟨by omega, rfl⟩)
      · skip
        refine v_iload_n X 2 dX12_act_18 rfl rfl ?_
        refine v_if_lt X 77 dX12_act_19 (by decide) ⟨by omega, by omega⟩ (fun u5 => ?_) (fun u5 => ?_)
        · skip
          refine v_iconst X dX12_act_77 ?_
          refine hret _ _ _ _ _ _ _ _ _ _ _ (some (.int (iz (-1)))) dX12_act_78 ⟨rfl, _, rfl⟩ (by decide) (by decide) (fun hmok => ?_)
          refine ⟨rfl, rfl, rfl, rfl, rfl, (-1), rfl, ⟨by decide, by decide⟩, ?_⟩
          try dsimp only
          first | (rw [if_neg (by omega)]; exact ⟨rfl, rfl⟩) | (rw [if_pos (by omega)]; exact ⟨by omega, rfl⟩)
        · skip
          refine v_iload_n X 2 dX12_act_22 rfl rfl ?_
          refine v_bipush X dX12_act_23 (by decide) ?_
          refine v_icmp_gt X 77 dX12_act_25 (by decide) ⟨by omega, by omega⟩ ⟨by decide, by decide⟩ (fun u6 => ?_) (fun u6 => ?_)
          · skip
            refine v_iconst X dX12_act_77 ?_
            refine hret _ _ _ _ _ _ _ _ _ _ _ (some (.int (iz (-1)))) dX12_act_78 ⟨rfl, _, rfl⟩ (by decide) (by decide) (fun hmok => ?_)
            refine ⟨rfl, rfl, rfl, rfl, rfl, (-1), rfl, ⟨by decide, by decide⟩, ?_⟩
            try dsimp only
            first | (rw [if_neg (by omega)]; exact ⟨rfl, rfl⟩) | (rw [if_pos (by omega)]; exact ⟨by omega, rfl⟩)
          · skip
            refine v_iload_n X 3 dX12_act_28 rfl rfl ?_
            refine v_if_lt X 77 dX12_act_29 (by decide) ⟨by omega, by omega⟩ (fun u7 => ?_) (fun u7 => ?_)
            · skip
              refine v_iconst X dX12_act_77 ?_
              refine hret _ _ _ _ _ _ _ _ _ _ _ (some (.int (iz (-1)))) dX12_act_78 ⟨rfl, _, rfl⟩ (by decide) (by decide) (fun hmok => ?_)
              refine ⟨rfl, rfl, rfl, rfl, rfl, (-1), rfl, ⟨by decide, by decide⟩, ?_⟩
              try dsimp only
              first | (rw [if_neg (by omega)]; exact ⟨rfl, rfl⟩) | (rw [if_pos (by omega)]; exact ⟨by omega, rfl⟩)
            · skip
              refine v_iload_n X 3 dX12_act_32 rfl rfl ?_
              refine v_bipush X dX12_act_33 (by decide) ?_
              refine v_icmp_gt X 77 dX12_act_35 (by decide) ⟨by omega, by omega⟩ ⟨by decide, by decide⟩ (fun u8 => ?_) (fun u8 => ?_)
              · skip
                refine v_iconst X dX12_act_77 ?_
                refine hret _ _ _ _ _ _ _ _ _ _ _ (some (.int (iz (-1)))) dX12_act_78 ⟨rfl, _, rfl⟩ (by decide) (by decide) (fun hmok => ?_)
                refine ⟨rfl, rfl, rfl, rfl, rfl, (-1), rfl, ⟨by decide, by decide⟩, ?_⟩
                try dsimp only
                first | (rw [if_neg (by omega)]; exact ⟨rfl, rfl⟩) | (rw [if_pos (by omega)]; exact ⟨by omega, rfl⟩)
              · skip
                refine v_iload X 4 dX12_act_38 rfl ?_
                refine v_iconst X dX12_act_40 ?_
                refine v_icmp_lt X 77 dX12_act_41 (by decide) ⟨by omega, by omega⟩ ⟨by decide, by decide⟩ (fun u9 => ?_) (fun u9 => ?_)
                · skip
                  refine v_iconst X dX12_act_77 ?_
                  refine hret _ _ _ _ _ _ _ _ _ _ _ (some (.int (iz (-1)))) dX12_act_78 ⟨rfl, _, rfl⟩ (by decide) (by decide) (fun hmok => ?_)
                  refine ⟨rfl, rfl, rfl, rfl, rfl, (-1), rfl, ⟨by decide, by decide⟩, ?_⟩
                  try dsimp only
                  first | (rw [if_neg (by omega)]; exact ⟨rfl, rfl⟩) | (rw [if_pos (by omega)]; exact ⟨by omega, rfl⟩)
                · skip
                  refine v_iload X 4 dX12_act_44 rfl ?_
                  refine v_bipush X dX12_act_46 (by decide) ?_
                  refine v_icmp_gt X 77 dX12_act_48 (by decide) ⟨by omega, by omega⟩ ⟨by decide, by decide⟩ (fun u10 => ?_) (fun u10 => ?_)
                  · skip
                    refine v_iconst X dX12_act_77 ?_
                    refine hret _ _ _ _ _ _ _ _ _ _ _ (some (.int (iz (-1)))) dX12_act_78 ⟨rfl, _, rfl⟩ (by decide) (by decide) (fun hmok => ?_)
                    refine ⟨rfl, rfl, rfl, rfl, rfl, (-1), rfl, ⟨by decide, by decide⟩, ?_⟩
                    try dsimp only
                    first | (rw [if_neg (by omega)]; exact ⟨rfl, rfl⟩) | (rw [if_pos (by omega)]; exact ⟨by omega, rfl⟩)
                  · skip
                    refine v_iload X 5 dX12_act_51 rfl ?_
                    refine v_iconst X dX12_act_53 ?_
                    refine v_icmp_lt X 77 dX12_act_54 (by decide) ⟨by omega, by omega⟩ ⟨by decide, by decide⟩ (fun u11 => ?_) (fun u11 => ?_)
                    · skip
                      refine v_iconst X dX12_act_77 ?_
                      refine hret _ _ _ _ _ _ _ _ _ _ _ (some (.int (iz (-1)))) dX12_act_78 ⟨rfl, _, rfl⟩ (by decide) (by decide) (fun hmok => ?_)
                      refine ⟨rfl, rfl, rfl, rfl, rfl, (-1), rfl, ⟨by decide, by decide⟩, ?_⟩
                      try dsimp only
                      first | (rw [if_neg (by omega)]; exact ⟨rfl, rfl⟩) | (rw [if_pos (by omega)]; exact ⟨by omega, rfl⟩)
                    · skip
                      refine v_iload X 5 dX12_act_57 rfl ?_
                      refine v_bipush X dX12_act_59 (by decide) ?_
                      refine v_icmp_gt X 77 dX12_act_61 (by decide) ⟨by omega, by omega⟩ ⟨by decide, by decide⟩ (fun u12 => ?_) (fun u12 => ?_)
                      · skip
                        refine v_iconst X dX12_act_77 ?_
                        refine hret _ _ _ _ _ _ _ _ _ _ _ (some (.int (iz (-1)))) dX12_act_78 ⟨rfl, _, rfl⟩ (by decide) (by decide) (fun hmok => ?_)
                        refine ⟨rfl, rfl, rfl, rfl, rfl, (-1), rfl, ⟨by decide, by decide⟩, ?_⟩
                        try dsimp only
                        first | (rw [if_neg (by omega)]; exact ⟨rfl, rfl⟩) | (rw [if_pos (by omega)]; exact ⟨by omega, rfl⟩)
                      · skip
                        refine v_iload X 6 dX12_act_64 rfl ?_
                        refine v_iconst X dX12_act_66 ?_
                        refine v_icmp_lt X 77 dX12_act_67 (by decide) ⟨by omega, by omega⟩ ⟨by decide, by decide⟩ (fun u13 => ?_) (fun u13 => ?_)
                        · skip
                          refine v_iconst X dX12_act_77 ?_
                          refine hret _ _ _ _ _ _ _ _ _ _ _ (some (.int (iz (-1)))) dX12_act_78 ⟨rfl, _, rfl⟩ (by decide) (by decide) (fun hmok => ?_)
                          refine ⟨rfl, rfl, rfl, rfl, rfl, (-1), rfl, ⟨by decide, by decide⟩, ?_⟩
                          try dsimp only
                          first | (rw [if_neg (by omega)]; exact ⟨rfl, rfl⟩) | (rw [if_pos (by omega)]; exact ⟨by omega, rfl⟩)
                        · skip
                          refine v_iload X 6 dX12_act_70 rfl ?_
                          refine v_bipush X dX12_act_72 (by decide) ?_
                          refine v_icmp_le X 79 dX12_act_74 (by decide) ⟨by omega, by omega⟩ ⟨by decide, by decide⟩ (fun u14 => ?_) (fun u14 => ?_)
                          · skip
                            refine v_aload_n X 0 dX12_act_79 rfl rfl ?_
                            refine gt_X12_kind X iwX12 (Std.lt hS rfl) (Std.k hS rfl rfl) (List.mem_cons_of_mem _ bw_8_14) dX12_act_80 76 (Std.r hS 38 rfl) ?_
                            refine v_aload_n X 0 dX12_act_83 rfl rfl ?_
                            refine gt_X12_acts X iwX12 (Std.lt hS rfl) (Std.k hS rfl rfl) (List.mem_cons_of_mem _ bw_23_20) dX12_act_84 (M 53 37) rfl (fun hr15 => ?_)
                            refine v_iload_n X 1 dX12_act_87 rfl rfl ?_
                            refine v_iast X (Std.lt hS rfl) (Std.at hS rfl rfl) (by omega) (by omega) ⟨by omega, by omega⟩ dX12_act_88 ?_
                            refine v_aload_n X 0 dX12_act_89 rfl rfl ?_
                            refine gt_X12_pilot X iwX12 (Std.lt hS rfl) (Std.k hS rfl rfl) (List.mem_cons_of_mem _ bw_8_15) dX12_act_90 77 (Std.r hS 39 rfl) ?_
                            refine v_aload_n X 0 dX12_act_93 rfl rfl ?_
                            refine gt_X12_acts X iwX12 (Std.lt hS rfl) (Std.k hS rfl rfl) (List.mem_cons_of_mem _ bw_23_20) dX12_act_94 (M 53 37) rfl (fun hr16 => ?_)
                            refine v_iload_n X 2 dX12_act_97 rfl rfl ?_
                            refine v_iast X (Std.lt hS rfl) (Std.at hS rfl rfl) (by omega) (by omega) ⟨by omega, by omega⟩ dX12_act_98 ?_
                            refine v_aload_n X 0 dX12_act_99 rfl rfl ?_
                            refine gt_X12_worth X iwX12 (Std.lt hS rfl) (Std.k hS rfl rfl) (List.mem_cons_of_mem _ bw_8_16) dX12_act_100 78 (Std.r hS 40 rfl) ?_
                            refine v_aload_n X 0 dX12_act_103 rfl rfl ?_
                            refine gt_X12_acts X iwX12 (Std.lt hS rfl) (Std.k hS rfl rfl) (List.mem_cons_of_mem _ bw_23_20) dX12_act_104 (M 53 37) rfl (fun hr17 => ?_)
                            refine v_iload_n X 3 dX12_act_107 rfl rfl ?_
                            refine v_iast X (Std.lt hS rfl) (Std.at hS rfl rfl) (by omega) (by omega) ⟨by omega, by omega⟩ dX12_act_108 ?_
                            refine v_aload_n X 0 dX12_act_109 rfl rfl ?_
                            refine gt_X12_climb X iwX12 (Std.lt hS rfl) (Std.k hS rfl rfl) (List.mem_cons_of_mem _ bw_8_17) dX12_act_110 79 (Std.r hS 41 rfl) ?_
                            refine v_aload_n X 0 dX12_act_113 rfl rfl ?_
                            refine gt_X12_acts X iwX12 (Std.lt hS rfl) (Std.k hS rfl rfl) (List.mem_cons_of_mem _ bw_23_20) dX12_act_114 (M 53 37) rfl (fun hr18 => ?_)
                            refine v_iload X 4 dX12_act_117 rfl ?_
                            refine v_iast X (Std.lt hS rfl) (Std.at hS rfl rfl) (by omega) (by omega) ⟨by omega, by omega⟩ dX12_act_119 ?_
                            refine v_aload_n X 0 dX12_act_120 rfl rfl ?_
                            refine gt_X12_home X iwX12 (Std.lt hS rfl) (Std.k hS rfl rfl) (List.mem_cons_of_mem _ bw_8_18) dX12_act_121 80 (Std.r hS 42 rfl) ?_
                            refine v_aload_n X 0 dX12_act_124 rfl rfl ?_
                            refine gt_X12_acts X iwX12 (Std.lt hS rfl) (Std.k hS rfl rfl) (List.mem_cons_of_mem _ bw_23_20) dX12_act_125 (M 53 37) rfl (fun hr19 => ?_)
                            refine v_iload X 5 dX12_act_128 rfl ?_
                            refine v_iast X (Std.lt hS rfl) (Std.at hS rfl rfl) (by omega) (by omega) ⟨by omega, by omega⟩ dX12_act_130 ?_
                            refine v_aload_n X 0 dX12_act_131 rfl rfl ?_
                            refine gt_X12_fuel X iwX12 (Std.lt hS rfl) (Std.k hS rfl rfl) (List.mem_cons_of_mem _ bw_8_19) dX12_act_132 81 (Std.r hS 43 rfl) ?_
                            refine v_aload_n X 0 dX12_act_135 rfl rfl ?_
                            refine gt_X12_acts X iwX12 (Std.lt hS rfl) (Std.k hS rfl rfl) (List.mem_cons_of_mem _ bw_23_20) dX12_act_136 (M 53 37) rfl (fun hr20 => ?_)
                            refine v_iload X 6 dX12_act_139 rfl ?_
                            refine v_iast X (Std.lt hS rfl) (Std.at hS rfl rfl) (by omega) (by omega) ⟨by omega, by omega⟩ dX12_act_141 ?_
                            refine v_aload_n X 0 dX12_act_142 rfl rfl ?_
                            refine gt_X12_figures X iwX12 (Std.lt hS rfl) (Std.k hS rfl rfl) (List.mem_cons_of_mem _ bw_8_20) dX12_act_143 82 (Std.r hS 44 rfl) ?_
                            refine v_aload_n X 0 dX12_act_146 rfl rfl ?_
                            refine gt_X12_acts X iwX12 (Std.lt hS rfl) (Std.k hS rfl rfl) (List.mem_cons_of_mem _ bw_23_20) dX12_act_147 (M 53 37) rfl (fun hr21 => ?_)
                            refine v_iconst X dX12_act_150 ?_
                            refine v_iast X (Std.lt hS rfl) (Std.at hS rfl rfl) (by omega) (by omega) ⟨by decide, by decide⟩ dX12_act_151 ?_
                            refine v_aload_n X 0 dX12_act_152 rfl rfl ?_
                            refine v_dup X dX12_act_153 rfl ?_
                            refine gt_X12_acts X iwX12 (Std.lt hS rfl) (Std.k hS rfl rfl) (List.mem_cons_of_mem _ bw_23_20) dX12_act_154 (M 53 37) rfl (fun hr22 => ?_)
                            refine v_iconst X dX12_act_157 ?_
                            refine v_iadd X dX12_act_158 ?_
                            refine pt_X12_acts X iwX12 (Std.lt hS rfl) (Std.k hS rfl rfl) (List.mem_cons_of_mem _ bw_23_20) ⟨by omega, by omega⟩ dX12_act_159 ?_
                            refine v_aload_n X 0 dX12_act_162 rfl rfl ?_
                            refine gt_X12_acts X iwX12 (Std.lt hS rfl) (Std.k hS rfl rfl) (List.mem_cons_of_mem _ bw_23_20) dX12_act_163 ((M 53 37) + 1) rfl (fun hr23 => ?_)
                            refine v_iconst X dX12_act_166 ?_
                            refine v_isub X dX12_act_167 ?_
                            refine hret _ _ _ _ _ _ _ _ _ _ _ (some (.int (iz (((M 53 37) + 1) - 1)))) dX12_act_168 ⟨rfl, _, rfl⟩ (by decide) (by decide) (fun hmok => ?_)
                            refine ⟨rfl, rfl, rfl, rfl, rfl, (((M 53 37) + 1) - 1), rfl, ⟨by omega, by omega⟩, ?_⟩
                            try dsimp only
                            first | (rw [if_neg (by omega)]; exact ⟨rfl, rfl⟩) | (rw [if_pos (by omega)]; exact ⟨by omega, rfl⟩)
                          · skip
                            refine v_iconst X dX12_act_77 ?_
                            refine hret _ _ _ _ _ _ _ _ _ _ _ (some (.int (iz (-1)))) dX12_act_78 ⟨rfl, _, rfl⟩ (by decide) (by decide) (fun hmok => ?_)
                            refine ⟨rfl, rfl, rfl, rfl, rfl, (-1), rfl, ⟨by decide, by decide⟩, ?_⟩
                            try dsimp only
                            first | (rw [if_neg (by omega)]; exact ⟨rfl, rfl⟩) | (rw [if_pos (by omega)]; exact ⟨by omega, rfl⟩)

-- figure
set_option maxHeartbeats 4000000 in
set_option maxRecDepth 100000 in
theorem c_X12_figure (l : Launch) (D : va_G) (cy : Nat → ClassId) {N : Nat} {sh : MS} {ad : Nat → Nat} {M L : MI} {R : MR} (hS : Std N sh R) (a : Int) (m : Int) (s : Int) (h : Int) (ha : inR a) (hm : inR m) (hs : inR s) (hh : inR h) (e : Int) (he : 0 ≤ e ∧ e ≤ 1) (hB : mBnd M) : Ctr l D cy yX12_figure wsX12_figure ({ frames := 1, cells := 0, slots := 0, locals := 21 } : Room) N sh ad M L R [.ref (ad 53), .int (iz a), .int (iz m), .int (iz s), .int (iz h), .int (iz e)] (eI N sh ad L R (fun r M' => if 0 ≤ a ∧ a < M 53 37 ∧ M 82 a < 6 ∧ 1 ≤ m ∧ m ≤ 9 ∧ 0 ≤ s ∧ s ≤ 20 ∧ 0 ≤ h ∧ h ≤ 9 then r = M 82 a ∧ M' = (mu (mu (mu (mu (mu M 83 (6 * a + M 82 a) m) 84 (6 * a + M 82 a) s) 85 (6 * a + M 82 a) h) 86 (6 * a + M 82 a) e) 82 a (M 82 a + 1)) else r = -1 ∧ M' = M)) := by
  refine Ctr.ofI (by decide) rfl (Nat.le_of_ble_eq_true rfl) ?_
  intro K hKl hKd hRm hnm X hret
  have X : VX K cX12_figure 7 wsX12_figure RX12 := X
  show V K 7 0 0 N sh ad M L R [(0, .ref (ad 53)), (1, .int (iz a)), (2, .int (iz m)), (3, .int (iz s)), (4, .int (iz h)), (5, .int (iz e))] [] 0
  have b1 := hB.1
  have b2 := hB.2.2.2.2.2.2.2.2.2 a
  refine v_aload_n X 0 dX12_figure_0 rfl rfl ?_
  refine v_iload_n X 1 dX12_figure_1 rfl rfl ?_
  refine v_callV X [.int (iz a)] hRm (c_X12_isAct _ _ _ hS a ⟨by omega, by omega⟩) (gV bw_25_1 bw_25_2 bw_25_3 bw_1_5 bw_25_4) rfl ddX12_isAct (by decide) (Std.lt hS rfl) (Std.k hS rfl rfl) ⟨rfl, by decide⟩ (Nat.le_of_ble_eq_true rfl) dX12_figure_2 (k_pB (fun b1 => ?_) (fun b1 => ?_))
  · skip
    refine v_if_eq X 52 dX12_figure_5 (by decide) ⟨by decide, by decide⟩ (fun q => absurd q (by decide)) (fun _ => ?_)
    refine v_aload_n X 0 dX12_figure_8 rfl rfl ?_
    refine gt_X12_figures X iwX12 (Std.lt hS rfl) (Std.k hS rfl rfl) (List.mem_cons_of_mem _ bw_8_20) dX12_figure_9 82 (Std.r hS 44 rfl) ?_
    refine v_iload_n X 1 dX12_figure_12 rfl rfl ?_
    refine v_iald X (M 82 a) (Std.lt hS rfl) (Std.at hS rfl rfl) (by omega) (by omega) dX12_figure_13 rfl (fun hr2 => ?_)
    refine v_bipush X dX12_figure_14 (by decide) ?_
    refine v_icmp_eq X 52 dX12_figure_16 (by decide) ⟨by omega, by omega⟩ ⟨by decide, by decide⟩ (fun u3 => ?_) (fun u3 => ?_)
    · skip
      refine v_iconst X dX12_figure_52 ?_
      refine hret _ _ _ _ _ _ _ _ _ _ _ (some (.int (iz (-1)))) dX12_figure_53 ⟨rfl, _, rfl⟩ (by decide) (by decide) (fun hmok => ?_)
      refine ⟨rfl, rfl, rfl, rfl, rfl, (-1), rfl, ⟨by decide, by decide⟩, ?_⟩
      try dsimp only
      first | (rw [if_neg (by omega)]; exact ⟨rfl, rfl⟩) | (rw [if_pos (by omega)]; exact ⟨by omega, rfl⟩)
    · skip
      refine v_iload_n X 2 dX12_figure_19 rfl rfl ?_
      refine v_iconst X dX12_figure_20 ?_
      refine v_icmp_lt X 52 dX12_figure_21 (by decide) ⟨by omega, by omega⟩ ⟨by decide, by decide⟩ (fun u4 => ?_) (fun u4 => ?_)
      · skip
        refine v_iconst X dX12_figure_52 ?_
        refine hret _ _ _ _ _ _ _ _ _ _ _ (some (.int (iz (-1)))) dX12_figure_53 ⟨rfl, _, rfl⟩ (by decide) (by decide) (fun hmok => ?_)
        refine ⟨rfl, rfl, rfl, rfl, rfl, (-1), rfl, ⟨by decide, by decide⟩, ?_⟩
        try dsimp only
        first | (rw [if_neg (by omega)]; exact ⟨rfl, rfl⟩) | (rw [if_pos (by omega)]; exact ⟨by omega, rfl⟩)
      · skip
        refine v_iload_n X 2 dX12_figure_24 rfl rfl ?_
        refine v_bipush X dX12_figure_25 (by decide) ?_
        refine v_icmp_gt X 52 dX12_figure_27 (by decide) ⟨by omega, by omega⟩ ⟨by decide, by decide⟩ (fun u5 => ?_) (fun u5 => ?_)
        · skip
          refine v_iconst X dX12_figure_52 ?_
          refine hret _ _ _ _ _ _ _ _ _ _ _ (some (.int (iz (-1)))) dX12_figure_53 ⟨rfl, _, rfl⟩ (by decide) (by decide) (fun hmok => ?_)
          refine ⟨rfl, rfl, rfl, rfl, rfl, (-1), rfl, ⟨by decide, by decide⟩, ?_⟩
          try dsimp only
          first | (rw [if_neg (by omega)]; exact ⟨rfl, rfl⟩) | (rw [if_pos (by omega)]; exact ⟨by omega, rfl⟩)
        · skip
          refine v_iload_n X 3 dX12_figure_30 rfl rfl ?_
          refine v_if_lt X 52 dX12_figure_31 (by decide) ⟨by omega, by omega⟩ (fun u6 => ?_) (fun u6 => ?_)
          · skip
            refine v_iconst X dX12_figure_52 ?_
            refine hret _ _ _ _ _ _ _ _ _ _ _ (some (.int (iz (-1)))) dX12_figure_53 ⟨rfl, _, rfl⟩ (by decide) (by decide) (fun hmok => ?_)
            refine ⟨rfl, rfl, rfl, rfl, rfl, (-1), rfl, ⟨by decide, by decide⟩, ?_⟩
            try dsimp only
            first | (rw [if_neg (by omega)]; exact ⟨rfl, rfl⟩) | (rw [if_pos (by omega)]; exact ⟨by omega, rfl⟩)
          · skip
            refine v_iload_n X 3 dX12_figure_34 rfl rfl ?_
            refine v_bipush X dX12_figure_35 (by decide) ?_
            refine v_icmp_gt X 52 dX12_figure_37 (by decide) ⟨by omega, by omega⟩ ⟨by decide, by decide⟩ (fun u7 => ?_) (fun u7 => ?_)
            · skip
              refine v_iconst X dX12_figure_52 ?_
              refine hret _ _ _ _ _ _ _ _ _ _ _ (some (.int (iz (-1)))) dX12_figure_53 ⟨rfl, _, rfl⟩ (by decide) (by decide) (fun hmok => ?_)
              refine ⟨rfl, rfl, rfl, rfl, rfl, (-1), rfl, ⟨by decide, by decide⟩, ?_⟩
              try dsimp only
              first | (rw [if_neg (by omega)]; exact ⟨rfl, rfl⟩) | (rw [if_pos (by omega)]; exact ⟨by omega, rfl⟩)
            · skip
              refine v_iload X 4 dX12_figure_40 rfl ?_
              refine v_if_lt X 52 dX12_figure_42 (by decide) ⟨by omega, by omega⟩ (fun u8 => ?_) (fun u8 => ?_)
              · skip
                refine v_iconst X dX12_figure_52 ?_
                refine hret _ _ _ _ _ _ _ _ _ _ _ (some (.int (iz (-1)))) dX12_figure_53 ⟨rfl, _, rfl⟩ (by decide) (by decide) (fun hmok => ?_)
                refine ⟨rfl, rfl, rfl, rfl, rfl, (-1), rfl, ⟨by decide, by decide⟩, ?_⟩
                try dsimp only
                first | (rw [if_neg (by omega)]; exact ⟨rfl, rfl⟩) | (rw [if_pos (by omega)]; exact ⟨by omega, rfl⟩)
              · skip
                refine v_iload X 4 dX12_figure_45 rfl ?_
                refine v_bipush X dX12_figure_47 (by decide) ?_
                refine v_icmp_le X 54 dX12_figure_49 (by decide) ⟨by omega, by omega⟩ ⟨by decide, by decide⟩ (fun u9 => ?_) (fun u9 => ?_)
                · skip
                  refine v_bipush X dX12_figure_54 (by decide) ?_
                  refine v_iload_n X 1 dX12_figure_56 rfl rfl ?_
                  refine v_imul X dX12_figure_57 ?_
                  refine v_aload_n X 0 dX12_figure_58 rfl rfl ?_
                  refine gt_X12_figures X iwX12 (Std.lt hS rfl) (Std.k hS rfl rfl) (List.mem_cons_of_mem _ bw_8_20) dX12_figure_59 82 (Std.r hS 44 rfl) ?_
                  refine v_iload_n X 1 dX12_figure_62 rfl rfl ?_
                  refine v_iald X (M 82 a) (Std.lt hS rfl) (Std.at hS rfl rfl) (by omega) (by omega) dX12_figure_63 rfl (fun hr10 => ?_)
                  refine v_iadd X dX12_figure_64 ?_
                  refine v_istore X [(6, .int (iz ((6 * a) + (M 82 a)))), (0, .ref (ad 53)), (1, .int (iz a)), (2, .int (iz m)), (3, .int (iz s)), (4, .int (iz h)), (5, .int (iz e))] dX12_figure_65 (by decide) rfl ?_
                  refine v_aload_n X 1 dX12_figure_67 rfl rfl ?_
                  refine gt_X12_figMinutes X iwX12 (Std.lt hS rfl) (Std.k hS rfl rfl) (List.mem_cons_of_mem _ bw_8_21) dX12_figure_68 83 (Std.r hS 45 rfl) ?_
                  refine v_iload X 0 dX12_figure_71 rfl ?_
                  refine v_iload_n X 3 dX12_figure_73 rfl rfl ?_
                  refine v_iast X (Std.lt hS rfl) (Std.at hS rfl rfl) (by omega) (by omega) ⟨by omega, by omega⟩ dX12_figure_74 ?_
                  refine v_aload_n X 1 dX12_figure_75 rfl rfl ?_
                  refine gt_X12_figSpeed X iwX12 (Std.lt hS rfl) (Std.k hS rfl rfl) (List.mem_cons_of_mem _ bw_8_22) dX12_figure_76 84 (Std.r hS 46 rfl) ?_
                  refine v_iload X 0 dX12_figure_79 rfl ?_
                  refine v_iload_n X 4 dX12_figure_81 rfl rfl ?_
                  refine v_iast X (Std.lt hS rfl) (Std.at hS rfl rfl) (by omega) (by omega) ⟨by omega, by omega⟩ dX12_figure_82 ?_
                  refine v_aload_n X 1 dX12_figure_83 rfl rfl ?_
                  refine gt_X12_figHeight X iwX12 (Std.lt hS rfl) (Std.k hS rfl rfl) (List.mem_cons_of_mem _ bw_8_23) dX12_figure_84 85 (Std.r hS 47 rfl) ?_
                  refine v_iload X 0 dX12_figure_87 rfl ?_
                  refine v_iload X 5 dX12_figure_89 rfl ?_
                  refine v_iast X (Std.lt hS rfl) (Std.at hS rfl rfl) (by omega) (by omega) ⟨by omega, by omega⟩ dX12_figure_91 ?_
                  refine v_aload_n X 1 dX12_figure_92 rfl rfl ?_
                  refine gt_X12_isHigh X iwX12 (Std.lt hS rfl) (Std.k hS rfl rfl) (List.mem_cons_of_mem _ bw_9_0) dX12_figure_93 86 (Std.r hS 48 rfl) ?_
                  refine v_iload X 0 dX12_figure_96 rfl ?_
                  refine v_iload X 6 dX12_figure_98 rfl ?_
                  refine v_zast X (Std.lt hS rfl) (Std.at hS rfl rfl) (by omega) (by omega) ⟨by omega, by omega⟩ dX12_figure_100 ?_
                  refine v_aload_n X 1 dX12_figure_101 rfl rfl ?_
                  refine gt_X12_figures X iwX12 (Std.lt hS rfl) (Std.k hS rfl rfl) (List.mem_cons_of_mem _ bw_8_20) dX12_figure_102 82 (Std.r hS 44 rfl) ?_
                  refine v_iload_n X 2 dX12_figure_105 rfl rfl ?_
                  refine v_dup2 X dX12_figure_106 rfl rfl ?_
                  refine v_iald X (M 82 a) (Std.lt hS rfl) (Std.at hS rfl rfl) (by omega) (by omega) dX12_figure_107 rfl (fun hr11 => ?_)
                  refine v_iconst X dX12_figure_108 ?_
                  refine v_iadd X dX12_figure_109 ?_
                  refine v_iast X (Std.lt hS rfl) (Std.at hS rfl rfl) (by omega) (by omega) ⟨by omega, by omega⟩ dX12_figure_110 ?_
                  refine v_aload_n X 1 dX12_figure_111 rfl rfl ?_
                  refine gt_X12_figures X iwX12 (Std.lt hS rfl) (Std.k hS rfl rfl) (List.mem_cons_of_mem _ bw_8_20) dX12_figure_112 82 (Std.r hS 44 rfl) ?_
                  refine v_iload_n X 2 dX12_figure_115 rfl rfl ?_
                  refine v_iald X ((M 82 a) + 1) (Std.lt hS rfl) (Std.at hS rfl rfl) (by omega) (by omega) dX12_figure_116 (by simp [mu, mrow]) (fun hr12 => ?_)
                  refine v_iconst X dX12_figure_117 ?_
                  refine v_isub X dX12_figure_118 ?_
                  refine hret _ _ _ _ _ _ _ _ _ _ _ (some (.int (iz (((M 82 a) + 1) - 1)))) dX12_figure_119 ⟨rfl, _, rfl⟩ (by decide) (by decide) (fun hmok => ?_)
                  refine ⟨rfl, rfl, rfl, rfl, rfl, (((M 82 a) + 1) - 1), rfl, ⟨by omega, by omega⟩, ?_⟩
                  try dsimp only
                  first | (rw [if_neg (by omega)]; exact ⟨rfl, rfl⟩) | (rw [if_pos (by omega)]; exact ⟨by omega, rfl⟩)
                · skip
                  refine v_iconst X dX12_figure_52 ?_
                  refine hret _ _ _ _ _ _ _ _ _ _ _ (some (.int (iz (-1)))) dX12_figure_53 ⟨rfl, _, rfl⟩ (by decide) (by decide) (fun hmok => ?_)
                  refine ⟨rfl, rfl, rfl, rfl, rfl, (-1), rfl, ⟨by decide, by decide⟩, ?_⟩
                  try dsimp only
                  first | (rw [if_neg (by omega)]; exact ⟨rfl, rfl⟩) | (rw [if_pos (by omega)]; exact ⟨by omega, rfl⟩)
  · skip
    refine v_if_eq X 52 dX12_figure_5 (by decide) ⟨by decide, by decide⟩ (fun _ => ?_) (fun q => absurd (by decide) q)
    refine v_iconst X dX12_figure_52 ?_
    refine hret _ _ _ _ _ _ _ _ _ _ _ (some (.int (iz (-1)))) dX12_figure_53 ⟨rfl, _, rfl⟩ (by decide) (by decide) (fun hmok => ?_)
    refine ⟨rfl, rfl, rfl, rfl, rfl, (-1), rfl, ⟨by decide, by decide⟩, ?_⟩
    try dsimp only
    first | (rw [if_neg (by omega)]; exact ⟨rfl, rfl⟩) | (rw [if_pos (by omega)]; exact ⟨by omega, rfl⟩)

-- lengthOf
set_option maxHeartbeats 4000000 in
set_option maxRecDepth 100000 in
theorem c_X12_lengthOf (l : Launch) (D : va_G) (cy : Nat → ClassId) {N : Nat} {sh : MS} {ad : Nat → Nat} {M L : MI} {R : MR} (hS : Std N sh R) (a b : Int) (ha : 0 ≤ a ∧ a < 6) (hb : inR b) (hB : mBnd M) : Ctr l D cy yX12_lengthOf wsX12_lengthOf ({ frames := 1, cells := 0, slots := 0, locals := 22 } : Room) N sh ad M L R [.ref (ad 53), .int (iz a), .int (iz b)] (pI N sh ad M L R (fun r => r = mLen M a b)) := by
  refine Ctr.ofI (by decide) rfl (Nat.le_of_ble_eq_true rfl) ?_
  intro K hKl hKd hRm hnm X hret
  have X : VX K cX12_lengthOf 8 wsX12_lengthOf RX12 := X
  show V K 8 0 0 N sh ad M L R [(0, .ref (ad 53)), (1, .int (iz a)), (2, .int (iz b))] [] 0
  have b1 := hB.2.2.2.2.2.2.2.2.2 a
  refine v_iconst X dX12_lengthOf_0 ?_
  refine v_istore_n X [(3, .int (iz 0)), (0, .ref (ad 53)), (1, .int (iz a)), (2, .int (iz b))] dX12_lengthOf_1 rfl (by decide) rfl ?_
  refine v_iconst X dX12_lengthOf_2 ?_
  refine v_istore X [(4, .int (iz 0)), (3, .int (iz 0)), (0, .ref (ad 53)), (1, .int (iz a)), (2, .int (iz b))] dX12_lengthOf_3 (by decide) rfl ?_
  refine v_iconst X dX12_lengthOf_5 ?_
  refine v_istore X [(5, .int (iz (-1))), (4, .int (iz 0)), (3, .int (iz 0)), (0, .ref (ad 53)), (1, .int (iz a)), (2, .int (iz b))] dX12_lengthOf_6 (by decide) rfl ?_
  refine v_iconst X dX12_lengthOf_8 ?_
  refine v_istore X [(6, .int (iz (-1))), (5, .int (iz (-1))), (4, .int (iz 0)), (3, .int (iz 0)), (0, .ref (ad 53)), (1, .int (iz a)), (2, .int (iz b))] dX12_lengthOf_9 (by decide) rfl ?_
  refine v_bipush X dX12_lengthOf_11 (by decide) ?_
  refine v_iload_n X 5 dX12_lengthOf_13 rfl rfl ?_
  refine v_imul X dX12_lengthOf_14 ?_
  refine v_istore X [(7, .int (iz (6 * a))), (6, .int (iz (-1))), (5, .int (iz (-1))), (4, .int (iz 0)), (3, .int (iz 0)), (0, .ref (ad 53)), (1, .int (iz a)), (2, .int (iz b))] dX12_lengthOf_15 (by decide) rfl ?_
  have hl1 : ∀ (n3 : Nat) (al : Int) (fl : Int) (tp : Int) (ft : Int) (i : Int) (j : Nat), (i = 6 * a + (j : Int)) → ((j : Int) ≤ M 82 a) → (0 ≤ al ∧ al ≤ 9 * (j : Int)) → (0 ≤ fl ∧ fl ≤ 9 * (j : Int)) → (-1 ≤ tp ∧ tp ≤ 9) → (-1 ≤ ft ∧ ft ≤ 9) → (al = fAll (mRf M a) (mMn M a) j) → (fl = fAll (fun k => mRf M a k || mHi M a k) (mMn M a) j) → (tp = fTop (mRf M a) (mHt M a) j) → (ft = fTop (fun k => mRf M a k || mHi M a k) (mHt M a) j) → (M 82 a - (j : Int)).toNat < n3 → V K 8 0 0 N sh ad M L R [(0, .ref (ad 53)), (1, .int (iz a)), (2, .int (iz b)), (3, .int (iz al)), (4, .int (iz fl)), (5, .int (iz tp)), (6, .int (iz ft)), (7, .int (iz i))] [] 17 := by
    intro n3
    induction n3 with
    | zero => intro al fl tp ft i j ei hj g3 g4 g5 g6 h3 h4 h5 h6 hn4; exact absurd hn4 (Nat.not_lt_zero _)
    | succ n3 ih2 =>
      intro al fl tp ft i j ei hj g3 g4 g5 g6 h3 h4 h5 h6 hn4
      have c1 := hB.2.2.2.2.2.2.2.2.1 i
      have c2 := hB.2.2.2.2.2.2.2.1 i
      refine v_iload X 7 dX12_lengthOf_17 rfl ?_
      refine v_bipush X dX12_lengthOf_19 (by decide) ?_
      refine v_iload_n X 1 dX12_lengthOf_21 rfl rfl ?_
      refine v_imul X dX12_lengthOf_22 ?_
      refine v_aload_n X 0 dX12_lengthOf_23 rfl rfl ?_
      refine gt_X12_figures X iwX12 (Std.lt hS rfl) (Std.k hS rfl rfl) (List.mem_cons_of_mem _ bw_8_20) dX12_lengthOf_24 82 (Std.r hS 44 rfl) ?_
      refine v_iload_n X 1 dX12_lengthOf_27 rfl rfl ?_
      refine v_iald X (M 82 a) (Std.lt hS rfl) (Std.at hS rfl rfl) (by omega) (by omega) dX12_lengthOf_28 rfl (fun hr5 => ?_)
      refine v_iadd X dX12_lengthOf_29 ?_
      refine v_icmp_ge X 128 dX12_lengthOf_30 (by decide) ⟨by omega, by omega⟩ ⟨by omega, by omega⟩ (fun u6 => ?_) (fun u6 => ?_)
      · skip
        refine v_iload_n X 2 dX12_lengthOf_128 rfl rfl ?_
        refine v_iload X 5 dX12_lengthOf_129 rfl ?_
        refine v_icmp_le X 138 dX12_lengthOf_131 (by decide) ⟨by omega, by omega⟩ ⟨by omega, by omega⟩ (fun u7 => ?_) (fun u7 => ?_)
        · skip
          refine v_iload_n X 2 dX12_lengthOf_138 rfl rfl ?_
          refine v_iload X 6 dX12_lengthOf_139 rfl ?_
          refine v_icmp_le X 149 dX12_lengthOf_141 (by decide) ⟨by omega, by omega⟩ ⟨by omega, by omega⟩ (fun u8 => ?_) (fun u8 => ?_)
          · skip
            refine v_iconst X dX12_lengthOf_149 ?_
            refine hret _ _ _ _ _ _ _ _ _ _ _ (some (.int (iz 0))) dX12_lengthOf_150 ⟨rfl, _, rfl⟩ (by decide) (by decide) (fun hmok => ?_)
            refine ⟨rfl, rfl, rfl, rfl, rfl, rfl, 0, rfl, ⟨by decide, by decide⟩, ?_⟩
            try dsimp only
            have hjn : (M 82 a).toNat = j := by omega
            unfold mLen lenF
            rw [hjn, ← h3, ← h4, ← h5, ← h6]
            split <;> (try split) <;> omega
          · skip
            refine v_iload X 4 dX12_lengthOf_144 rfl ?_
            refine v_goto X 150 dX12_lengthOf_146 (by decide) ?_
            refine hret _ _ _ _ _ _ _ _ _ _ _ (some (.int (iz fl))) dX12_lengthOf_150 ⟨rfl, _, rfl⟩ (by decide) (by decide) (fun hmok => ?_)
            refine ⟨rfl, rfl, rfl, rfl, rfl, rfl, fl, rfl, ⟨by omega, by omega⟩, ?_⟩
            try dsimp only
            have hjn : (M 82 a).toNat = j := by omega
            unfold mLen lenF
            rw [hjn, ← h3, ← h4, ← h5, ← h6]
            split <;> (try split) <;> omega
        · skip
          refine v_iload_n X 3 dX12_lengthOf_134 rfl rfl ?_
          refine v_goto X 150 dX12_lengthOf_135 (by decide) ?_
          refine hret _ _ _ _ _ _ _ _ _ _ _ (some (.int (iz al))) dX12_lengthOf_150 ⟨rfl, _, rfl⟩ (by decide) (by decide) (fun hmok => ?_)
          refine ⟨rfl, rfl, rfl, rfl, rfl, rfl, al, rfl, ⟨by omega, by omega⟩, ?_⟩
          try dsimp only
          have hjn : (M 82 a).toNat = j := by omega
          unfold mLen lenF
          rw [hjn, ← h3, ← h4, ← h5, ← h6]
          split <;> (try split) <;> omega
      · skip
        refine v_aload_n X 0 dX12_lengthOf_33 rfl rfl ?_
        refine v_iload X 7 dX12_lengthOf_34 rfl ?_
        refine v_callV X [.int (iz i)] hRm (c_X12_isRefused _ _ _ hS i (by omega) hB) (gV bw_29_18 bw_29_19 bw_29_20 bw_1_5 bw_29_21) rfl ddX12_isRefused (by decide) (Std.lt hS rfl) (Std.k hS rfl rfl) ⟨rfl, by decide⟩ (Nat.le_of_ble_eq_true rfl) dX12_lengthOf_36 (k_pB (fun b9 => ?_) (fun b9 => ?_))
        · skip
          refine v_if_eq X 45 dX12_lengthOf_39 (by decide) ⟨by decide, by decide⟩ (fun q => absurd q (by decide)) (fun _ => ?_)
          refine v_goto X 122 dX12_lengthOf_42 (by decide) ?_
          refine v_iinc X 7 [(7, .int (iz (i + 1))), (0, .ref (ad 53)), (1, .int (iz a)), (2, .int (iz b)), (3, .int (iz al)), (4, .int (iz fl)), (5, .int (iz tp)), (6, .int (iz ft))] dX12_lengthOf_122 rfl (by decide) rfl ?_
          refine v_goto X 17 dX12_lengthOf_125 (by decide) ?_
          refine v_lv [1, 2, 3, 4, 5, 6, 7, 0] rfl ?_
          exact ih2 al fl tp ft (i + 1) (j + 1) (by omega) (by omega) (by omega) (by omega) (by omega) (by omega) (by rw [fAll_s, ← h3]; subst ei; (first | rw [if_pos (by rw [mRf_t]; omega)] | rw [if_neg (by rw [mRf_t]; omega)]) <;> (try simp only [mMn]) <;> (try omega)) (by rw [fAll_s, ← h4]; subst ei; (first | rw [if_pos (by rw [mRH_t]; omega)] | rw [if_neg (by rw [mRH_t]; omega)]) <;> (try simp only [mMn]) <;> (try omega)) (by rw [fTop_s, ← h5]; subst ei; (first | rw [if_pos (by rw [mRf_t]; omega)] | rw [if_neg (by rw [mRf_t]; omega)]) <;> (try simp only [mHt]) <;> (try omega)) (by rw [fTop_s, ← h6]; subst ei; (first | rw [if_pos (by rw [mRH_t]; omega)] | rw [if_neg (by rw [mRH_t]; omega)]) <;> (try simp only [mHt]) <;> (try omega)) (by omega)
        · skip
          refine v_if_eq X 45 dX12_lengthOf_39 (by decide) ⟨by decide, by decide⟩ (fun _ => ?_) (fun q => absurd (by decide) q)
          refine v_iload_n X 3 dX12_lengthOf_45 rfl rfl ?_
          refine v_aload_n X 0 dX12_lengthOf_46 rfl rfl ?_
          refine gt_X12_figMinutes X iwX12 (Std.lt hS rfl) (Std.k hS rfl rfl) (List.mem_cons_of_mem _ bw_8_21) dX12_lengthOf_47 83 (Std.r hS 45 rfl) ?_
          refine v_iload X 7 dX12_lengthOf_50 rfl ?_
          refine v_iald X (M 83 i) (Std.lt hS rfl) (Std.at hS rfl rfl) (by omega) (by omega) dX12_lengthOf_52 rfl (fun hr10 => ?_)
          refine v_iadd X dX12_lengthOf_53 ?_
          refine v_istore_n X [(3, .int (iz (al + (M 83 i)))), (0, .ref (ad 53)), (1, .int (iz a)), (2, .int (iz b)), (4, .int (iz fl)), (5, .int (iz tp)), (6, .int (iz ft)), (7, .int (iz i))] dX12_lengthOf_54 rfl (by decide) rfl ?_
          refine v_aload_n X 1 dX12_lengthOf_55 rfl rfl ?_
          refine gt_X12_figHeight X iwX12 (Std.lt hS rfl) (Std.k hS rfl rfl) (List.mem_cons_of_mem _ bw_8_23) dX12_lengthOf_56 85 (Std.r hS 47 rfl) ?_
          refine v_iload X 7 dX12_lengthOf_59 rfl ?_
          refine v_iald X (M 85 i) (Std.lt hS rfl) (Std.at hS rfl rfl) (by omega) (by omega) dX12_lengthOf_61 rfl (fun hr11 => ?_)
          refine v_iload X 5 dX12_lengthOf_62 rfl ?_
          refine v_icmp_le X 76 dX12_lengthOf_64 (by decide) ⟨by omega, by omega⟩ ⟨by omega, by omega⟩ (fun u12 => ?_) (fun u12 => ?_)
          · skip
            refine v_aload_n X 1 dX12_lengthOf_76 rfl rfl ?_
            refine gt_X12_isHigh X iwX12 (Std.lt hS rfl) (Std.k hS rfl rfl) (List.mem_cons_of_mem _ bw_9_0) dX12_lengthOf_77 86 (Std.r hS 48 rfl) ?_
            refine v_iload X 7 dX12_lengthOf_80 rfl ?_
            refine v_zald X (M 86 i) (Std.lt hS rfl) (Std.at hS rfl rfl) (by omega) (by omega) dX12_lengthOf_82 rfl (fun hr13 => ?_)
            refine v_if_eq X 89 dX12_lengthOf_83 (by decide) ⟨by omega, by omega⟩ (fun u14 => ?_) (fun u14 => ?_)
            · skip
              refine v_iload X 4 dX12_lengthOf_89 rfl ?_
              refine v_aload_n X 1 dX12_lengthOf_91 rfl rfl ?_
              refine gt_X12_figMinutes X iwX12 (Std.lt hS rfl) (Std.k hS rfl rfl) (List.mem_cons_of_mem _ bw_8_21) dX12_lengthOf_92 83 (Std.r hS 45 rfl) ?_
              refine v_iload X 7 dX12_lengthOf_95 rfl ?_
              refine v_iald X (M 83 i) (Std.lt hS rfl) (Std.at hS rfl rfl) (by omega) (by omega) dX12_lengthOf_97 rfl (fun hr15 => ?_)
              refine v_iadd X dX12_lengthOf_98 ?_
              refine v_istore X [(4, .int (iz (fl + (M 83 i)))), (3, .int (iz (al + (M 83 i)))), (0, .ref (ad 53)), (1, .int (iz a)), (2, .int (iz b)), (5, .int (iz tp)), (6, .int (iz ft)), (7, .int (iz i))] dX12_lengthOf_99 (by decide) rfl ?_
              refine v_aload_n X 2 dX12_lengthOf_101 rfl rfl ?_
              refine gt_X12_figHeight X iwX12 (Std.lt hS rfl) (Std.k hS rfl rfl) (List.mem_cons_of_mem _ bw_8_23) dX12_lengthOf_102 85 (Std.r hS 47 rfl) ?_
              refine v_iload X 7 dX12_lengthOf_105 rfl ?_
              refine v_iald X (M 85 i) (Std.lt hS rfl) (Std.at hS rfl rfl) (by omega) (by omega) dX12_lengthOf_107 rfl (fun hr16 => ?_)
              refine v_iload X 6 dX12_lengthOf_108 rfl ?_
              refine v_icmp_le X 122 dX12_lengthOf_110 (by decide) ⟨by omega, by omega⟩ ⟨by omega, by omega⟩ (fun u17 => ?_) (fun u17 => ?_)
              · skip
                refine v_iinc X 7 [(7, .int (iz (i + 1))), (4, .int (iz (fl + (M 83 i)))), (3, .int (iz (al + (M 83 i)))), (0, .ref (ad 53)), (1, .int (iz a)), (2, .int (iz b)), (5, .int (iz tp)), (6, .int (iz ft))] dX12_lengthOf_122 rfl (by decide) rfl ?_
                refine v_goto X 17 dX12_lengthOf_125 (by decide) ?_
                refine v_lv [3, 4, 5, 2, 1, 6, 7, 0] rfl ?_
                exact ih2 (al + (M 83 i)) (fl + (M 83 i)) tp ft (i + 1) (j + 1) (by omega) (by omega) (by omega) (by omega) (by omega) (by omega) (by rw [fAll_s, ← h3]; subst ei; (first | rw [if_pos (by rw [mRf_t]; omega)] | rw [if_neg (by rw [mRf_t]; omega)]) <;> (try simp only [mMn]) <;> (try omega)) (by rw [fAll_s, ← h4]; subst ei; (first | rw [if_pos (by rw [mRH_t]; omega)] | rw [if_neg (by rw [mRH_t]; omega)]) <;> (try simp only [mMn]) <;> (try omega)) (by rw [fTop_s, ← h5]; subst ei; (first | rw [if_pos (by rw [mRf_t]; omega)] | rw [if_neg (by rw [mRf_t]; omega)]) <;> (try simp only [mHt]) <;> (try omega)) (by rw [fTop_s, ← h6]; subst ei; (first | rw [if_pos (by rw [mRH_t]; omega)] | rw [if_neg (by rw [mRH_t]; omega)]) <;> (try simp only [mHt]) <;> (try omega)) (by omega)
              · skip
                refine v_aload_n X 2 dX12_lengthOf_113 rfl rfl ?_
                refine gt_X12_figHeight X iwX12 (Std.lt hS rfl) (Std.k hS rfl rfl) (List.mem_cons_of_mem _ bw_8_23) dX12_lengthOf_114 85 (Std.r hS 47 rfl) ?_
                refine v_iload X 7 dX12_lengthOf_117 rfl ?_
                refine v_iald X (M 85 i) (Std.lt hS rfl) (Std.at hS rfl rfl) (by omega) (by omega) dX12_lengthOf_119 rfl (fun hr18 => ?_)
                refine v_istore X [(6, .int (iz (M 85 i))), (4, .int (iz (fl + (M 83 i)))), (3, .int (iz (al + (M 83 i)))), (0, .ref (ad 53)), (1, .int (iz a)), (2, .int (iz b)), (5, .int (iz tp)), (7, .int (iz i))] dX12_lengthOf_120 (by decide) rfl ?_
                refine v_iinc X 7 [(7, .int (iz (i + 1))), (6, .int (iz (M 85 i))), (4, .int (iz (fl + (M 83 i)))), (3, .int (iz (al + (M 83 i)))), (0, .ref (ad 53)), (1, .int (iz a)), (2, .int (iz b)), (5, .int (iz tp))] dX12_lengthOf_122 rfl (by decide) rfl ?_
                refine v_goto X 17 dX12_lengthOf_125 (by decide) ?_
                refine v_lv [4, 5, 6, 3, 2, 7, 1, 0] rfl ?_
                exact ih2 (al + (M 83 i)) (fl + (M 83 i)) tp (M 85 i) (i + 1) (j + 1) (by omega) (by omega) (by omega) (by omega) (by omega) (by omega) (by rw [fAll_s, ← h3]; subst ei; (first | rw [if_pos (by rw [mRf_t]; omega)] | rw [if_neg (by rw [mRf_t]; omega)]) <;> (try simp only [mMn]) <;> (try omega)) (by rw [fAll_s, ← h4]; subst ei; (first | rw [if_pos (by rw [mRH_t]; omega)] | rw [if_neg (by rw [mRH_t]; omega)]) <;> (try simp only [mMn]) <;> (try omega)) (by rw [fTop_s, ← h5]; subst ei; (first | rw [if_pos (by rw [mRf_t]; omega)] | rw [if_neg (by rw [mRf_t]; omega)]) <;> (try simp only [mHt]) <;> (try omega)) (by rw [fTop_s, ← h6]; subst ei; (first | rw [if_pos (by rw [mRH_t]; omega)] | rw [if_neg (by rw [mRH_t]; omega)]) <;> (try simp only [mHt]) <;> (try omega)) (by omega)
            · skip
              refine v_goto X 122 dX12_lengthOf_86 (by decide) ?_
              refine v_iinc X 7 [(7, .int (iz (i + 1))), (3, .int (iz (al + (M 83 i)))), (0, .ref (ad 53)), (1, .int (iz a)), (2, .int (iz b)), (4, .int (iz fl)), (5, .int (iz tp)), (6, .int (iz ft))] dX12_lengthOf_122 rfl (by decide) rfl ?_
              refine v_goto X 17 dX12_lengthOf_125 (by decide) ?_
              refine v_lv [2, 3, 4, 1, 5, 6, 7, 0] rfl ?_
              exact ih2 (al + (M 83 i)) fl tp ft (i + 1) (j + 1) (by omega) (by omega) (by omega) (by omega) (by omega) (by omega) (by rw [fAll_s, ← h3]; subst ei; (first | rw [if_pos (by rw [mRf_t]; omega)] | rw [if_neg (by rw [mRf_t]; omega)]) <;> (try simp only [mMn]) <;> (try omega)) (by rw [fAll_s, ← h4]; subst ei; (first | rw [if_pos (by rw [mRH_t]; omega)] | rw [if_neg (by rw [mRH_t]; omega)]) <;> (try simp only [mMn]) <;> (try omega)) (by rw [fTop_s, ← h5]; subst ei; (first | rw [if_pos (by rw [mRf_t]; omega)] | rw [if_neg (by rw [mRf_t]; omega)]) <;> (try simp only [mHt]) <;> (try omega)) (by rw [fTop_s, ← h6]; subst ei; (first | rw [if_pos (by rw [mRH_t]; omega)] | rw [if_neg (by rw [mRH_t]; omega)]) <;> (try simp only [mHt]) <;> (try omega)) (by omega)
          · skip
            refine v_aload_n X 1 dX12_lengthOf_67 rfl rfl ?_
            refine gt_X12_figHeight X iwX12 (Std.lt hS rfl) (Std.k hS rfl rfl) (List.mem_cons_of_mem _ bw_8_23) dX12_lengthOf_68 85 (Std.r hS 47 rfl) ?_
            refine v_iload X 7 dX12_lengthOf_71 rfl ?_
            refine v_iald X (M 85 i) (Std.lt hS rfl) (Std.at hS rfl rfl) (by omega) (by omega) dX12_lengthOf_73 rfl (fun hr19 => ?_)
            refine v_istore X [(5, .int (iz (M 85 i))), (3, .int (iz (al + (M 83 i)))), (0, .ref (ad 53)), (1, .int (iz a)), (2, .int (iz b)), (4, .int (iz fl)), (6, .int (iz ft)), (7, .int (iz i))] dX12_lengthOf_74 (by decide) rfl ?_
            refine v_aload_n X 2 dX12_lengthOf_76 rfl rfl ?_
            refine gt_X12_isHigh X iwX12 (Std.lt hS rfl) (Std.k hS rfl rfl) (List.mem_cons_of_mem _ bw_9_0) dX12_lengthOf_77 86 (Std.r hS 48 rfl) ?_
            refine v_iload X 7 dX12_lengthOf_80 rfl ?_
            refine v_zald X (M 86 i) (Std.lt hS rfl) (Std.at hS rfl rfl) (by omega) (by omega) dX12_lengthOf_82 rfl (fun hr20 => ?_)
            refine v_if_eq X 89 dX12_lengthOf_83 (by decide) ⟨by omega, by omega⟩ (fun u21 => ?_) (fun u21 => ?_)
            · skip
              refine v_iload X 5 dX12_lengthOf_89 rfl ?_
              refine v_aload_n X 2 dX12_lengthOf_91 rfl rfl ?_
              refine gt_X12_figMinutes X iwX12 (Std.lt hS rfl) (Std.k hS rfl rfl) (List.mem_cons_of_mem _ bw_8_21) dX12_lengthOf_92 83 (Std.r hS 45 rfl) ?_
              refine v_iload X 7 dX12_lengthOf_95 rfl ?_
              refine v_iald X (M 83 i) (Std.lt hS rfl) (Std.at hS rfl rfl) (by omega) (by omega) dX12_lengthOf_97 rfl (fun hr22 => ?_)
              refine v_iadd X dX12_lengthOf_98 ?_
              refine v_istore X [(4, .int (iz (fl + (M 83 i)))), (5, .int (iz (M 85 i))), (3, .int (iz (al + (M 83 i)))), (0, .ref (ad 53)), (1, .int (iz a)), (2, .int (iz b)), (6, .int (iz ft)), (7, .int (iz i))] dX12_lengthOf_99 (by decide) rfl ?_
              refine v_aload_n X 3 dX12_lengthOf_101 rfl rfl ?_
              refine gt_X12_figHeight X iwX12 (Std.lt hS rfl) (Std.k hS rfl rfl) (List.mem_cons_of_mem _ bw_8_23) dX12_lengthOf_102 85 (Std.r hS 47 rfl) ?_
              refine v_iload X 7 dX12_lengthOf_105 rfl ?_
              refine v_iald X (M 85 i) (Std.lt hS rfl) (Std.at hS rfl rfl) (by omega) (by omega) dX12_lengthOf_107 rfl (fun hr23 => ?_)
              refine v_iload X 6 dX12_lengthOf_108 rfl ?_
              refine v_icmp_le X 122 dX12_lengthOf_110 (by decide) ⟨by omega, by omega⟩ ⟨by omega, by omega⟩ (fun u24 => ?_) (fun u24 => ?_)
              · skip
                refine v_iinc X 7 [(7, .int (iz (i + 1))), (4, .int (iz (fl + (M 83 i)))), (5, .int (iz (M 85 i))), (3, .int (iz (al + (M 83 i)))), (0, .ref (ad 53)), (1, .int (iz a)), (2, .int (iz b)), (6, .int (iz ft))] dX12_lengthOf_122 rfl (by decide) rfl ?_
                refine v_goto X 17 dX12_lengthOf_125 (by decide) ?_
                refine v_lv [4, 5, 6, 3, 1, 2, 7, 0] rfl ?_
                exact ih2 (al + (M 83 i)) (fl + (M 83 i)) (M 85 i) ft (i + 1) (j + 1) (by omega) (by omega) (by omega) (by omega) (by omega) (by omega) (by rw [fAll_s, ← h3]; subst ei; (first | rw [if_pos (by rw [mRf_t]; omega)] | rw [if_neg (by rw [mRf_t]; omega)]) <;> (try simp only [mMn]) <;> (try omega)) (by rw [fAll_s, ← h4]; subst ei; (first | rw [if_pos (by rw [mRH_t]; omega)] | rw [if_neg (by rw [mRH_t]; omega)]) <;> (try simp only [mMn]) <;> (try omega)) (by rw [fTop_s, ← h5]; subst ei; (first | rw [if_pos (by rw [mRf_t]; omega)] | rw [if_neg (by rw [mRf_t]; omega)]) <;> (try simp only [mHt]) <;> (try omega)) (by rw [fTop_s, ← h6]; subst ei; (first | rw [if_pos (by rw [mRH_t]; omega)] | rw [if_neg (by rw [mRH_t]; omega)]) <;> (try simp only [mHt]) <;> (try omega)) (by omega)
              · skip
                refine v_aload_n X 3 dX12_lengthOf_113 rfl rfl ?_
                refine gt_X12_figHeight X iwX12 (Std.lt hS rfl) (Std.k hS rfl rfl) (List.mem_cons_of_mem _ bw_8_23) dX12_lengthOf_114 85 (Std.r hS 47 rfl) ?_
                refine v_iload X 7 dX12_lengthOf_117 rfl ?_
                refine v_iald X (M 85 i) (Std.lt hS rfl) (Std.at hS rfl rfl) (by omega) (by omega) dX12_lengthOf_119 rfl (fun hr25 => ?_)
                refine v_istore X [(6, .int (iz (M 85 i))), (4, .int (iz (fl + (M 83 i)))), (5, .int (iz (M 85 i))), (3, .int (iz (al + (M 83 i)))), (0, .ref (ad 53)), (1, .int (iz a)), (2, .int (iz b)), (7, .int (iz i))] dX12_lengthOf_120 (by decide) rfl ?_
                refine v_iinc X 7 [(7, .int (iz (i + 1))), (6, .int (iz (M 85 i))), (4, .int (iz (fl + (M 83 i)))), (5, .int (iz (M 85 i))), (3, .int (iz (al + (M 83 i)))), (0, .ref (ad 53)), (1, .int (iz a)), (2, .int (iz b))] dX12_lengthOf_122 rfl (by decide) rfl ?_
                refine v_goto X 17 dX12_lengthOf_125 (by decide) ?_
                refine v_lv [5, 6, 7, 4, 2, 3, 1, 0] rfl ?_
                exact ih2 (al + (M 83 i)) (fl + (M 83 i)) (M 85 i) (M 85 i) (i + 1) (j + 1) (by omega) (by omega) (by omega) (by omega) (by omega) (by omega) (by rw [fAll_s, ← h3]; subst ei; (first | rw [if_pos (by rw [mRf_t]; omega)] | rw [if_neg (by rw [mRf_t]; omega)]) <;> (try simp only [mMn]) <;> (try omega)) (by rw [fAll_s, ← h4]; subst ei; (first | rw [if_pos (by rw [mRH_t]; omega)] | rw [if_neg (by rw [mRH_t]; omega)]) <;> (try simp only [mMn]) <;> (try omega)) (by rw [fTop_s, ← h5]; subst ei; (first | rw [if_pos (by rw [mRf_t]; omega)] | rw [if_neg (by rw [mRf_t]; omega)]) <;> (try simp only [mHt]) <;> (try omega)) (by rw [fTop_s, ← h6]; subst ei; (first | rw [if_pos (by rw [mRH_t]; omega)] | rw [if_neg (by rw [mRH_t]; omega)]) <;> (try simp only [mHt]) <;> (try omega)) (by omega)
            · skip
              refine v_goto X 122 dX12_lengthOf_86 (by decide) ?_
              refine v_iinc X 7 [(7, .int (iz (i + 1))), (5, .int (iz (M 85 i))), (3, .int (iz (al + (M 83 i)))), (0, .ref (ad 53)), (1, .int (iz a)), (2, .int (iz b)), (4, .int (iz fl)), (6, .int (iz ft))] dX12_lengthOf_122 rfl (by decide) rfl ?_
              refine v_goto X 17 dX12_lengthOf_125 (by decide) ?_
              refine v_lv [3, 4, 5, 2, 6, 1, 7, 0] rfl ?_
              exact ih2 (al + (M 83 i)) fl (M 85 i) ft (i + 1) (j + 1) (by omega) (by omega) (by omega) (by omega) (by omega) (by omega) (by rw [fAll_s, ← h3]; subst ei; (first | rw [if_pos (by rw [mRf_t]; omega)] | rw [if_neg (by rw [mRf_t]; omega)]) <;> (try simp only [mMn]) <;> (try omega)) (by rw [fAll_s, ← h4]; subst ei; (first | rw [if_pos (by rw [mRH_t]; omega)] | rw [if_neg (by rw [mRH_t]; omega)]) <;> (try simp only [mMn]) <;> (try omega)) (by rw [fTop_s, ← h5]; subst ei; (first | rw [if_pos (by rw [mRf_t]; omega)] | rw [if_neg (by rw [mRf_t]; omega)]) <;> (try simp only [mHt]) <;> (try omega)) (by rw [fTop_s, ← h6]; subst ei; (first | rw [if_pos (by rw [mRH_t]; omega)] | rw [if_neg (by rw [mRH_t]; omega)]) <;> (try simp only [mHt]) <;> (try omega)) (by omega)
  refine v_lv [5, 6, 7, 4, 3, 2, 1, 0] rfl ?_
  exact hl1 _ 0 0 (-1) (-1) (6 * a) 0 (by omega) (by omega) (by omega) (by omega) (by omega) (by omega) (rfl) (rfl) (rfl) (rfl) (Nat.lt_succ_self _)

-- length
set_option maxHeartbeats 4000000 in
set_option maxRecDepth 100000 in
theorem c_X12_length (l : Launch) (D : va_G) (cy : Nat → ClassId) {N : Nat} {sh : MS} {ad : Nat → Nat} {M L : MI} {R : MR} (hS : Std N sh R) (a : Int) (b : Int) (ha : inR a) (hb : inR b) (hB : mBnd M) : Ctr l D cy yX12_length wsX12_length ({ frames := 2, cells := 0, slots := 0, locals := 49 } : Room) N sh ad M L R [.ref (ad 53), .int (iz a), .int (iz b)] (pI N sh ad M L R (fun r => r = if 0 ≤ a ∧ a < M 53 37 ∧ 0 ≤ b ∧ b ≤ 9 then mLen M a b else -1)) := by
  refine Ctr.ofI (by decide) rfl (Nat.le_of_ble_eq_true rfl) ?_
  intro K hKl hKd hRm hnm X hret
  have X : VX K cX12_length 3 wsX12_length RX12 := X
  show V K 3 0 0 N sh ad M L R [(0, .ref (ad 53)), (1, .int (iz a)), (2, .int (iz b))] [] 0
  have b1 := hB.1
  refine v_aload_n X 0 dX12_length_0 rfl rfl ?_
  refine v_iload_n X 1 dX12_length_1 rfl rfl ?_
  refine v_callV X [.int (iz a)] hRm (c_X12_isAct _ _ _ hS a ⟨by omega, by omega⟩) (gV bw_25_1 bw_25_2 bw_25_3 bw_1_5 bw_25_4) rfl ddX12_isAct (by decide) (Std.lt hS rfl) (Std.k hS rfl rfl) ⟨rfl, by decide⟩ (Nat.le_of_ble_eq_true rfl) dX12_length_2 (k_pB (fun b1 => ?_) (fun b1 => ?_))
  · skip
    refine v_if_eq X 27 dX12_length_5 (by decide) ⟨by decide, by decide⟩ (fun q => absurd q (by decide)) (fun _ => ?_)
    refine v_iload_n X 2 dX12_length_8 rfl rfl ?_
    refine v_if_lt X 27 dX12_length_9 (by decide) ⟨by omega, by omega⟩ (fun u2 => ?_) (fun u2 => ?_)
    · skip
      refine v_iconst X dX12_length_27 ?_
      refine hret _ _ _ _ _ _ _ _ _ _ _ (some (.int (iz (-1)))) dX12_length_28 ⟨rfl, _, rfl⟩ (by decide) (by decide) (fun hmok => ?_)
      refine ⟨rfl, rfl, rfl, rfl, rfl, rfl, (-1), rfl, ⟨by decide, by decide⟩, ?_⟩
      try dsimp only
      rw [if_neg (by omega)]
    · skip
      refine v_iload_n X 2 dX12_length_12 rfl rfl ?_
      refine v_bipush X dX12_length_13 (by decide) ?_
      refine v_icmp_gt X 27 dX12_length_15 (by decide) ⟨by omega, by omega⟩ ⟨by decide, by decide⟩ (fun u3 => ?_) (fun u3 => ?_)
      · skip
        refine v_iconst X dX12_length_27 ?_
        refine hret _ _ _ _ _ _ _ _ _ _ _ (some (.int (iz (-1)))) dX12_length_28 ⟨rfl, _, rfl⟩ (by decide) (by decide) (fun hmok => ?_)
        refine ⟨rfl, rfl, rfl, rfl, rfl, rfl, (-1), rfl, ⟨by decide, by decide⟩, ?_⟩
        try dsimp only
        rw [if_neg (by omega)]
      · skip
        refine v_aload_n X 0 dX12_length_18 rfl rfl ?_
        refine v_iload_n X 1 dX12_length_19 rfl rfl ?_
        refine v_iload_n X 2 dX12_length_20 rfl rfl ?_
        refine v_callV X [.int (iz a), .int (iz b)] hRm (c_X12_lengthOf _ _ _ hS a b (by omega) ⟨by omega, by omega⟩ hB) (gV bw_30_19 bw_30_20 bw_30_21 bw_1_5 bw_30_22) rfl ddX12_lengthOf (by decide) (Std.lt hS rfl) (Std.k hS rfl rfl) ⟨rfl, by decide⟩ (Nat.le_of_ble_eq_true rfl) dX12_length_21 (k_pI (fun r4 hr5 e6 => ?_))
        refine v_goto X 28 dX12_length_24 (by decide) ?_
        refine hret _ _ _ _ _ _ _ _ _ _ _ (some (.int (iz r4))) dX12_length_28 ⟨rfl, _, rfl⟩ (by decide) (by decide) (fun hmok => ?_)
        refine ⟨rfl, rfl, rfl, rfl, rfl, rfl, r4, rfl, ⟨by omega, by omega⟩, ?_⟩
        try dsimp only
        rw [if_pos (by omega)]
        assumption
  · skip
    refine v_if_eq X 27 dX12_length_5 (by decide) ⟨by decide, by decide⟩ (fun _ => ?_) (fun q => absurd (by decide) q)
    refine v_iconst X dX12_length_27 ?_
    refine hret _ _ _ _ _ _ _ _ _ _ _ (some (.int (iz (-1)))) dX12_length_28 ⟨rfl, _, rfl⟩ (by decide) (by decide) (fun hmok => ?_)
    refine ⟨rfl, rfl, rfl, rfl, rfl, rfl, (-1), rfl, ⟨by decide, by decide⟩, ?_⟩
    try dsimp only
    rw [if_neg (by omega)]

-- isTaken
set_option maxHeartbeats 4000000 in
set_option maxRecDepth 100000 in
theorem c_X12_isTaken (l : Launch) (D : va_G) (cy : Nat → ClassId) {N : Nat} {sh : MS} {ad : Nat → Nat} {M L : MI} {R : MR} (hS : Std N sh R) (m : Int) (hm : inR m) (hp : 0 ≤ M 53 62 ∧ M 53 62 ≤ 6) : Ctr l D cy yX12_isTaken wsX12_isTaken ({ frames := 0, cells := 0, slots := 0, locals := 0 } : Room) N sh ad M L R [.ref (ad 53), .int (iz m)] (pB N sh ad M L R (∃ k : Int, 0 ≤ k ∧ k < M 53 62 ∧ (M 97 k = m ∨ M 100 k = m))) := by
  refine Ctr.ofZ (by decide) rfl (Nat.le_of_ble_eq_true rfl) ?_
  intro K hKl hKd hRm hnm X hret
  have X : VX K cX12_isTaken 3 wsX12_isTaken RX12 := X
  show V K 3 0 0 N sh ad M L R [(0, .ref (ad 53)), (1, .int (iz m))] [] 0
  refine v_iconst X dX12_isTaken_0 ?_
  refine v_istore_n X [(2, .int (iz 0)), (0, .ref (ad 53)), (1, .int (iz m))] dX12_isTaken_1 rfl (by decide) rfl ?_
  have hl1 : ∀ (n3 : Nat) (i : Int), (0 ≤ i ∧ i ≤ M 53 62) → (∀ k : Int, 0 ≤ k → k < i → M 97 k ≠ m ∧ M 100 k ≠ m) → (6 - i).toNat < n3 → V K 3 0 0 N sh ad M L R [(0, .ref (ad 53)), (1, .int (iz m)), (2, .int (iz i))] [] 2 := by
    intro n3
    induction n3 with
    | zero => intro i hi hno hn4; exact absurd hn4 (Nat.not_lt_zero _)
    | succ n3 ih2 =>
      intro i hi hno hn4
      refine v_iload_n X 2 dX12_isTaken_2 rfl rfl ?_
      refine v_aload_n X 0 dX12_isTaken_3 rfl rfl ?_
      refine gt_X12_placed X iwX12 (Std.lt hS rfl) (Std.k hS rfl rfl) (List.mem_cons_of_mem _ bw_38_23) dX12_isTaken_4 (M 53 62) rfl (fun hr5 => ?_)
      refine v_icmp_ge X 38 dX12_isTaken_7 (by decide) ⟨by omega, by omega⟩ ⟨by omega, by omega⟩ (fun u6 => ?_) (fun u6 => ?_)
      · skip
        refine v_iconst X dX12_isTaken_38 ?_
        refine hret _ _ _ _ _ _ _ _ _ _ _ (some (.int (iz 0))) dX12_isTaken_39 ⟨rfl, 0, ⟨by omega, by omega⟩, rfl⟩ (by decide) (by decide) (fun hmok => ?_)
        refine ⟨rfl, rfl, rfl, rfl, rfl, rfl, 0, rfl, Or.inr ⟨rfl, ?_⟩⟩
        rintro ⟨k, q1, q2, q3⟩
        have := hno k q1 (by omega)
        omega
      · skip
        refine v_aload_n X 0 dX12_isTaken_10 rfl rfl ?_
        refine gt_X12_takesOff X iwX12 (Std.lt hS rfl) (Std.k hS rfl rfl) (List.mem_cons_of_mem _ bw_9_11) dX12_isTaken_11 97 (Std.r hS 64 rfl) ?_
        refine v_iload_n X 2 dX12_isTaken_14 rfl rfl ?_
        refine v_iald X (M 97 i) (Std.lt hS rfl) (Std.at hS rfl rfl) (by omega) (by omega) dX12_isTaken_15 rfl (fun hr7 => ?_)
        refine v_iload_n X 1 dX12_isTaken_16 rfl rfl ?_
        refine v_icmp_eq X 30 dX12_isTaken_17 (by decide) ⟨by omega, by omega⟩ ⟨by omega, by omega⟩ (fun u8 => ?_) (fun u8 => ?_)
        · skip
          refine v_iconst X dX12_isTaken_30 ?_
          refine hret _ _ _ _ _ _ _ _ _ _ _ (some (.int (iz 1))) dX12_isTaken_31 ⟨rfl, 1, ⟨by omega, by omega⟩, rfl⟩ (by decide) (by decide) (fun hmok => ?_)
          refine ⟨rfl, rfl, rfl, rfl, rfl, rfl, 1, rfl, Or.inl ⟨rfl, ?_⟩⟩
          exact ⟨i, by omega, by omega, by omega⟩
        · skip
          refine v_aload_n X 0 dX12_isTaken_20 rfl rfl ?_
          refine gt_X12_lands X iwX12 (Std.lt hS rfl) (Std.k hS rfl rfl) (List.mem_cons_of_mem _ bw_9_14) dX12_isTaken_21 100 (Std.r hS 67 rfl) ?_
          refine v_iload_n X 2 dX12_isTaken_24 rfl rfl ?_
          refine v_iald X (M 100 i) (Std.lt hS rfl) (Std.at hS rfl rfl) (by omega) (by omega) dX12_isTaken_25 rfl (fun hr9 => ?_)
          refine v_iload_n X 1 dX12_isTaken_26 rfl rfl ?_
          refine v_icmp_ne X 32 dX12_isTaken_27 (by decide) ⟨by omega, by omega⟩ ⟨by omega, by omega⟩ (fun u10 => ?_) (fun u10 => ?_)
          · skip
            refine v_iinc X 2 [(2, .int (iz (i + 1))), (0, .ref (ad 53)), (1, .int (iz m))] dX12_isTaken_32 rfl (by decide) rfl ?_
            refine v_goto X 2 dX12_isTaken_35 (by decide) ?_
            refine v_lv [1, 2, 0] rfl ?_
            exact ih2 (i + 1) (by omega) (fun k q1 q2 => by rcases (show k < i ∨ k = i by omega) with q | q; exact hno k q1 q; subst q; constructor <;> omega) (by omega)
          · skip
            refine v_iconst X dX12_isTaken_30 ?_
            refine hret _ _ _ _ _ _ _ _ _ _ _ (some (.int (iz 1))) dX12_isTaken_31 ⟨rfl, 1, ⟨by omega, by omega⟩, rfl⟩ (by decide) (by decide) (fun hmok => ?_)
            refine ⟨rfl, rfl, rfl, rfl, rfl, rfl, 1, rfl, Or.inl ⟨rfl, ?_⟩⟩
            exact ⟨i, by omega, by omega, by omega⟩
  refine v_lv [1, 2, 0] rfl ?_
  exact hl1 _ 0 (by omega) (fun k q1 q2 => by omega) (Nat.lt_succ_self _)

-- isOpen
set_option maxHeartbeats 4000000 in
set_option maxRecDepth 100000 in
theorem c_X12_isOpen (l : Launch) (D : va_G) (cy : Nat → ClassId) {N : Nat} {sh : MS} {ad : Nat → Nat} {M L : MI} {R : MR} (hS : Std N sh R) (f t : Int) (hf : 0 ≤ f ∧ f ≤ t) (ht : t ≤ 240) : Ctr l D cy yX12_isOpen wsX12_isOpen ({ frames := 0, cells := 0, slots := 0, locals := 0 } : Room) N sh ad M L R [.ref (ad 53), .int (iz f), .int (iz t)] (pB N sh ad M L R (∀ k : Int, f ≤ k → k < t → M 92 k = 0)) := by
  refine Ctr.ofZ (by decide) rfl (Nat.le_of_ble_eq_true rfl) ?_
  intro K hKl hKd hRm hnm X hret
  have X : VX K cX12_isOpen 4 wsX12_isOpen RX12 := X
  show V K 4 0 0 N sh ad M L R [(0, .ref (ad 53)), (1, .int (iz f)), (2, .int (iz t))] [] 0
  refine v_iload_n X 1 dX12_isOpen_0 rfl rfl ?_
  refine v_istore_n X [(3, .int (iz f)), (0, .ref (ad 53)), (1, .int (iz f)), (2, .int (iz t))] dX12_isOpen_1 rfl (by decide) rfl ?_
  have hl1 : ∀ (n3 : Nat) (i : Int), (f ≤ i ∧ i ≤ t) → (∀ k : Int, f ≤ k → k < i → M 92 k = 0) → (240 - i).toNat < n3 → V K 4 0 0 N sh ad M L R [(0, .ref (ad 53)), (1, .int (iz f)), (2, .int (iz t)), (3, .int (iz i))] [] 2 := by
    intro n3
    induction n3 with
    | zero => intro i hi hno hn4; exact absurd hn4 (Nat.not_lt_zero _)
    | succ n3 ih2 =>
      intro i hi hno hn4
      refine v_iload_n X 3 dX12_isOpen_2 rfl rfl ?_
      refine v_iload_n X 2 dX12_isOpen_3 rfl rfl ?_
      refine v_icmp_ge X 24 dX12_isOpen_4 (by decide) ⟨by omega, by omega⟩ ⟨by omega, by omega⟩ (fun u5 => ?_) (fun u5 => ?_)
      · skip
        refine v_iconst X dX12_isOpen_24 ?_
        refine hret _ _ _ _ _ _ _ _ _ _ _ (some (.int (iz 1))) dX12_isOpen_25 ⟨rfl, 1, ⟨by omega, by omega⟩, rfl⟩ (by decide) (by decide) (fun hmok => ?_)
        refine ⟨rfl, rfl, rfl, rfl, rfl, rfl, 1, rfl, Or.inl ⟨rfl, ?_⟩⟩
        intro k q1 q2
        exact hno k q1 (by omega)
      · skip
        refine v_aload_n X 0 dX12_isOpen_7 rfl rfl ?_
        refine gt_X12_isShut X iwX12 (Std.lt hS rfl) (Std.k hS rfl rfl) (List.mem_cons_of_mem _ bw_9_6) dX12_isOpen_8 92 (Std.r hS 58 rfl) ?_
        refine v_iload_n X 3 dX12_isOpen_11 rfl rfl ?_
        refine v_zald X (M 92 i) (Std.lt hS rfl) (Std.at hS rfl rfl) (by omega) (by omega) dX12_isOpen_12 rfl (fun hr6 => ?_)
        refine v_if_eq X 18 dX12_isOpen_13 (by decide) ⟨by omega, by omega⟩ (fun u7 => ?_) (fun u7 => ?_)
        · skip
          refine v_iinc X 3 [(3, .int (iz (i + 1))), (0, .ref (ad 53)), (1, .int (iz f)), (2, .int (iz t))] dX12_isOpen_18 rfl (by decide) rfl ?_
          refine v_goto X 2 dX12_isOpen_21 (by decide) ?_
          refine v_lv [1, 2, 3, 0] rfl ?_
          exact ih2 (i + 1) (by omega) (fun k q1 q2 => by rcases (show k < i ∨ k = i by omega) with q | q; exact hno k q1 q; subst q; omega) (by omega)
        · skip
          refine v_iconst X dX12_isOpen_16 ?_
          refine hret _ _ _ _ _ _ _ _ _ _ _ (some (.int (iz 0))) dX12_isOpen_17 ⟨rfl, 0, ⟨by omega, by omega⟩, rfl⟩ (by decide) (by decide) (fun hmok => ?_)
          refine ⟨rfl, rfl, rfl, rfl, rfl, rfl, 0, rfl, Or.inr ⟨rfl, ?_⟩⟩
          intro q
          have := q i (by omega) (by omega)
          omega
  refine v_lv [1, 2, 3, 0] rfl ?_
  exact hl1 _ f (by omega) (fun k q1 q2 => by omega) (Nat.lt_succ_self _)

-- asks
set_option maxHeartbeats 4000000 in
set_option maxRecDepth 100000 in
theorem c_X12_asks (l : Launch) (D : va_G) (cy : Nat → ClassId) {N : Nat} {sh : MS} {ad : Nat → Nat} {M L : MI} {R : MR} (hS : Std N sh R) (a m q s l2 : Int) (ha : 0 ≤ a ∧ a < 6) (hm : 0 ≤ m ∧ m < 240) (hq : inR q) (hs : inR s) (hl : inR l2) : Ctr l D cy yX12_asks wsX12_asks ({ frames := 0, cells := 0, slots := 0, locals := 0 } : Room) N sh ad M L R [.ref (ad 53), .int (iz a), .int (iz m), .int (iz q), .int (iz s), .int (iz l2)] (eV N sh ad L R (fun M' => M' = (mu (mu (mu (mu (mu (mu (mu (mu (mu M 94 0 a) 94 1 (M 76 a)) 94 2 q) 94 3 s) 94 4 (M 91 m)) 94 5 m) 94 6 (M 53 51)) 94 7 l2) 94 8 (M 78 a)))) := by
  refine Ctr.ofV (by decide) rfl (Nat.le_of_ble_eq_true rfl) ?_
  intro K hKl hKd hRm hnm X hret
  have X : VX K cX12_asks 6 wsX12_asks RX12 := X
  show V K 6 0 0 N sh ad M L R [(0, .ref (ad 53)), (1, .int (iz a)), (2, .int (iz m)), (3, .int (iz q)), (4, .int (iz s)), (5, .int (iz l2))] [] 0
  refine v_aload_n X 0 dX12_asks_0 rfl rfl ?_
  refine gt_X12_variables X iwX12 (Std.lt hS rfl) (Std.k hS rfl rfl) (List.mem_cons_of_mem _ bw_9_8) dX12_asks_1 94 (Std.r hS 60 rfl) ?_
  refine v_iconst X dX12_asks_4 ?_
  refine v_iload_n X 1 dX12_asks_5 rfl rfl ?_
  refine v_iast X (Std.lt hS rfl) (Std.at hS rfl rfl) (by omega) (by omega) ⟨by omega, by omega⟩ dX12_asks_6 ?_
  refine v_aload_n X 0 dX12_asks_7 rfl rfl ?_
  refine gt_X12_variables X iwX12 (Std.lt hS rfl) (Std.k hS rfl rfl) (List.mem_cons_of_mem _ bw_9_8) dX12_asks_8 94 (Std.r hS 60 rfl) ?_
  refine v_iconst X dX12_asks_11 ?_
  refine v_aload_n X 0 dX12_asks_12 rfl rfl ?_
  refine gt_X12_kind X iwX12 (Std.lt hS rfl) (Std.k hS rfl rfl) (List.mem_cons_of_mem _ bw_8_14) dX12_asks_13 76 (Std.r hS 38 rfl) ?_
  refine v_iload_n X 1 dX12_asks_16 rfl rfl ?_
  refine v_iald X (M 76 a) (Std.lt hS rfl) (Std.at hS rfl rfl) (by omega) (by omega) dX12_asks_17 rfl (fun hr1 => ?_)
  refine v_iast X (Std.lt hS rfl) (Std.at hS rfl rfl) (by omega) (by omega) ⟨by omega, by omega⟩ dX12_asks_18 ?_
  refine v_aload_n X 0 dX12_asks_19 rfl rfl ?_
  refine gt_X12_variables X iwX12 (Std.lt hS rfl) (Std.k hS rfl rfl) (List.mem_cons_of_mem _ bw_9_8) dX12_asks_20 94 (Std.r hS 60 rfl) ?_
  refine v_iconst X dX12_asks_23 ?_
  refine v_iload_n X 3 dX12_asks_24 rfl rfl ?_
  refine v_iast X (Std.lt hS rfl) (Std.at hS rfl rfl) (by omega) (by omega) ⟨by omega, by omega⟩ dX12_asks_25 ?_
  refine v_aload_n X 0 dX12_asks_26 rfl rfl ?_
  refine gt_X12_variables X iwX12 (Std.lt hS rfl) (Std.k hS rfl rfl) (List.mem_cons_of_mem _ bw_9_8) dX12_asks_27 94 (Std.r hS 60 rfl) ?_
  refine v_iconst X dX12_asks_30 ?_
  refine v_iload X 4 dX12_asks_31 rfl ?_
  refine v_iast X (Std.lt hS rfl) (Std.at hS rfl rfl) (by omega) (by omega) ⟨by omega, by omega⟩ dX12_asks_33 ?_
  refine v_aload_n X 0 dX12_asks_34 rfl rfl ?_
  refine gt_X12_variables X iwX12 (Std.lt hS rfl) (Std.k hS rfl rfl) (List.mem_cons_of_mem _ bw_9_8) dX12_asks_35 94 (Std.r hS 60 rfl) ?_
  refine v_iconst X dX12_asks_38 ?_
  refine v_aload_n X 0 dX12_asks_39 rfl rfl ?_
  refine gt_X12_bases X iwX12 (Std.lt hS rfl) (Std.k hS rfl rfl) (List.mem_cons_of_mem _ bw_9_5) dX12_asks_40 91 (Std.r hS 57 rfl) ?_
  refine v_iload_n X 2 dX12_asks_43 rfl rfl ?_
  refine v_iald X (M 91 m) (Std.lt hS rfl) (Std.at hS rfl rfl) (by omega) (by omega) dX12_asks_44 rfl (fun hr2 => ?_)
  refine v_iast X (Std.lt hS rfl) (Std.at hS rfl rfl) (by omega) (by omega) ⟨by omega, by omega⟩ dX12_asks_45 ?_
  refine v_aload_n X 0 dX12_asks_46 rfl rfl ?_
  refine gt_X12_variables X iwX12 (Std.lt hS rfl) (Std.k hS rfl rfl) (List.mem_cons_of_mem _ bw_9_8) dX12_asks_47 94 (Std.r hS 60 rfl) ?_
  refine v_iconst X dX12_asks_50 ?_
  refine v_iload_n X 2 dX12_asks_51 rfl rfl ?_
  refine v_iast X (Std.lt hS rfl) (Std.at hS rfl rfl) (by omega) (by omega) ⟨by omega, by omega⟩ dX12_asks_52 ?_
  refine v_aload_n X 0 dX12_asks_53 rfl rfl ?_
  refine gt_X12_variables X iwX12 (Std.lt hS rfl) (Std.k hS rfl rfl) (List.mem_cons_of_mem _ bw_9_8) dX12_asks_54 94 (Std.r hS 60 rfl) ?_
  refine v_bipush X dX12_asks_57 (by decide) ?_
  refine v_aload_n X 0 dX12_asks_59 rfl rfl ?_
  refine gt_X12_wind X iwX12 (Std.lt hS rfl) (Std.k hS rfl rfl) (List.mem_cons_of_mem _ bw_26_14) dX12_asks_60 (M 53 51) rfl (fun hr3 => ?_)
  refine v_iast X (Std.lt hS rfl) (Std.at hS rfl rfl) (by omega) (by omega) ⟨by omega, by omega⟩ dX12_asks_63 ?_
  refine v_aload_n X 0 dX12_asks_64 rfl rfl ?_
  refine gt_X12_variables X iwX12 (Std.lt hS rfl) (Std.k hS rfl rfl) (List.mem_cons_of_mem _ bw_9_8) dX12_asks_65 94 (Std.r hS 60 rfl) ?_
  refine v_bipush X dX12_asks_68 (by decide) ?_
  refine v_iload X 5 dX12_asks_70 rfl ?_
  refine v_iast X (Std.lt hS rfl) (Std.at hS rfl rfl) (by omega) (by omega) ⟨by omega, by omega⟩ dX12_asks_72 ?_
  refine v_aload_n X 0 dX12_asks_73 rfl rfl ?_
  refine gt_X12_variables X iwX12 (Std.lt hS rfl) (Std.k hS rfl rfl) (List.mem_cons_of_mem _ bw_9_8) dX12_asks_74 94 (Std.r hS 60 rfl) ?_
  refine v_bipush X dX12_asks_77 (by decide) ?_
  refine v_aload_n X 0 dX12_asks_79 rfl rfl ?_
  refine gt_X12_worth X iwX12 (Std.lt hS rfl) (Std.k hS rfl rfl) (List.mem_cons_of_mem _ bw_8_16) dX12_asks_80 78 (Std.r hS 40 rfl) ?_
  refine v_iload_n X 1 dX12_asks_83 rfl rfl ?_
  refine v_iald X (M 78 a) (Std.lt hS rfl) (Std.at hS rfl rfl) (by omega) (by omega) dX12_asks_84 rfl (fun hr4 => ?_)
  refine v_iast X (Std.lt hS rfl) (Std.at hS rfl rfl) (by omega) (by omega) ⟨by omega, by omega⟩ dX12_asks_85 ?_
  refine hret _ _ _ _ _ _ _ _ _ _ _ none dX12_asks_86 ⟨rfl, rfl⟩ (by decide) (by decide) (fun hmok => ?_)
  refine ⟨rfl, rfl, rfl, rfl, rfl, rfl, ?_⟩
  try dsimp only
  all_goals rfl

