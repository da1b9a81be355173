/-! rows written over rows -/
theorem mu_mrow (M : MI) (i : Nat) (f : Int → Int) (z v : Int) : mu (mrow M i f) i z v = mrow M i (fun b => if b = z then v else f b) := by
  funext a b
  by_cases h : a = i
  · subst h; simp only [mu, mrow, if_true]
  · simp only [mu, mrow, h, if_false]
theorem mu_mrow_ne (M : MI) {i j : Nat} (f : Int → Int) (z v : Int) (h : i ≠ j) : mu (mrow M j f) i z v = mrow (mu M i z v) j f := by
  funext a b
  by_cases h1 : a = i
  · subst h1
    have : ¬ a = j := h
    simp only [mu, mrow, this, if_true, if_false]
  · by_cases h2 : a = j
    · subst h2; simp only [mu, mrow, h1, if_true, if_false]
    · simp only [mu, mrow, h1, h2, if_false]
theorem mrow_mrow (M : MI) (i : Nat) (f g : Int → Int) : mrow (mrow M i f) i g = mrow M i g := by
  funext a b
  by_cases h : a = i
  · subst h; simp only [mrow, if_true]
  · simp only [mrow, h, if_false]
theorem mrow_self (M : MI) (i : Nat) : mrow M i (M i) = M := by
  funext a b
  by_cases h : a = i
  · subst h; simp only [mrow, if_true]
  · simp only [mrow, h, if_false]
theorem filz_f (f : Int → Int) (i v : Int) (h0 : 0 ≤ i) : (fun b => if b = i then v else filz f i v b) = filz f (i + 1) v := by
  funext b
  unfold filz
  repeat' split
  all_goals first | rfl | omega
theorem filz_z (f : Int → Int) (v : Int) : filz f 0 v = f := by
  funext b
  unfold filz
  rw [if_neg (by omega)]
/-! WHAT IS KNOWN by the first facts (their sorts S, and A, B) -/
def lastB (S A B : Int → Int) (m i0 : Int) : Nat → Int
  | 0 => i0
  | k + 1 => if S (k : Int) = 0 ∧ A (k : Int) = m then B (k : Int) else lastB S A B m i0 k
def bsAt (S A B : Int → Int) (n : Nat) : Nat → Int
  | 0 => lastB S A B 0 9 n
  | m + 1 => lastB S A B ((m : Int) + 1) (bsAt S A B n m) n
def rdAt (S A B : Int → Int) (a : Int) : Nat → Int
  | 0 => 0
  | k + 1 => if S (k : Int) = 2 ∧ A (k : Int) = a then B (k : Int) else rdAt S A B a k
def shAt (S A B : Int → Int) (m : Int) : Nat → Int
  | 0 => 0
  | k + 1 => if (S (k : Int) = 1 ∨ S (k : Int) = 3) ∧ A (k : Int) ≤ m ∧ m < B (k : Int) then 1 else shAt S A B m k
theorem lastB_s (S A B : Int → Int) (m i0 : Int) (k : Nat) : lastB S A B m i0 (k + 1) = if S (k : Int) = 0 ∧ A (k : Int) = m then B (k : Int) else lastB S A B m i0 k := rfl
theorem rdAt_s (S A B : Int → Int) (a : Int) (k : Nat) : rdAt S A B a (k + 1) = if S (k : Int) = 2 ∧ A (k : Int) = a then B (k : Int) else rdAt S A B a k := rfl
theorem shAt_s (S A B : Int → Int) (m : Int) (k : Nat) : shAt S A B m (k + 1) = if (S (k : Int) = 1 ∨ S (k : Int) = 3) ∧ A (k : Int) ≤ m ∧ m < B (k : Int) then 1 else shAt S A B m k := rfl
/-- the value that a minute begins with -/
def bsPre (S A B : Int → Int) (n : Nat) (m : Int) : Int := if m ≤ 0 then 9 else bsAt S A B n (m - 1).toNat
theorem bsAt_of (S A B : Int → Int) (n : Nat) {m : Int} (h : 0 ≤ m) : bsAt S A B n m.toNat = lastB S A B m (bsPre S A B n m) n := by
  unfold bsPre
  by_cases h0 : m = 0
  · subst h0; rfl
  · rw [if_neg (by omega)]
    obtain ⟨k, rfl⟩ : ∃ k : Nat, m = (k : Int) + 1 := ⟨(m - 1).toNat, by omega⟩
    rw [show ((k : Int) + 1).toNat = k + 1 by omega, show ((k : Int) + 1 - 1).toNat = k by omega]
    rfl
def bsRow (S A B : Int → Int) (n : Nat) (m : Int) (f : Int → Int) : Int → Int := fun z => if 0 ≤ z ∧ z < m then bsAt S A B n z.toNat else f z
def rdRow (S A B : Int → Int) (k : Nat) (f : Int → Int) : Int → Int := fun z => if 0 ≤ z ∧ z < 6 then rdAt S A B z k else f z
def shRow (S A B : Int → Int) (k : Nat) (f : Int → Int) : Int → Int := fun z => if 0 ≤ z ∧ z < 240 then shAt S A B z k else f z
def FactOk (s a b : Int) : Prop := (s = 0 ∧ 0 ≤ a ∧ a < 240 ∧ 0 ≤ b ∧ b ≤ 9) ∨ (s = 2 ∧ 0 ≤ a ∧ a < 6 ∧ 0 ≤ b ∧ b < 240) ∨ ((s = 1 ∨ s = 3) ∧ 0 ≤ a ∧ a < b ∧ b ≤ 240)
theorem row_bs0 (S A B : Int → Int) (n : Nat) (f : Int → Int) : bsRow S A B n 0 f = f := by
  funext z; unfold bsRow; rw [if_neg (by omega)]
theorem row_in {S A B : Int → Int} {n : Nat} {m : Int} {f : Int → Int} (h : 0 ≤ m) : (fun z => if z = m then lastB S A B m (bsPre S A B n m) n else bsRow S A B n m f z) = bsRow S A B n (m + 1) f := by
  funext z
  unfold bsRow
  by_cases e : z = m
  · subst e
    rw [if_pos rfl, if_pos (by omega), bsAt_of _ _ _ _ h]
  · rw [if_neg e]
    by_cases q : 0 ≤ z ∧ z < m
    · rw [if_pos q, if_pos (by omega)]
    · rw [if_neg q, if_neg (by omega)]
theorem row_same {f : Int → Int} {m v : Int} (h : f m = v) : (fun z => if z = m then v else f z) = f := by
  funext z
  by_cases e : z = m
  · subst e; rw [if_pos rfl, h]
  · rw [if_neg e]
theorem row_over {f : Int → Int} {m v w : Int} : (fun z => if z = m then v else (if z = m then w else f z)) = fun z => if z = m then v else f z := by
  funext z
  by_cases e : z = m
  · rw [if_pos e, if_pos e]
  · rw [if_neg e, if_neg e, if_neg e]
theorem row_rd0 (S A B : Int → Int) (f : Int → Int) : rdRow S A B 0 f = filz f 6 0 := by
  funext z; unfold rdRow filz; rfl
theorem row_sh0 (S A B : Int → Int) (f : Int → Int) : shRow S A B 0 f = filz f 240 0 := by
  funext z; unfold shRow filz; rfl
theorem row_rd {S A B : Int → Int} {k : Nat} {f : Int → Int} (h : S (k : Int) = 2) (h1 : 0 ≤ A (k : Int) ∧ A (k : Int) < 6) : (fun z => if z = A (k : Int) then B (k : Int) else rdRow S A B k f z) = rdRow S A B (k + 1) f := by
  funext z
  unfold rdRow
  rw [rdAt_s]
  by_cases e : z = A (k : Int)
  · rw [if_pos e, if_pos (by omega), if_pos ⟨h, e.symm⟩]
  · rw [if_neg e]
    by_cases q : 0 ≤ z ∧ z < 6
    · rw [if_pos q, if_pos q, if_neg (fun x => e x.2.symm)]
    · rw [if_neg q, if_neg q]
theorem row_rdn {S A B : Int → Int} {k : Nat} {f : Int → Int} (h : S (k : Int) ≠ 2) : rdRow S A B (k + 1) f = rdRow S A B k f := by
  funext z
  have e : rdAt S A B z (k + 1) = rdAt S A B z k := by rw [rdAt_s, if_neg (fun x => h x.1)]
  unfold rdRow
  rw [e]
theorem row_shn {S A B : Int → Int} {k : Nat} {f : Int → Int} (h : S (k : Int) ≠ 1 ∧ S (k : Int) ≠ 3) : shRow S A B (k + 1) f = shRow S A B k f := by
  funext z
  have e : shAt S A B z (k + 1) = shAt S A B z k := by rw [shAt_s, if_neg (fun x => by have := x.1; omega)]
  unfold shRow
  rw [e]
theorem row_sh {S A B : Int → Int} {k : Nat} {f : Int → Int} {m : Int} (h : S (k : Int) = 1 ∨ S (k : Int) = 3) (h1 : 0 ≤ A (k : Int) ∧ B (k : Int) ≤ 240) (hm : m = B (k : Int)) : (fun z => if A (k : Int) ≤ z ∧ z < m then 1 else shRow S A B k f z) = shRow S A B (k + 1) f := by
  subst hm
  funext z
  unfold shRow
  rw [shAt_s]
  by_cases e : A (k : Int) ≤ z ∧ z < B (k : Int)
  · rw [if_pos e, if_pos (by omega), if_pos ⟨h, e.1, e.2⟩]
  · rw [if_neg e]
    by_cases q : 0 ≤ z ∧ z < 240
    · rw [if_pos q, if_pos q, if_neg (fun x => e x.2)]
    · rw [if_neg q, if_neg q]
theorem row_one {f : Int → Int} {a m : Int} (h : a ≤ m) : (fun z => if z = m then 1 else (if a ≤ z ∧ z < m then 1 else f z)) = fun z => if a ≤ z ∧ z < m + 1 then 1 else f z := by
  funext z
  repeat' split
  all_goals first | rfl | omega
theorem row_none {f : Int → Int} {a : Int} : (fun z => if a ≤ z ∧ z < a then 1 else f z) = f := by
  funext z
  rw [if_neg (by omega)]
theorem lastB_in {S A B : Int → Int} {m i0 : Int} (hi : 0 ≤ i0 ∧ i0 ≤ 9) {n : Nat} (hF : ∀ k : Int, 0 ≤ k → k < n → FactOk (S k) (A k) (B k)) : ∀ k : Nat, k ≤ n → 0 ≤ lastB S A B m i0 k ∧ lastB S A B m i0 k ≤ 9
  | 0, _ => hi
  | k + 1, h => by
    have ih := lastB_in hi hF (m := m) k (by omega)
    have h2 := hF (k : Int) (by omega) (by omega)
    rw [lastB_s]
    split
    · rcases h2 with q | q | q <;> omega
    · exact ih
theorem bsAt_in {S A B : Int → Int} {n : Nat} (hF : ∀ k : Int, 0 ≤ k → k < n → FactOk (S k) (A k) (B k)) : ∀ m : Nat, 0 ≤ bsAt S A B n m ∧ bsAt S A B n m ≤ 9
  | 0 => lastB_in ⟨by decide, by decide⟩ hF n (Nat.le_refl _)
  | m + 1 => lastB_in (bsAt_in hF m) hF n (Nat.le_refl _)

-- knows
set_option maxHeartbeats 4000000 in
set_option maxRecDepth 100000 in
theorem c_X12_knows (l : Launch) (D : va_G) (cy : Nat → ClassId) {N : Nat} {sh : MS} {ad : Nat → Nat} {M L : MI} {R : MR} (hS : Std N sh R) (n : Int) (hn : 0 ≤ n ∧ n ≤ 100) (hF : ∀ k : Int, 0 ≤ k → k < n → FactOk (M 88 k) (M 89 k) (M 90 k)) : Ctr l D cy yX12_knows wsX12_knows ({ frames := 0, cells := 0, slots := 0, locals := 0 } : Room) N sh ad M L R [.ref (ad 53), .int (iz n)] (eV N sh ad L R (fun M' => M' = mrow (mrow (mrow M 91 (bsRow (M 88) (M 89) (M 90) n.toNat 240 (M 91))) 92 (shRow (M 88) (M 89) (M 90) n.toNat (M 92))) 93 (rdRow (M 88) (M 89) (M 90) n.toNat (M 93)))) := by
  refine Ctr.ofV (by decide) rfl (Nat.le_of_ble_eq_true rfl) ?_
  intro K hKl hKd hRm hnm X hret
  have X : VX K cX12_knows 4 wsX12_knows RX12 := X
  show V K 4 0 0 N sh ad M L R [(0, .ref (ad 53)), (1, .int (iz n))] [] 0
  refine v_iconst X dX12_knows_0 ?_
  refine v_istore_n X [(2, .int (iz 0)), (0, .ref (ad 53)), (1, .int (iz n))] dX12_knows_1 rfl (by decide) rfl ?_
  have hl1 : ∀ (n3 : Nat) (i : Int), (0 ≤ i ∧ i ≤ 240) → (240 - i).toNat < n3 → V K 4 0 0 N sh ad (mrow (mrow M 91 (filz (M 91) i 9)) 92 (filz (M 92) i 0)) L R [(0, .ref (ad 53)), (1, .int (iz n)), (2, .int (iz i))] [] 2 := by
    intro n3
    induction n3 with
    | zero => intro i hi hn4; exact absurd hn4 (Nat.not_lt_zero _)
    | succ n3 ih2 =>
      intro i hi hn4
      refine v_iload_n X 2 dX12_knows_2 rfl rfl ?_
      refine v_sipush X dX12_knows_3 (by decide) ?_
      refine v_icmp_ge X 30 dX12_knows_6 (by decide) ⟨by omega, by omega⟩ ⟨by decide, by decide⟩ (fun u5 => ?_) (fun u5 => ?_)
      · skip
        refine v_iconst X dX12_knows_30 ?_
        refine v_istore_n X [(2, .int (iz 0)), (0, .ref (ad 53)), (1, .int (iz n))] dX12_knows_31 rfl (by decide) rfl ?_
        have hl6 : ∀ (n8 : Nat) (i : Int), (0 ≤ i ∧ i ≤ 6) → (6 - i).toNat < n8 → V K 4 0 0 N sh ad (mrow (mrow (mrow M 91 (filz (M 91) 240 9)) 92 (filz (M 92) 240 0)) 93 (filz (M 93) i 0)) L R [(0, .ref (ad 53)), (1, .int (iz n)), (2, .int (iz i))] [] 32 := by
          intro n8
          induction n8 with
          | zero => intro i hi hn9; exact absurd hn9 (Nat.not_lt_zero _)
          | succ n8 ih7 =>
            intro i hi hn9
            refine v_iload_n X 2 dX12_knows_32 rfl rfl ?_
            refine v_bipush X dX12_knows_33 (by decide) ?_
            refine v_icmp_ge X 51 dX12_knows_35 (by decide) ⟨by omega, by omega⟩ ⟨by decide, by decide⟩ (fun u10 => ?_) (fun u10 => ?_)
            · skip
              refine v_iconst X dX12_knows_51 ?_
              refine v_istore_n X [(2, .int (iz 0)), (0, .ref (ad 53)), (1, .int (iz n))] dX12_knows_52 rfl (by decide) rfl ?_
              have hl11 : ∀ (n13 : Nat) (m : Int), (0 ≤ m ∧ m ≤ 240) → (240 - m).toNat < n13 → V K 4 0 0 N sh ad (mrow (mrow (mrow M 91 (bsRow (M 88) (M 89) (M 90) n.toNat m (filz (M 91) 240 9))) 92 (filz (M 92) 240 0)) 93 (filz (M 93) 6 0)) L R [(0, .ref (ad 53)), (1, .int (iz n)), (2, .int (iz m))] [] 53 := by
                intro n13
                induction n13 with
                | zero => intro m hm hn14; exact absurd hn14 (Nat.not_lt_zero _)
                | succ n13 ih12 =>
                  intro m hm hn14
                  refine v_iload_n X 2 dX12_knows_53 rfl rfl ?_
                  refine v_sipush X dX12_knows_54 (by decide) ?_
                  refine v_icmp_ge X 128 dX12_knows_57 (by decide) ⟨by omega, by omega⟩ ⟨by decide, by decide⟩ (fun u15 => ?_) (fun u15 => ?_)
                  · skip
                    refine v_iconst X dX12_knows_128 ?_
                    refine v_istore_n X [(2, .int (iz 0)), (0, .ref (ad 53)), (1, .int (iz n))] dX12_knows_129 rfl (by decide) rfl ?_
                    have hl16 : ∀ (n18 : Nat) (k : Int) (j : Nat), (k = (j : Int)) → (k ≤ n) → (n - k).toNat < n18 → V K 4 0 0 N sh ad (mrow (mrow (mrow M 91 (bsRow (M 88) (M 89) (M 90) n.toNat 240 (filz (M 91) 240 9))) 92 (shRow (M 88) (M 89) (M 90) j (M 92))) 93 (rdRow (M 88) (M 89) (M 90) j (M 93))) L R [(0, .ref (ad 53)), (1, .int (iz n)), (2, .int (iz k))] [] 130 := by
                      intro n18
                      induction n18 with
                      | zero => intro k j ek hk hn19; exact absurd hn19 (Nat.not_lt_zero _)
                      | succ n18 ih17 =>
                        intro k j ek hk hn19
                        have hF9 : k < n → FactOk (M 88 k) (M 89 k) (M 90 k) := fun q => hF k (by omega) q
                        unfold FactOk at hF9
                        refine v_iload_n X 2 dX12_knows_130 rfl rfl ?_
                        refine v_iload_n X 1 dX12_knows_131 rfl rfl ?_
                        refine v_icmp_ge X 218 dX12_knows_132 (by decide) ⟨by omega, by omega⟩ ⟨by omega, by omega⟩ (fun u20 => ?_) (fun u20 => ?_)
                        · skip
                          refine hret _ _ _ _ _ _ _ _ _ _ _ none dX12_knows_218 ⟨rfl, rfl⟩ (by decide) (by decide) (fun hmok => ?_)
                          refine ⟨rfl, rfl, rfl, rfl, rfl, rfl, ?_⟩
                          try dsimp only
                          have e2 : j = n.toNat := by omega
                          subst e2
                          have e3 : bsRow (M 88) (M 89) (M 90) n.toNat 240 (filz (M 91) 240 9) = bsRow (M 88) (M 89) (M 90) n.toNat 240 (M 91) := by
                            funext z; unfold bsRow filz; split <;> rfl
                          rw [e3]
                        · skip
                          have hF8 := hF9 (by omega)
                          refine v_aload_n X 0 dX12_knows_135 rfl rfl ?_
                          refine gt_X12_factSort X iwX12 (Std.lt hS rfl) (Std.k hS rfl rfl) (List.mem_cons_of_mem _ bw_9_2) dX12_knows_136 88 (Std.r hS 54 rfl) ?_
                          refine v_iload_n X 2 dX12_knows_139 rfl rfl ?_
                          refine v_iald X (M 88 k) (Std.lt hS rfl) (Std.at hS rfl rfl) (by omega) (by omega) dX12_knows_140 rfl (fun hr21 => ?_)
                          refine v_iconst X dX12_knows_141 ?_
                          refine v_icmp_ne X 162 dX12_knows_142 (by decide) ⟨by omega, by omega⟩ ⟨by decide, by decide⟩ (fun u22 => ?_) (fun u22 => ?_)
                          · skip
                            refine v_aload_n X 0 dX12_knows_162 rfl rfl ?_
                            refine gt_X12_factSort X iwX12 (Std.lt hS rfl) (Std.k hS rfl rfl) (List.mem_cons_of_mem _ bw_9_2) dX12_knows_163 88 (Std.r hS 54 rfl) ?_
                            refine v_iload_n X 2 dX12_knows_166 rfl rfl ?_
                            refine v_iald X (M 88 k) (Std.lt hS rfl) (Std.at hS rfl rfl) (by omega) (by omega) dX12_knows_167 rfl (fun hr23 => ?_)
                            refine v_iconst X dX12_knows_168 ?_
                            refine v_icmp_eq X 182 dX12_knows_169 (by decide) ⟨by omega, by omega⟩ ⟨by decide, by decide⟩ (fun u24 => ?_) (fun u24 => ?_)
                            · skip
                              refine v_aload_n X 0 dX12_knows_182 rfl rfl ?_
                              refine gt_X12_factA X iwX12 (Std.lt hS rfl) (Std.k hS rfl rfl) (List.mem_cons_of_mem _ bw_9_3) dX12_knows_183 89 (Std.r hS 55 rfl) ?_
                              refine v_iload_n X 2 dX12_knows_186 rfl rfl ?_
                              refine v_iald X (M 89 k) (Std.lt hS rfl) (Std.at hS rfl rfl) (by omega) (by omega) dX12_knows_187 rfl (fun hr25 => ?_)
                              refine v_istore_n X [(3, .int (iz (M 89 k))), (0, .ref (ad 53)), (1, .int (iz n)), (2, .int (iz k))] dX12_knows_188 rfl (by decide) rfl ?_
                              have hl26 : ∀ (n28 : Nat) (m2 : Int), (M 89 k ≤ m2 ∧ m2 ≤ M 90 k) → (240 - m2).toNat < n28 → V K 4 0 0 N sh ad (mrow (mrow (mrow M 91 (bsRow (M 88) (M 89) (M 90) n.toNat 240 (filz (M 91) 240 9))) 92 (fun z => if M 89 k ≤ z ∧ z < m2 then 1 else shRow (M 88) (M 89) (M 90) j (M 92) z)) 93 (rdRow (M 88) (M 89) (M 90) j (M 93))) L R [(0, .ref (ad 53)), (1, .int (iz n)), (2, .int (iz k)), (3, .int (iz m2))] [] 189 := by
                                intro n28
                                induction n28 with
                                | zero => intro m2 hm2 hn29; exact absurd hn29 (Nat.not_lt_zero _)
                                | succ n28 ih27 =>
                                  intro m2 hm2 hn29
                                  refine v_iload_n X 3 dX12_knows_189 rfl rfl ?_
                                  refine v_aload_n X 0 dX12_knows_190 rfl rfl ?_
                                  refine gt_X12_factB X iwX12 (Std.lt hS rfl) (Std.k hS rfl rfl) (List.mem_cons_of_mem _ bw_9_4) dX12_knows_191 90 (Std.r hS 56 rfl) ?_
                                  refine v_iload_n X 2 dX12_knows_194 rfl rfl ?_
                                  refine v_iald X (M 90 k) (Std.lt hS rfl) (Std.at hS rfl rfl) (by omega) (by omega) dX12_knows_195 rfl (fun hr30 => ?_)
                                  refine v_icmp_ge X 212 dX12_knows_196 (by decide) ⟨by omega, by omega⟩ ⟨by omega, by omega⟩ (fun u31 => ?_) (fun u31 => ?_)
                                  · skip
                                    refine v_iinc X 2 [(2, .int (iz (k + 1))), (0, .ref (ad 53)), (1, .int (iz n)), (3, .int (iz m2))] dX12_knows_212 rfl (by decide) rfl ?_
                                    refine v_goto X 130 dX12_knows_215 (by decide) ?_
                                    refine v_lv [1, 2, 0] rfl ?_
                                    refine v_mem (M' := (mrow (mrow (mrow M 91 (bsRow (M 88) (M 89) (M 90) n.toNat 240 (filz (M 91) 240 9))) 92 (shRow (M 88) (M 89) (M 90) (j + 1) (M 92))) 93 (rdRow (M 88) (M 89) (M 90) (j + 1) (M 93)))) (by subst ek; rw [row_sh (by omega) (by omega) (by omega), row_rdn (by omega)]) rfl rfl ?_
                                    exact ih17 (k + 1) (j + 1) (by omega) (by omega) (by omega)
                                  · skip
                                    refine v_aload_n X 0 dX12_knows_199 rfl rfl ?_
                                    refine gt_X12_isShut X iwX12 (Std.lt hS rfl) (Std.k hS rfl rfl) (List.mem_cons_of_mem _ bw_9_6) dX12_knows_200 92 (Std.r hS 58 rfl) ?_
                                    refine v_iload_n X 3 dX12_knows_203 rfl rfl ?_
                                    refine v_iconst X dX12_knows_204 ?_
                                    refine v_zast X (Std.lt hS rfl) (Std.at hS rfl rfl) (by omega) (by omega) ⟨by decide, by decide⟩ dX12_knows_205 ?_
                                    refine v_iinc X 3 [(3, .int (iz (m2 + 1))), (0, .ref (ad 53)), (1, .int (iz n)), (2, .int (iz k))] dX12_knows_206 rfl (by decide) rfl ?_
                                    refine v_goto X 189 dX12_knows_209 (by decide) ?_
                                    refine v_lv [1, 2, 3, 0] rfl ?_
                                    refine v_mem (M' := (mrow (mrow (mrow M 91 (bsRow (M 88) (M 89) (M 90) n.toNat 240 (filz (M 91) 240 9))) 92 (fun z => if M 89 k ≤ z ∧ z < (m2 + 1) then 1 else shRow (M 88) (M 89) (M 90) j (M 92) z)) 93 (rdRow (M 88) (M 89) (M 90) j (M 93)))) (by simp only [mu_mrow, mu_mrow_ne (i := 92) (j := 93) _ _ _ _ (by decide), row_one hm2.1]) rfl rfl ?_
                                    exact ih27 (m2 + 1) (by omega) (by omega)
                              refine v_lv [1, 2, 3, 0] rfl ?_
                              refine v_mem (M' := (mrow (mrow (mrow M 91 (bsRow (M 88) (M 89) (M 90) n.toNat 240 (filz (M 91) 240 9))) 92 (fun z => if M 89 k ≤ z ∧ z < (M 89 k) then 1 else shRow (M 88) (M 89) (M 90) j (M 92) z)) 93 (rdRow (M 88) (M 89) (M 90) j (M 93)))) (by rw [row_none]) rfl rfl ?_
                              exact hl26 _ (M 89 k) (by omega) (Nat.lt_succ_self _)
                            · skip
                              refine v_aload_n X 0 dX12_knows_172 rfl rfl ?_
                              refine gt_X12_factSort X iwX12 (Std.lt hS rfl) (Std.k hS rfl rfl) (List.mem_cons_of_mem _ bw_9_2) dX12_knows_173 88 (Std.r hS 54 rfl) ?_
                              refine v_iload_n X 2 dX12_knows_176 rfl rfl ?_
                              refine v_iald X (M 88 k) (Std.lt hS rfl) (Std.at hS rfl rfl) (by omega) (by omega) dX12_knows_177 rfl (fun hr32 => ?_)
                              refine v_iconst X dX12_knows_178 ?_
                              refine v_icmp_ne X 212 dX12_knows_179 (by decide) ⟨by omega, by omega⟩ ⟨by decide, by decide⟩ (fun u33 => ?_) (fun u33 => ?_)
                              · skip
                                refine v_iinc X 2 [(2, .int (iz (k + 1))), (0, .ref (ad 53)), (1, .int (iz n))] dX12_knows_212 rfl (by decide) rfl ?_
                                refine v_goto X 130 dX12_knows_215 (by decide) ?_
                                refine v_lv [1, 2, 0] rfl ?_
                                refine v_mem (M' := (mrow (mrow (mrow M 91 (bsRow (M 88) (M 89) (M 90) n.toNat 240 (filz (M 91) 240 9))) 92 (shRow (M 88) (M 89) (M 90) (j + 1) (M 92))) 93 (rdRow (M 88) (M 89) (M 90) (j + 1) (M 93)))) (by subst ek; rw [row_rdn (by omega), row_shn (by omega)]) rfl rfl ?_
                                exact ih17 (k + 1) (j + 1) (by omega) (by omega) (by omega)
                              · skip
                                refine v_aload_n X 0 dX12_knows_182 rfl rfl ?_
                                refine gt_X12_factA X iwX12 (Std.lt hS rfl) (Std.k hS rfl rfl) (List.mem_cons_of_mem _ bw_9_3) dX12_knows_183 89 (Std.r hS 55 rfl) ?_
                                refine v_iload_n X 2 dX12_knows_186 rfl rfl ?_
                                refine v_iald X (M 89 k) (Std.lt hS rfl) (Std.at hS rfl rfl) (by omega) (by omega) dX12_knows_187 rfl (fun hr34 => ?_)
                                refine v_istore_n X [(3, .int (iz (M 89 k))), (0, .ref (ad 53)), (1, .int (iz n)), (2, .int (iz k))] dX12_knows_188 rfl (by decide) rfl ?_
                                have hl35 : ∀ (n37 : Nat) (m2 : Int), (M 89 k ≤ m2 ∧ m2 ≤ M 90 k) → (240 - m2).toNat < n37 → V K 4 0 0 N sh ad (mrow (mrow (mrow M 91 (bsRow (M 88) (M 89) (M 90) n.toNat 240 (filz (M 91) 240 9))) 92 (fun z => if M 89 k ≤ z ∧ z < m2 then 1 else shRow (M 88) (M 89) (M 90) j (M 92) z)) 93 (rdRow (M 88) (M 89) (M 90) j (M 93))) L R [(0, .ref (ad 53)), (1, .int (iz n)), (2, .int (iz k)), (3, .int (iz m2))] [] 189 := by
                                  intro n37
                                  induction n37 with
                                  | zero => intro m2 hm2 hn38; exact absurd hn38 (Nat.not_lt_zero _)
                                  | succ n37 ih36 =>
                                    intro m2 hm2 hn38
                                    refine v_iload_n X 3 dX12_knows_189 rfl rfl ?_
                                    refine v_aload_n X 0 dX12_knows_190 rfl rfl ?_
                                    refine gt_X12_factB X iwX12 (Std.lt hS rfl) (Std.k hS rfl rfl) (List.mem_cons_of_mem _ bw_9_4) dX12_knows_191 90 (Std.r hS 56 rfl) ?_
                                    refine v_iload_n X 2 dX12_knows_194 rfl rfl ?_
                                    refine v_iald X (M 90 k) (Std.lt hS rfl) (Std.at hS rfl rfl) (by omega) (by omega) dX12_knows_195 rfl (fun hr39 => ?_)
                                    refine v_icmp_ge X 212 dX12_knows_196 (by decide) ⟨by omega, by omega⟩ ⟨by omega, by omega⟩ (fun u40 => ?_) (fun u40 => ?_)
                                    · skip
                                      refine v_iinc X 2 [(2, .int (iz (k + 1))), (0, .ref (ad 53)), (1, .int (iz n)), (3, .int (iz m2))] dX12_knows_212 rfl (by decide) rfl ?_
                                      refine v_goto X 130 dX12_knows_215 (by decide) ?_
                                      refine v_lv [1, 2, 0] rfl ?_
                                      refine v_mem (M' := (mrow (mrow (mrow M 91 (bsRow (M 88) (M 89) (M 90) n.toNat 240 (filz (M 91) 240 9))) 92 (shRow (M 88) (M 89) (M 90) (j + 1) (M 92))) 93 (rdRow (M 88) (M 89) (M 90) (j + 1) (M 93)))) (by subst ek; rw [row_sh (by omega) (by omega) (by omega), row_rdn (by omega)]) rfl rfl ?_
                                      exact ih17 (k + 1) (j + 1) (by omega) (by omega) (by omega)
                                    · skip
                                      refine v_aload_n X 0 dX12_knows_199 rfl rfl ?_
                                      refine gt_X12_isShut X iwX12 (Std.lt hS rfl) (Std.k hS rfl rfl) (List.mem_cons_of_mem _ bw_9_6) dX12_knows_200 92 (Std.r hS 58 rfl) ?_
                                      refine v_iload_n X 3 dX12_knows_203 rfl rfl ?_
                                      refine v_iconst X dX12_knows_204 ?_
                                      refine v_zast X (Std.lt hS rfl) (Std.at hS rfl rfl) (by omega) (by omega) ⟨by decide, by decide⟩ dX12_knows_205 ?_
                                      refine v_iinc X 3 [(3, .int (iz (m2 + 1))), (0, .ref (ad 53)), (1, .int (iz n)), (2, .int (iz k))] dX12_knows_206 rfl (by decide) rfl ?_
                                      refine v_goto X 189 dX12_knows_209 (by decide) ?_
                                      refine v_lv [1, 2, 3, 0] rfl ?_
                                      refine v_mem (M' := (mrow (mrow (mrow M 91 (bsRow (M 88) (M 89) (M 90) n.toNat 240 (filz (M 91) 240 9))) 92 (fun z => if M 89 k ≤ z ∧ z < (m2 + 1) then 1 else shRow (M 88) (M 89) (M 90) j (M 92) z)) 93 (rdRow (M 88) (M 89) (M 90) j (M 93)))) (by simp only [mu_mrow, mu_mrow_ne (i := 92) (j := 93) _ _ _ _ (by decide), row_one hm2.1]) rfl rfl ?_
                                      exact ih36 (m2 + 1) (by omega) (by omega)
                                refine v_lv [1, 2, 3, 0] rfl ?_
                                refine v_mem (M' := (mrow (mrow (mrow M 91 (bsRow (M 88) (M 89) (M 90) n.toNat 240 (filz (M 91) 240 9))) 92 (fun z => if M 89 k ≤ z ∧ z < (M 89 k) then 1 else shRow (M 88) (M 89) (M 90) j (M 92) z)) 93 (rdRow (M 88) (M 89) (M 90) j (M 93)))) (by rw [row_none]) rfl rfl ?_
                                exact hl35 _ (M 89 k) (by omega) (Nat.lt_succ_self _)
                          · skip
                            refine v_aload_n X 0 dX12_knows_145 rfl rfl ?_
                            refine gt_X12_readyAt X iwX12 (Std.lt hS rfl) (Std.k hS rfl rfl) (List.mem_cons_of_mem _ bw_9_7) dX12_knows_146 93 (Std.r hS 59 rfl) ?_
                            refine v_aload_n X 0 dX12_knows_149 rfl rfl ?_
                            refine gt_X12_factA X iwX12 (Std.lt hS rfl) (Std.k hS rfl rfl) (List.mem_cons_of_mem _ bw_9_3) dX12_knows_150 89 (Std.r hS 55 rfl) ?_
                            refine v_iload_n X 2 dX12_knows_153 rfl rfl ?_
                            refine v_iald X (M 89 k) (Std.lt hS rfl) (Std.at hS rfl rfl) (by omega) (by omega) dX12_knows_154 rfl (fun hr41 => ?_)
                            refine v_aload_n X 0 dX12_knows_155 rfl rfl ?_
                            refine gt_X12_factB X iwX12 (Std.lt hS rfl) (Std.k hS rfl rfl) (List.mem_cons_of_mem _ bw_9_4) dX12_knows_156 90 (Std.r hS 56 rfl) ?_
                            refine v_iload_n X 2 dX12_knows_159 rfl rfl ?_
                            refine v_iald X (M 90 k) (Std.lt hS rfl) (Std.at hS rfl rfl) (by omega) (by omega) dX12_knows_160 rfl (fun hr42 => ?_)
                            refine v_iast X (Std.lt hS rfl) (Std.at hS rfl rfl) (by omega) (by omega) ⟨by omega, by omega⟩ dX12_knows_161 ?_
                            refine v_aload_n X 0 dX12_knows_162 rfl rfl ?_
                            refine gt_X12_factSort X iwX12 (Std.lt hS rfl) (Std.k hS rfl rfl) (List.mem_cons_of_mem _ bw_9_2) dX12_knows_163 88 (Std.r hS 54 rfl) ?_
                            refine v_iload_n X 2 dX12_knows_166 rfl rfl ?_
                            refine v_iald X (M 88 k) (Std.lt hS rfl) (Std.at hS rfl rfl) (by omega) (by omega) dX12_knows_167 rfl (fun hr43 => ?_)
                            refine v_iconst X dX12_knows_168 ?_
                            refine v_icmp_eq X 182 dX12_knows_169 (by decide) ⟨by omega, by omega⟩ ⟨by decide, by decide⟩ (fun u44 => ?_) (fun u44 => ?_)
                            · skip
                              refine v_aload_n X 0 dX12_knows_182 rfl rfl ?_
                              refine gt_X12_factA X iwX12 (Std.lt hS rfl) (Std.k hS rfl rfl) (List.mem_cons_of_mem _ bw_9_3) dX12_knows_183 89 (Std.r hS 55 rfl) ?_
                              refine v_iload_n X 2 dX12_knows_186 rfl rfl ?_
                              refine v_iald X (M 89 k) (Std.lt hS rfl) (Std.at hS rfl rfl) (by omega) (by omega) dX12_knows_187 rfl (fun hr45 => ?_)
                              refine v_istore_n X [(3, .int (iz (M 89 k))), (0, .ref (ad 53)), (1, .int (iz n)), (2, .int (iz k))] dX12_knows_188 rfl (by decide) rfl ?_
                              have hl46 : ∀ (n48 : Nat) (m2 : Int), (M 89 k ≤ m2 ∧ m2 ≤ M 90 k) → (240 - m2).toNat < n48 → V K 4 0 0 N sh ad (mrow (mrow (mrow M 91 (bsRow (M 88) (M 89) (M 90) n.toNat 240 (filz (M 91) 240 9))) 92 (fun z => if M 89 k ≤ z ∧ z < m2 then 1 else shRow (M 88) (M 89) (M 90) j (M 92) z)) 93 (rdRow (M 88) (M 89) (M 90) j (M 93))) L R [(0, .ref (ad 53)), (1, .int (iz n)), (2, .int (iz k)), (3, .int (iz m2))] [] 189 := by
                                intro n48
                                induction n48 with
                                | zero => intro m2 hm2 hn49; exact absurd hn49 (Nat.not_lt_zero _)
                                | succ n48 ih47 =>
                                  intro m2 hm2 hn49
                                  refine v_iload_n X 3 dX12_knows_189 rfl rfl ?_
                                  refine v_aload_n X 0 dX12_knows_190 rfl rfl ?_
                                  refine gt_X12_factB X iwX12 (Std.lt hS rfl) (Std.k hS rfl rfl) (List.mem_cons_of_mem _ bw_9_4) dX12_knows_191 90 (Std.r hS 56 rfl) ?_
                                  refine v_iload_n X 2 dX12_knows_194 rfl rfl ?_
                                  refine v_iald X (M 90 k) (Std.lt hS rfl) (Std.at hS rfl rfl) (by omega) (by omega) dX12_knows_195 rfl (fun hr50 => ?_)
                                  refine v_icmp_ge X 212 dX12_knows_196 (by decide) ⟨by omega, by omega⟩ ⟨by omega, by omega⟩ (fun u51 => ?_) (fun u51 => ?_)
                                  · skip
                                    refine v_iinc X 2 [(2, .int (iz (k + 1))), (0, .ref (ad 53)), (1, .int (iz n)), (3, .int (iz m2))] dX12_knows_212 rfl (by decide) rfl ?_
                                    refine v_goto X 130 dX12_knows_215 (by decide) ?_
                                    refine v_lv [1, 2, 0] rfl ?_
                                    refine v_mem (M' := (mrow (mrow (mrow M 91 (bsRow (M 88) (M 89) (M 90) n.toNat 240 (filz (M 91) 240 9))) 92 (shRow (M 88) (M 89) (M 90) (j + 1) (M 92))) 93 (rdRow (M 88) (M 89) (M 90) (j + 1) (M 93)))) (by subst ek; rw [row_sh (by omega) (by omega) (by omega), row_rdn (by omega)]) rfl rfl ?_
                                    exact ih17 (k + 1) (j + 1) (by omega) (by omega) (by omega)
                                  · skip
                                    refine v_aload_n X 0 dX12_knows_199 rfl rfl ?_
                                    refine gt_X12_isShut X iwX12 (Std.lt hS rfl) (Std.k hS rfl rfl) (List.mem_cons_of_mem _ bw_9_6) dX12_knows_200 92 (Std.r hS 58 rfl) ?_
                                    refine v_iload_n X 3 dX12_knows_203 rfl rfl ?_
                                    refine v_iconst X dX12_knows_204 ?_
                                    refine v_zast X (Std.lt hS rfl) (Std.at hS rfl rfl) (by omega) (by omega) ⟨by decide, by decide⟩ dX12_knows_205 ?_
                                    refine v_iinc X 3 [(3, .int (iz (m2 + 1))), (0, .ref (ad 53)), (1, .int (iz n)), (2, .int (iz k))] dX12_knows_206 rfl (by decide) rfl ?_
                                    refine v_goto X 189 dX12_knows_209 (by decide) ?_
                                    refine v_lv [1, 2, 3, 0] rfl ?_
                                    refine v_mem (M' := (mrow (mrow (mrow M 91 (bsRow (M 88) (M 89) (M 90) n.toNat 240 (filz (M 91) 240 9))) 92 (fun z => if M 89 k ≤ z ∧ z < (m2 + 1) then 1 else shRow (M 88) (M 89) (M 90) j (M 92) z)) 93 (rdRow (M 88) (M 89) (M 90) j (M 93)))) (by simp only [mu_mrow, mu_mrow_ne (i := 92) (j := 93) _ _ _ _ (by decide), row_one hm2.1]) rfl rfl ?_
                                    exact ih47 (m2 + 1) (by omega) (by omega)
                              refine v_lv [1, 2, 3, 0] rfl ?_
                              refine v_mem (M' := (mrow (mrow (mrow M 91 (bsRow (M 88) (M 89) (M 90) n.toNat 240 (filz (M 91) 240 9))) 92 (fun z => if M 89 k ≤ z ∧ z < (M 89 k) then 1 else shRow (M 88) (M 89) (M 90) j (M 92) z)) 93 (rdRow (M 88) (M 89) (M 90) j (M 93)))) (by exfalso; omega) rfl rfl ?_
                              exact hl46 _ (M 89 k) (by omega) (Nat.lt_succ_self _)
                            · skip
                              refine v_aload_n X 0 dX12_knows_172 rfl rfl ?_
                              refine gt_X12_factSort X iwX12 (Std.lt hS rfl) (Std.k hS rfl rfl) (List.mem_cons_of_mem _ bw_9_2) dX12_knows_173 88 (Std.r hS 54 rfl) ?_
                              refine v_iload_n X 2 dX12_knows_176 rfl rfl ?_
                              refine v_iald X (M 88 k) (Std.lt hS rfl) (Std.at hS rfl rfl) (by omega) (by omega) dX12_knows_177 rfl (fun hr52 => ?_)
                              refine v_iconst X dX12_knows_178 ?_
                              refine v_icmp_ne X 212 dX12_knows_179 (by decide) ⟨by omega, by omega⟩ ⟨by decide, by decide⟩ (fun u53 => ?_) (fun u53 => ?_)
                              · skip
                                refine v_iinc X 2 [(2, .int (iz (k + 1))), (0, .ref (ad 53)), (1, .int (iz n))] dX12_knows_212 rfl (by decide) rfl ?_
                                refine v_goto X 130 dX12_knows_215 (by decide) ?_
                                refine v_lv [1, 2, 0] rfl ?_
                                refine v_mem (M' := (mrow (mrow (mrow M 91 (bsRow (M 88) (M 89) (M 90) n.toNat 240 (filz (M 91) 240 9))) 92 (shRow (M 88) (M 89) (M 90) (j + 1) (M 92))) 93 (rdRow (M 88) (M 89) (M 90) (j + 1) (M 93)))) (by simp only [mu_mrow]; subst ek; rw [row_rd (by omega) (by omega), row_shn (by omega)]) rfl rfl ?_
                                exact ih17 (k + 1) (j + 1) (by omega) (by omega) (by omega)
                              · skip
                                refine v_aload_n X 0 dX12_knows_182 rfl rfl ?_
                                refine gt_X12_factA X iwX12 (Std.lt hS rfl) (Std.k hS rfl rfl) (List.mem_cons_of_mem _ bw_9_3) dX12_knows_183 89 (Std.r hS 55 rfl) ?_
                                refine v_iload_n X 2 dX12_knows_186 rfl rfl ?_
                                refine v_iald X (M 89 k) (Std.lt hS rfl) (Std.at hS rfl rfl) (by omega) (by omega) dX12_knows_187 rfl (fun hr54 => ?_)
                                refine v_istore_n X [(3, .int (iz (M 89 k))), (0, .ref (ad 53)), (1, .int (iz n)), (2, .int (iz k))] dX12_knows_188 rfl (by decide) rfl ?_
                                have hl55 : ∀ (n57 : Nat) (m2 : Int), (M 89 k ≤ m2 ∧ m2 ≤ M 90 k) → (240 - m2).toNat < n57 → V K 4 0 0 N sh ad (mrow (mrow (mrow M 91 (bsRow (M 88) (M 89) (M 90) n.toNat 240 (filz (M 91) 240 9))) 92 (fun z => if M 89 k ≤ z ∧ z < m2 then 1 else shRow (M 88) (M 89) (M 90) j (M 92) z)) 93 (rdRow (M 88) (M 89) (M 90) j (M 93))) L R [(0, .ref (ad 53)), (1, .int (iz n)), (2, .int (iz k)), (3, .int (iz m2))] [] 189 := by
                                  intro n57
                                  induction n57 with
                                  | zero => intro m2 hm2 hn58; exact absurd hn58 (Nat.not_lt_zero _)
                                  | succ n57 ih56 =>
                                    intro m2 hm2 hn58
                                    refine v_iload_n X 3 dX12_knows_189 rfl rfl ?_
                                    refine v_aload_n X 0 dX12_knows_190 rfl rfl ?_
                                    refine gt_X12_factB X iwX12 (Std.lt hS rfl) (Std.k hS rfl rfl) (List.mem_cons_of_mem _ bw_9_4) dX12_knows_191 90 (Std.r hS 56 rfl) ?_
                                    refine v_iload_n X 2 dX12_knows_194 rfl rfl ?_
                                    refine v_iald X (M 90 k) (Std.lt hS rfl) (Std.at hS rfl rfl) (by omega) (by omega) dX12_knows_195 rfl (fun hr59 => ?_)
                                    refine v_icmp_ge X 212 dX12_knows_196 (by decide) ⟨by omega, by omega⟩ ⟨by omega, by omega⟩ (fun u60 => ?_) (fun u60 => ?_)
                                    · skip
                                      refine v_iinc X 2 [(2, .int (iz (k + 1))), (0, .ref (ad 53)), (1, .int (iz n)), (3, .int (iz m2))] dX12_knows_212 rfl (by decide) rfl ?_
                                      refine v_goto X 130 dX12_knows_215 (by decide) ?_
                                      refine v_lv [1, 2, 0] rfl ?_
                                      refine v_mem (M' := (mrow (mrow (mrow M 91 (bsRow (M 88) (M 89) (M 90) n.toNat 240 (filz (M 91) 240 9))) 92 (shRow (M 88) (M 89) (M 90) (j + 1) (M 92))) 93 (rdRow (M 88) (M 89) (M 90) (j + 1) (M 93)))) (by subst ek; rw [row_sh (by omega) (by omega) (by omega), row_rdn (by omega)]) rfl rfl ?_
                                      exact ih17 (k + 1) (j + 1) (by omega) (by omega) (by omega)
                                    · skip
                                      refine v_aload_n X 0 dX12_knows_199 rfl rfl ?_
                                      refine gt_X12_isShut X iwX12 (Std.lt hS rfl) (Std.k hS rfl rfl) (List.mem_cons_of_mem _ bw_9_6) dX12_knows_200 92 (Std.r hS 58 rfl) ?_
                                      refine v_iload_n X 3 dX12_knows_203 rfl rfl ?_
                                      refine v_iconst X dX12_knows_204 ?_
                                      refine v_zast X (Std.lt hS rfl) (Std.at hS rfl rfl) (by omega) (by omega) ⟨by decide, by decide⟩ dX12_knows_205 ?_
                                      refine v_iinc X 3 [(3, .int (iz (m2 + 1))), (0, .ref (ad 53)), (1, .int (iz n)), (2, .int (iz k))] dX12_knows_206 rfl (by decide) rfl ?_
                                      refine v_goto X 189 dX12_knows_209 (by decide) ?_
                                      refine v_lv [1, 2, 3, 0] rfl ?_
                                      refine v_mem (M' := (mrow (mrow (mrow M 91 (bsRow (M 88) (M 89) (M 90) n.toNat 240 (filz (M 91) 240 9))) 92 (fun z => if M 89 k ≤ z ∧ z < (m2 + 1) then 1 else shRow (M 88) (M 89) (M 90) j (M 92) z)) 93 (rdRow (M 88) (M 89) (M 90) j (M 93)))) (by simp only [mu_mrow, mu_mrow_ne (i := 92) (j := 93) _ _ _ _ (by decide), row_one hm2.1]) rfl rfl ?_
                                      exact ih56 (m2 + 1) (by omega) (by omega)
                                refine v_lv [1, 2, 3, 0] rfl ?_
                                refine v_mem (M' := (mrow (mrow (mrow M 91 (bsRow (M 88) (M 89) (M 90) n.toNat 240 (filz (M 91) 240 9))) 92 (fun z => if M 89 k ≤ z ∧ z < (M 89 k) then 1 else shRow (M 88) (M 89) (M 90) j (M 92) z)) 93 (rdRow (M 88) (M 89) (M 90) j (M 93)))) (by exfalso; omega) rfl rfl ?_
                                exact hl55 _ (M 89 k) (by omega) (Nat.lt_succ_self _)
                    refine v_lv [1, 2, 0] rfl ?_
                    refine v_mem (M' := (mrow (mrow (mrow M 91 (bsRow (M 88) (M 89) (M 90) n.toNat 240 (filz (M 91) 240 9))) 92 (shRow (M 88) (M 89) (M 90) 0 (M 92))) 93 (rdRow (M 88) (M 89) (M 90) 0 (M 93)))) (by obtain rfl : m = 240 := (by omega); rw [row_rd0, row_sh0]) rfl rfl ?_
                    exact hl16 _ 0 0 (by omega) (by omega) (Nat.lt_succ_self _)
                  · skip
                    refine v_iload_n X 2 dX12_knows_60 rfl rfl ?_
                    refine v_if_le X 78 dX12_knows_61 (by decide) ⟨by omega, by omega⟩ (fun u61 => ?_) (fun u61 => ?_)
                    · skip
                      refine v_iconst X dX12_knows_78 ?_
                      refine v_istore_n X [(3, .int (iz 0)), (0, .ref (ad 53)), (1, .int (iz n)), (2, .int (iz m))] dX12_knows_79 rfl (by decide) rfl ?_
                      have hl62 : ∀ (n64 : Nat) (k : Int) (j : Nat), (k = (j : Int)) → (k ≤ n) → (n - k).toNat < n64 → V K 4 0 0 N sh ad (mrow (mrow (mrow M 91 (fun z => if z = m then lastB (M 88) (M 89) (M 90) m (bsPre (M 88) (M 89) (M 90) n.toNat m) j else (bsRow (M 88) (M 89) (M 90) n.toNat m (filz (M 91) 240 9)) z)) 92 (filz (M 92) 240 0)) 93 (filz (M 93) 6 0)) L R [(0, .ref (ad 53)), (1, .int (iz n)), (2, .int (iz m)), (3, .int (iz k))] [] 80 := by
                        intro n64
                        induction n64 with
                        | zero => intro k j ek hk hn65; exact absurd hn65 (Nat.not_lt_zero _)
                        | succ n64 ih63 =>
                          intro k j ek hk hn65
                          have hFk := hF k (by omega)
                          have hF9 : k < n → FactOk (M 88 k) (M 89 k) (M 90 k) := fun q => hF k (by omega) q
                          unfold FactOk at hFk
                          refine v_iload_n X 3 dX12_knows_80 rfl rfl ?_
                          refine v_iload_n X 1 dX12_knows_81 rfl rfl ?_
                          refine v_icmp_ge X 122 dX12_knows_82 (by decide) ⟨by omega, by omega⟩ ⟨by omega, by omega⟩ (fun u66 => ?_) (fun u66 => ?_)
                          · skip
                            refine v_iinc X 2 [(2, .int (iz (m + 1))), (0, .ref (ad 53)), (1, .int (iz n)), (3, .int (iz k))] dX12_knows_122 rfl (by decide) rfl ?_
                            refine v_goto X 53 dX12_knows_125 (by decide) ?_
                            refine v_lv [1, 2, 0] rfl ?_
                            refine v_mem (M' := (mrow (mrow (mrow M 91 (bsRow (M 88) (M 89) (M 90) n.toNat (m + 1) (filz (M 91) 240 9))) 92 (filz (M 92) 240 0)) 93 (filz (M 93) 6 0))) (by obtain rfl : j = n.toNat := (by omega); rw [row_in hm.1]) rfl rfl ?_
                            exact ih12 (m + 1) (by omega) (by omega)
                          · skip
                            refine v_aload_n X 0 dX12_knows_85 rfl rfl ?_
                            refine gt_X12_factSort X iwX12 (Std.lt hS rfl) (Std.k hS rfl rfl) (List.mem_cons_of_mem _ bw_9_2) dX12_knows_86 88 (Std.r hS 54 rfl) ?_
                            refine v_iload_n X 3 dX12_knows_89 rfl rfl ?_
                            refine v_iald X (M 88 k) (Std.lt hS rfl) (Std.at hS rfl rfl) (by omega) (by omega) dX12_knows_90 rfl (fun hr67 => ?_)
                            refine v_if_ne X 116 dX12_knows_91 (by decide) ⟨by omega, by omega⟩ (fun u68 => ?_) (fun u68 => ?_)
                            · skip
                              refine v_iinc X 3 [(3, .int (iz (k + 1))), (0, .ref (ad 53)), (1, .int (iz n)), (2, .int (iz m))] dX12_knows_116 rfl (by decide) rfl ?_
                              refine v_goto X 80 dX12_knows_119 (by decide) ?_
                              refine v_lv [1, 2, 3, 0] rfl ?_
                              refine v_mem (M' := (mrow (mrow (mrow M 91 (fun z => if z = m then lastB (M 88) (M 89) (M 90) m (bsPre (M 88) (M 89) (M 90) n.toNat m) (j + 1) else (bsRow (M 88) (M 89) (M 90) n.toNat m (filz (M 91) 240 9)) z)) 92 (filz (M 92) 240 0)) 93 (filz (M 93) 6 0))) (by subst ek; rw [lastB_s, if_neg (by omega)]) rfl rfl ?_
                              exact ih63 (k + 1) (j + 1) (by omega) (by omega) (by omega)
                            · skip
                              refine v_aload_n X 0 dX12_knows_94 rfl rfl ?_
                              refine gt_X12_factA X iwX12 (Std.lt hS rfl) (Std.k hS rfl rfl) (List.mem_cons_of_mem _ bw_9_3) dX12_knows_95 89 (Std.r hS 55 rfl) ?_
                              refine v_iload_n X 3 dX12_knows_98 rfl rfl ?_
                              refine v_iald X (M 89 k) (Std.lt hS rfl) (Std.at hS rfl rfl) (by omega) (by omega) dX12_knows_99 rfl (fun hr69 => ?_)
                              refine v_iload_n X 2 dX12_knows_100 rfl rfl ?_
                              refine v_icmp_ne X 116 dX12_knows_101 (by decide) ⟨by omega, by omega⟩ ⟨by omega, by omega⟩ (fun u70 => ?_) (fun u70 => ?_)
                              · skip
                                refine v_iinc X 3 [(3, .int (iz (k + 1))), (0, .ref (ad 53)), (1, .int (iz n)), (2, .int (iz m))] dX12_knows_116 rfl (by decide) rfl ?_
                                refine v_goto X 80 dX12_knows_119 (by decide) ?_
                                refine v_lv [1, 2, 3, 0] rfl ?_
                                refine v_mem (M' := (mrow (mrow (mrow M 91 (fun z => if z = m then lastB (M 88) (M 89) (M 90) m (bsPre (M 88) (M 89) (M 90) n.toNat m) (j + 1) else (bsRow (M 88) (M 89) (M 90) n.toNat m (filz (M 91) 240 9)) z)) 92 (filz (M 92) 240 0)) 93 (filz (M 93) 6 0))) (by subst ek; rw [lastB_s, if_neg (by omega)]) rfl rfl ?_
                                exact ih63 (k + 1) (j + 1) (by omega) (by omega) (by omega)
                              · skip
                                refine v_aload_n X 0 dX12_knows_104 rfl rfl ?_
                                refine gt_X12_bases X iwX12 (Std.lt hS rfl) (Std.k hS rfl rfl) (List.mem_cons_of_mem _ bw_9_5) dX12_knows_105 91 (Std.r hS 57 rfl) ?_
                                refine v_iload_n X 2 dX12_knows_108 rfl rfl ?_
                                refine v_aload_n X 0 dX12_knows_109 rfl rfl ?_
                                refine gt_X12_factB X iwX12 (Std.lt hS rfl) (Std.k hS rfl rfl) (List.mem_cons_of_mem _ bw_9_4) dX12_knows_110 90 (Std.r hS 56 rfl) ?_
                                refine v_iload_n X 3 dX12_knows_113 rfl rfl ?_
                                refine v_iald X (M 90 k) (Std.lt hS rfl) (Std.at hS rfl rfl) (by omega) (by omega) dX12_knows_114 rfl (fun hr71 => ?_)
                                refine v_iast X (Std.lt hS rfl) (Std.at hS rfl rfl) (by omega) (by omega) ⟨by omega, by omega⟩ dX12_knows_115 ?_
                                refine v_iinc X 3 [(3, .int (iz (k + 1))), (0, .ref (ad 53)), (1, .int (iz n)), (2, .int (iz m))] dX12_knows_116 rfl (by decide) rfl ?_
                                refine v_goto X 80 dX12_knows_119 (by decide) ?_
                                refine v_lv [1, 2, 3, 0] rfl ?_
                                refine v_mem (M' := (mrow (mrow (mrow M 91 (fun z => if z = m then lastB (M 88) (M 89) (M 90) m (bsPre (M 88) (M 89) (M 90) n.toNat m) (j + 1) else (bsRow (M 88) (M 89) (M 90) n.toNat m (filz (M 91) 240 9)) z)) 92 (filz (M 92) 240 0)) 93 (filz (M 93) 6 0))) (by simp only [mu_mrow, mu_mrow_ne (i := 91) (j := 92) _ _ _ _ (by decide), mu_mrow_ne (i := 91) (j := 93) _ _ _ _ (by decide), row_over]; subst ek; rw [lastB_s, if_pos (by omega)]) rfl rfl ?_
                                exact ih63 (k + 1) (j + 1) (by omega) (by omega) (by omega)
                      refine v_lv [1, 2, 3, 0] rfl ?_
                      refine v_mem (M' := (mrow (mrow (mrow M 91 (fun z => if z = m then lastB (M 88) (M 89) (M 90) m (bsPre (M 88) (M 89) (M 90) n.toNat m) 0 else (bsRow (M 88) (M 89) (M 90) n.toNat m (filz (M 91) 240 9)) z)) 92 (filz (M 92) 240 0)) 93 (filz (M 93) 6 0))) (by show _ = mrow (mrow (mrow M 91 (fun z => if z = m then bsPre (M 88) (M 89) (M 90) n.toNat m else (bsRow (M 88) (M 89) (M 90) n.toNat m (filz (M 91) 240 9)) z)) 92 (filz (M 92) 240 0)) 93 (filz (M 93) 6 0); rw [row_same (f := (bsRow (M 88) (M 89) (M 90) n.toNat m (filz (M 91) 240 9))) (m := m)]; unfold bsPre; rw [if_pos (by omega)]; obtain rfl : m = 0 := (by omega); rw [row_bs0]; rfl) rfl rfl ?_
                      exact hl62 _ 0 0 (by omega) (by omega) (Nat.lt_succ_self _)
                    · skip
                      refine v_aload_n X 0 dX12_knows_64 rfl rfl ?_
                      refine gt_X12_bases X iwX12 (Std.lt hS rfl) (Std.k hS rfl rfl) (List.mem_cons_of_mem _ bw_9_5) dX12_knows_65 91 (Std.r hS 57 rfl) ?_
                      refine v_iload_n X 2 dX12_knows_68 rfl rfl ?_
                      refine v_aload_n X 0 dX12_knows_69 rfl rfl ?_
                      refine gt_X12_bases X iwX12 (Std.lt hS rfl) (Std.k hS rfl rfl) (List.mem_cons_of_mem _ bw_9_5) dX12_knows_70 91 (Std.r hS 57 rfl) ?_
                      refine v_iload_n X 2 dX12_knows_73 rfl rfl ?_
                      refine v_iconst X dX12_knows_74 ?_
                      refine v_isub X dX12_knows_75 ?_
                      refine v_iald X ((bsRow (M 88) (M 89) (M 90) n.toNat m (filz (M 91) 240 9)) (m - 1)) (Std.lt hS rfl) (Std.at hS rfl rfl) (by omega) (by omega) dX12_knows_76 rfl (fun hr72 => ?_)
                      refine v_iast X (Std.lt hS rfl) (Std.at hS rfl rfl) (by omega) (by omega) ⟨by omega, by omega⟩ dX12_knows_77 ?_
                      refine v_iconst X dX12_knows_78 ?_
                      refine v_istore_n X [(3, .int (iz 0)), (0, .ref (ad 53)), (1, .int (iz n)), (2, .int (iz m))] dX12_knows_79 rfl (by decide) rfl ?_
                      have hl73 : ∀ (n75 : Nat) (k : Int) (j : Nat), (k = (j : Int)) → (k ≤ n) → (n - k).toNat < n75 → V K 4 0 0 N sh ad (mrow (mrow (mrow M 91 (fun z => if z = m then lastB (M 88) (M 89) (M 90) m (bsPre (M 88) (M 89) (M 90) n.toNat m) j else (bsRow (M 88) (M 89) (M 90) n.toNat m (filz (M 91) 240 9)) z)) 92 (filz (M 92) 240 0)) 93 (filz (M 93) 6 0)) L R [(0, .ref (ad 53)), (1, .int (iz n)), (2, .int (iz m)), (3, .int (iz k))] [] 80 := by
                        intro n75
                        induction n75 with
                        | zero => intro k j ek hk hn76; exact absurd hn76 (Nat.not_lt_zero _)
                        | succ n75 ih74 =>
                          intro k j ek hk hn76
                          have hFk := hF k (by omega)
                          have hF9 : k < n → FactOk (M 88 k) (M 89 k) (M 90 k) := fun q => hF k (by omega) q
                          unfold FactOk at hFk
                          refine v_iload_n X 3 dX12_knows_80 rfl rfl ?_
                          refine v_iload_n X 1 dX12_knows_81 rfl rfl ?_
                          refine v_icmp_ge X 122 dX12_knows_82 (by decide) ⟨by omega, by omega⟩ ⟨by omega, by omega⟩ (fun u77 => ?_) (fun u77 => ?_)
                          · skip
                            refine v_iinc X 2 [(2, .int (iz (m + 1))), (0, .ref (ad 53)), (1, .int (iz n)), (3, .int (iz k))] dX12_knows_122 rfl (by decide) rfl ?_
                            refine v_goto X 53 dX12_knows_125 (by decide) ?_
                            refine v_lv [1, 2, 0] rfl ?_
                            refine v_mem (M' := (mrow (mrow (mrow M 91 (bsRow (M 88) (M 89) (M 90) n.toNat (m + 1) (filz (M 91) 240 9))) 92 (filz (M 92) 240 0)) 93 (filz (M 93) 6 0))) (by obtain rfl : j = n.toNat := (by omega); rw [row_in hm.1]) rfl rfl ?_
                            exact ih12 (m + 1) (by omega) (by omega)
                          · skip
                            refine v_aload_n X 0 dX12_knows_85 rfl rfl ?_
                            refine gt_X12_factSort X iwX12 (Std.lt hS rfl) (Std.k hS rfl rfl) (List.mem_cons_of_mem _ bw_9_2) dX12_knows_86 88 (Std.r hS 54 rfl) ?_
                            refine v_iload_n X 3 dX12_knows_89 rfl rfl ?_
                            refine v_iald X (M 88 k) (Std.lt hS rfl) (Std.at hS rfl rfl) (by omega) (by omega) dX12_knows_90 rfl (fun hr78 => ?_)
                            refine v_if_ne X 116 dX12_knows_91 (by decide) ⟨by omega, by omega⟩ (fun u79 => ?_) (fun u79 => ?_)
                            · skip
                              refine v_iinc X 3 [(3, .int (iz (k + 1))), (0, .ref (ad 53)), (1, .int (iz n)), (2, .int (iz m))] dX12_knows_116 rfl (by decide) rfl ?_
                              refine v_goto X 80 dX12_knows_119 (by decide) ?_
                              refine v_lv [1, 2, 3, 0] rfl ?_
                              refine v_mem (M' := (mrow (mrow (mrow M 91 (fun z => if z = m then lastB (M 88) (M 89) (M 90) m (bsPre (M 88) (M 89) (M 90) n.toNat m) (j + 1) else (bsRow (M 88) (M 89) (M 90) n.toNat m (filz (M 91) 240 9)) z)) 92 (filz (M 92) 240 0)) 93 (filz (M 93) 6 0))) (by subst ek; rw [lastB_s, if_neg (by omega)]) rfl rfl ?_
                              exact ih74 (k + 1) (j + 1) (by omega) (by omega) (by omega)
                            · skip
                              refine v_aload_n X 0 dX12_knows_94 rfl rfl ?_
                              refine gt_X12_factA X iwX12 (Std.lt hS rfl) (Std.k hS rfl rfl) (List.mem_cons_of_mem _ bw_9_3) dX12_knows_95 89 (Std.r hS 55 rfl) ?_
                              refine v_iload_n X 3 dX12_knows_98 rfl rfl ?_
                              refine v_iald X (M 89 k) (Std.lt hS rfl) (Std.at hS rfl rfl) (by omega) (by omega) dX12_knows_99 rfl (fun hr80 => ?_)
                              refine v_iload_n X 2 dX12_knows_100 rfl rfl ?_
                              refine v_icmp_ne X 116 dX12_knows_101 (by decide) ⟨by omega, by omega⟩ ⟨by omega, by omega⟩ (fun u81 => ?_) (fun u81 => ?_)
                              · skip
                                refine v_iinc X 3 [(3, .int (iz (k + 1))), (0, .ref (ad 53)), (1, .int (iz n)), (2, .int (iz m))] dX12_knows_116 rfl (by decide) rfl ?_
                                refine v_goto X 80 dX12_knows_119 (by decide) ?_
                                refine v_lv [1, 2, 3, 0] rfl ?_
                                refine v_mem (M' := (mrow (mrow (mrow M 91 (fun z => if z = m then lastB (M 88) (M 89) (M 90) m (bsPre (M 88) (M 89) (M 90) n.toNat m) (j + 1) else (bsRow (M 88) (M 89) (M 90) n.toNat m (filz (M 91) 240 9)) z)) 92 (filz (M 92) 240 0)) 93 (filz (M 93) 6 0))) (by subst ek; rw [lastB_s, if_neg (by omega)]) rfl rfl ?_
                                exact ih74 (k + 1) (j + 1) (by omega) (by omega) (by omega)
                              · skip
                                refine v_aload_n X 0 dX12_knows_104 rfl rfl ?_
                                refine gt_X12_bases X iwX12 (Std.lt hS rfl) (Std.k hS rfl rfl) (List.mem_cons_of_mem _ bw_9_5) dX12_knows_105 91 (Std.r hS 57 rfl) ?_
                                refine v_iload_n X 2 dX12_knows_108 rfl rfl ?_
                                refine v_aload_n X 0 dX12_knows_109 rfl rfl ?_
                                refine gt_X12_factB X iwX12 (Std.lt hS rfl) (Std.k hS rfl rfl) (List.mem_cons_of_mem _ bw_9_4) dX12_knows_110 90 (Std.r hS 56 rfl) ?_
                                refine v_iload_n X 3 dX12_knows_113 rfl rfl ?_
                                refine v_iald X (M 90 k) (Std.lt hS rfl) (Std.at hS rfl rfl) (by omega) (by omega) dX12_knows_114 rfl (fun hr82 => ?_)
                                refine v_iast X (Std.lt hS rfl) (Std.at hS rfl rfl) (by omega) (by omega) ⟨by omega, by omega⟩ dX12_knows_115 ?_
                                refine v_iinc X 3 [(3, .int (iz (k + 1))), (0, .ref (ad 53)), (1, .int (iz n)), (2, .int (iz m))] dX12_knows_116 rfl (by decide) rfl ?_
                                refine v_goto X 80 dX12_knows_119 (by decide) ?_
                                refine v_lv [1, 2, 3, 0] rfl ?_
                                refine v_mem (M' := (mrow (mrow (mrow M 91 (fun z => if z = m then lastB (M 88) (M 89) (M 90) m (bsPre (M 88) (M 89) (M 90) n.toNat m) (j + 1) else (bsRow (M 88) (M 89) (M 90) n.toNat m (filz (M 91) 240 9)) z)) 92 (filz (M 92) 240 0)) 93 (filz (M 93) 6 0))) (by simp only [mu_mrow, mu_mrow_ne (i := 91) (j := 92) _ _ _ _ (by decide), mu_mrow_ne (i := 91) (j := 93) _ _ _ _ (by decide), row_over]; subst ek; rw [lastB_s, if_pos (by omega)]) rfl rfl ?_
                                exact ih74 (k + 1) (j + 1) (by omega) (by omega) (by omega)
                      refine v_lv [1, 2, 3, 0] rfl ?_
                      refine v_mem (M' := (mrow (mrow (mrow M 91 (fun z => if z = m then lastB (M 88) (M 89) (M 90) m (bsPre (M 88) (M 89) (M 90) n.toNat m) 0 else (bsRow (M 88) (M 89) (M 90) n.toNat m (filz (M 91) 240 9)) z)) 92 (filz (M 92) 240 0)) 93 (filz (M 93) 6 0))) (by simp only [mu_mrow, mu_mrow_ne (i := 91) (j := 92) _ _ _ _ (by decide), mu_mrow_ne (i := 91) (j := 93) _ _ _ _ (by decide)]; show _ = mrow (mrow (mrow M 91 (fun z => if z = m then bsPre (M 88) (M 89) (M 90) n.toNat m else (bsRow (M 88) (M 89) (M 90) n.toNat m (filz (M 91) 240 9)) z)) 92 (filz (M 92) 240 0)) 93 (filz (M 93) 6 0); unfold bsPre; rw [if_neg (by omega)]; congr 4; funext z; congr 1; show (if 0 ≤ m - 1 ∧ m - 1 < m then _ else _) = _; rw [if_pos (by omega)]) rfl rfl ?_
                      exact hl73 _ 0 0 (by omega) (by omega) (Nat.lt_succ_self _)
              refine v_lv [1, 2, 0] rfl ?_
              refine v_mem (M' := (mrow (mrow (mrow M 91 (bsRow (M 88) (M 89) (M 90) n.toNat 0 (filz (M 91) 240 9))) 92 (filz (M 92) 240 0)) 93 (filz (M 93) 6 0))) (by obtain rfl : i = 6 := (by omega); rw [row_bs0]) rfl rfl ?_
              exact hl11 _ 0 (by omega) (Nat.lt_succ_self _)
            · skip
              refine v_aload_n X 0 dX12_knows_38 rfl rfl ?_
              refine gt_X12_readyAt X iwX12 (Std.lt hS rfl) (Std.k hS rfl rfl) (List.mem_cons_of_mem _ bw_9_7) dX12_knows_39 93 (Std.r hS 59 rfl) ?_
              refine v_iload_n X 2 dX12_knows_42 rfl rfl ?_
              refine v_iconst X dX12_knows_43 ?_
              refine v_iast X (Std.lt hS rfl) (Std.at hS rfl rfl) (by omega) (by omega) ⟨by decide, by decide⟩ dX12_knows_44 ?_
              refine v_iinc X 2 [(2, .int (iz (i + 1))), (0, .ref (ad 53)), (1, .int (iz n))] dX12_knows_45 rfl (by decide) rfl ?_
              refine v_goto X 32 dX12_knows_48 (by decide) ?_
              refine v_lv [1, 2, 0] rfl ?_
              refine v_mem (M' := (mrow (mrow (mrow M 91 (filz (M 91) 240 9)) 92 (filz (M 92) 240 0)) 93 (filz (M 93) (i + 1) 0))) (by simp only [mu_mrow, filz_f _ _ _ hi.1]) rfl rfl ?_
              exact ih7 (i + 1) (by omega) (by omega)
        refine v_lv [1, 2, 0] rfl ?_
        refine v_mem (M' := (mrow (mrow (mrow M 91 (filz (M 91) 240 9)) 92 (filz (M 92) 240 0)) 93 (filz (M 93) 0 0))) (by obtain rfl : i = 240 := (by omega); rw [filz_z]; exact (mrow_self _ 93).symm) rfl rfl ?_
        exact hl6 _ 0 (by omega) (Nat.lt_succ_self _)
      · skip
        refine v_aload_n X 0 dX12_knows_9 rfl rfl ?_
        refine gt_X12_bases X iwX12 (Std.lt hS rfl) (Std.k hS rfl rfl) (List.mem_cons_of_mem _ bw_9_5) dX12_knows_10 91 (Std.r hS 57 rfl) ?_
        refine v_iload_n X 2 dX12_knows_13 rfl rfl ?_
        refine v_bipush X dX12_knows_14 (by decide) ?_
        refine v_iast X (Std.lt hS rfl) (Std.at hS rfl rfl) (by omega) (by omega) ⟨by decide, by decide⟩ dX12_knows_16 ?_
        refine v_aload_n X 0 dX12_knows_17 rfl rfl ?_
        refine gt_X12_isShut X iwX12 (Std.lt hS rfl) (Std.k hS rfl rfl) (List.mem_cons_of_mem _ bw_9_6) dX12_knows_18 92 (Std.r hS 58 rfl) ?_
        refine v_iload_n X 2 dX12_knows_21 rfl rfl ?_
        refine v_iconst X dX12_knows_22 ?_
        refine v_zast X (Std.lt hS rfl) (Std.at hS rfl rfl) (by omega) (by omega) ⟨by decide, by decide⟩ dX12_knows_23 ?_
        refine v_iinc X 2 [(2, .int (iz (i + 1))), (0, .ref (ad 53)), (1, .int (iz n))] dX12_knows_24 rfl (by decide) rfl ?_
        refine v_goto X 2 dX12_knows_27 (by decide) ?_
        refine v_lv [1, 2, 0] rfl ?_
        refine v_mem (M' := (mrow (mrow M 91 (filz (M 91) (i + 1) 9)) 92 (filz (M 92) (i + 1) 0))) (by simp only [mu_mrow, mu_mrow_ne (i := 91) (j := 92) _ _ _ _ (by decide), filz_f _ _ _ hi.1]) rfl rfl ?_
        exact ih2 (i + 1) (by omega) (by omega)
  refine v_lv [1, 2, 0] rfl ?_
  refine v_mem (M' := (mrow (mrow M 91 (filz (M 91) 0 9)) 92 (filz (M 92) 0 0))) (by rw [filz_z, filz_z, mrow_self, mrow_self]) rfl rfl ?_
  exact hl1 _ 0 (by omega) (Nat.lt_succ_self _)

-- baseIn
set_option maxHeartbeats 4000000 in
set_option maxRecDepth 100000 in
theorem c_X12_baseIn (l : Launch) (D : va_G) (cy : Nat → ClassId) {N : Nat} {sh : MS} {ad : Nat → Nat} {M L : MI} {R : MR} (hS : Std N sh R) (m : Int) (n : Int) (hm : inR m) (hn : inR n) (hB : mBnd M) (hF : ∀ k : Int, 0 ≤ k → k < M 53 53 → FactOk (M 88 k) (M 89 k) (M 90 k)) : Ctr l D cy yX12_baseIn wsX12_baseIn ({ frames := 1, cells := 0, slots := 0, locals := 23 } : Room) N sh ad M L R [.ref (ad 53), .int (iz m), .int (iz n)] (eI N sh ad L R (fun r M' => if 0 ≤ m ∧ m < 240 ∧ 0 ≤ n ∧ n ≤ M 53 53 then r = bsAt (M 88) (M 89) (M 90) n.toNat m.toNat ∧ M' = mrow (mrow (mrow M 91 (bsRow (M 88) (M 89) (M 90) n.toNat 240 (M 91))) 92 (shRow (M 88) (M 89) (M 90) n.toNat (M 92))) 93 (rdRow (M 88) (M 89) (M 90) n.toNat (M 93)) else r = -1 ∧ M' = M)) := by
  refine Ctr.ofI (by decide) rfl (Nat.le_of_ble_eq_true rfl) ?_
  intro K hKl hKd hRm hnm X hret
  have X : VX K cX12_baseIn 3 wsX12_baseIn RX12 := X
  show V K 3 0 0 N sh ad M L R [(0, .ref (ad 53)), (1, .int (iz m)), (2, .int (iz n))] [] 0
  have b1 := hB.2.2.2.2.1
  refine v_iload_n X 1 dX12_baseIn_0 rfl rfl ?_
  refine v_callS X [.int (iz m)] hRm (c_X12_isMinute _ _ _ m ⟨by omega, by omega⟩) (gS bw_27_10 bw_27_11 bw_1_5 bw_27_12) rfl ddX12_isMinute (by decide) (Nat.le_of_ble_eq_true rfl) dX12_baseIn_1 (k_pB (fun b1 => ?_) (fun b1 => ?_))
  · skip
    refine v_if_eq X 15 dX12_baseIn_4 (by decide) ⟨by decide, by decide⟩ (fun q => absurd q (by decide)) (fun _ => ?_)
    refine v_aload_n X 0 dX12_baseIn_7 rfl rfl ?_
    refine v_iload_n X 2 dX12_baseIn_8 rfl rfl ?_
    refine v_callV X [.int (iz n)] hRm (c_X12_isKnown _ _ _ hS n ⟨by omega, by omega⟩) (gV bw_32_10 bw_32_11 bw_32_12 bw_1_5 bw_32_13) rfl ddX12_isKnown (by decide) (Std.lt hS rfl) (Std.k hS rfl rfl) ⟨rfl, by decide⟩ (Nat.le_of_ble_eq_true rfl) dX12_baseIn_9 (k_pB (fun b2 => ?_) (fun b2 => ?_))
    · skip
      refine v_if_ne X 17 dX12_baseIn_12 (by decide) ⟨by decide, by decide⟩ (fun _ => ?_) (fun q => absurd (by decide) q)
      refine v_aload_n X 0 dX12_baseIn_17 rfl rfl ?_
      refine v_iload_n X 2 dX12_baseIn_18 rfl rfl ?_
      refine v_callV X [.int (iz n)] hRm (c_X12_knows _ _ _ hS n (by omega) (fun k q1 q2 => hF k q1 (by omega))) (gV bw_32_14 bw_32_15 bw_32_16 bw_1_5 bw_32_17) rfl ddX12_knows (by decide) (Std.lt hS rfl) (Std.k hS rfl rfl) ⟨rfl, by decide⟩ (Nat.le_of_ble_eq_true rfl) dX12_baseIn_19 (k_eV (fun M4 e3 => ?_))
      replace e3 : M4 = (mrow (mrow (mrow M 91 (bsRow (M 88) (M 89) (M 90) n.toNat 240 (M 91))) 92 (shRow (M 88) (M 89) (M 90) n.toNat (M 92))) 93 (rdRow (M 88) (M 89) (M 90) n.toNat (M 93))) := e3
      subst e3
      refine v_aload_n X 0 dX12_baseIn_22 rfl rfl ?_
      refine gt_X12_bases X iwX12 (Std.lt hS rfl) (Std.k hS rfl rfl) (List.mem_cons_of_mem _ bw_9_5) dX12_baseIn_23 91 (Std.r hS 57 rfl) ?_
      refine v_iload_n X 1 dX12_baseIn_26 rfl rfl ?_
      refine v_iald X ((bsRow (M 88) (M 89) (M 90) n.toNat 240 (M 91)) m) (Std.lt hS rfl) (Std.at hS rfl rfl) (by omega) (by omega) dX12_baseIn_27 rfl (fun hr5 => ?_)
      refine hret _ _ _ _ _ _ _ _ _ _ _ (some (.int (iz ((bsRow (M 88) (M 89) (M 90) n.toNat 240 (M 91)) m)))) dX12_baseIn_28 ⟨rfl, _, rfl⟩ (by decide) (by decide) (fun hmok => ?_)
      refine ⟨rfl, rfl, rfl, rfl, rfl, ((bsRow (M 88) (M 89) (M 90) n.toNat 240 (M 91)) m), rfl, ⟨by omega, by omega⟩, ?_⟩
      try dsimp only
      rw [if_pos (by omega)]
      refine ⟨?_, rfl⟩
      unfold bsRow
      rw [if_pos (by omega)]
    · skip
      refine v_if_ne X 17 dX12_baseIn_12 (by decide) ⟨by decide, by decide⟩ (fun q => absurd q (by decide)) (fun _ => ?_)
      refine v_iconst X dX12_baseIn_15 ?_
      refine hret _ _ _ _ _ _ _ _ _ _ _ (some (.int (iz (-1)))) dX12_baseIn_16 ⟨rfl, _, rfl⟩ (by decide) (by decide) (fun hmok => ?_)
      refine ⟨rfl, rfl, rfl, rfl, rfl, (-1), rfl, ⟨by decide, by decide⟩, ?_⟩
      try dsimp only
      rw [if_neg (by omega)]
      exact ⟨rfl, rfl⟩
  · skip
    refine v_if_eq X 15 dX12_baseIn_4 (by decide) ⟨by decide, by decide⟩ (fun _ => ?_) (fun q => absurd (by decide) q)
    refine v_iconst X dX12_baseIn_15 ?_
    refine hret _ _ _ _ _ _ _ _ _ _ _ (some (.int (iz (-1)))) dX12_baseIn_16 ⟨rfl, _, rfl⟩ (by decide) (by decide) (fun hmok => ?_)
    refine ⟨rfl, rfl, rfl, rfl, rfl, (-1), rfl, ⟨by decide, by decide⟩, ?_⟩
    try dsimp only
    rw [if_neg (by omega)]
    exact ⟨rfl, rfl⟩

