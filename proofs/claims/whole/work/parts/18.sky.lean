/-! THE SKY: a fact more, bases carried on, how long the box is open -/
def lb14 (f : Int → Int) (k a b : Int) : Int → Int := if k = 0 then (fun z => if z = a then b else f z) else f
def lb16 (f : Int → Int) (k a b : Int) : Int → Int := if k = 2 then (fun z => if z = a then b else f z) else f
def lb15 (f : Int → Int) (k a b : Int) : Int → Int := if k = 1 then (fun z => if a ≤ z ∧ z < b then z else f z) else f
theorem row_oneZ {f : Int → Int} {a m : Int} (h : a ≤ m) : (fun z => if z = m then m else (if a ≤ z ∧ z < m then z else f z)) = fun z => if a ≤ z ∧ z < m + 1 then z else f z := by
  funext z
  repeat' split
  all_goals first | rfl | omega
theorem row_noneZ {f : Int → Int} {a : Int} : (fun z => if a ≤ z ∧ z < a then z else f z) = f := by
  funext z
  rw [if_neg (by omega)]
def caAt (g : Int → Int) : Nat → Int
  | 0 => if g 0 = -1 then 9 else g 0
  | m + 1 => if g ((m : Int) + 1) = -1 then caAt g m else g ((m : Int) + 1)
def caPre (g : Int → Int) (m : Int) : Int := if m ≤ 0 then 9 else caAt g (m - 1).toNat
theorem caAt_of (g : Int → Int) {m : Int} (h : 0 ≤ m) : caAt g m.toNat = if g m = -1 then caPre g m else g m := by
  unfold caPre
  by_cases h0 : m = 0
  · subst h0; rfl
  · rw [if_neg (by omega : ¬ m ≤ 0)]
    obtain ⟨k, rfl⟩ : ∃ k : Nat, m = (k : Int) + 1 := ⟨(m - 1).toNat, by omega⟩
    rw [show ((k : Int) + 1).toNat = k + 1 by omega, show ((k : Int) + 1 - 1).toNat = k by omega]
    rfl
theorem caPre_s (g : Int → Int) {m : Int} (h : 0 ≤ m) : caPre g (m + 1) = if g m = -1 then caPre g m else g m := by
  rw [← caAt_of g h]
  unfold caPre
  rw [if_neg (by omega), show (m + 1 - 1).toNat = m.toNat by omega]
def caRow (g : Int → Int) (m : Int) : Int → Int := fun z => if 0 ≤ z ∧ z < m then caAt g z.toNat else g z
theorem caRow_0 (g : Int → Int) : caRow g 0 = g := by funext z; unfold caRow; rw [if_neg (by omega)]
theorem caRow_y {g : Int → Int} {m : Int} (h : 0 ≤ m) (h1 : g m = -1) : (fun z => if z = m then caPre g m else caRow g m z) = caRow g (m + 1) := by
  funext z
  unfold caRow
  by_cases e : z = m
  · subst e; rw [if_pos rfl, if_pos (by omega), caAt_of g h, if_pos h1]
  · rw [if_neg e]
    by_cases q : 0 ≤ z ∧ z < m
    · rw [if_pos q, if_pos (by omega)]
    · rw [if_neg q, if_neg (by omega)]
theorem caRow_n {g : Int → Int} {m : Int} (h : 0 ≤ m) (h1 : g m ≠ -1) : caRow g m = caRow g (m + 1) := by
  funext z
  unfold caRow
  by_cases e : z = m
  · subst e; rw [if_neg (by omega), if_pos (by omega), caAt_of g h, if_neg h1]
  · by_cases q : 0 ≤ z ∧ z < m
    · rw [if_pos q, if_pos (by omega)]
    · rw [if_neg q, if_neg (by omega)]
def laAt (g : Int → Int) : Nat → Int
  | 0 => g 239
  | d + 1 => min (g (238 - (d : Int))) (laAt g d)
def laRow (g : Int → Int) (i : Int) : Int → Int := fun z => if i < z ∧ z < 240 then laAt g (239 - z).toNat else g z
theorem laRow_0 (g : Int → Int) : g = laRow g 238 := by
  funext z
  unfold laRow
  by_cases e : 238 < z ∧ z < 240
  · rw [if_pos e]
    obtain rfl : z = 239 := by omega
    rfl
  · rw [if_neg e]
theorem laRow_s {g : Int → Int} {i x : Int} (h : 0 ≤ i ∧ i ≤ 238) (hx : x = min (laRow g i i) (laRow g i (i + 1))) : (fun z => if z = i then x else laRow g i z) = laRow g (i - 1) := by
  have e1 : laRow g i i = g i := by unfold laRow; rw [if_neg (by omega)]
  have e2 : laRow g i (i + 1) = laAt g (238 - i).toNat := by unfold laRow; rw [if_pos (by omega)]; congr 1; omega
  funext z
  by_cases e : z = i
  · subst e
    rw [if_pos rfl, hx, e1, e2]
    unfold laRow
    rw [if_pos (by omega), show (239 - z).toNat = (238 - z).toNat + 1 by omega]
    show _ = min (g (238 - (((238 - z).toNat : Nat) : Int))) _
    rw [show (238 - (((238 - z).toNat : Nat) : Int)) = z by omega]
  · rw [if_neg e]
    unfold laRow
    by_cases q : i < z ∧ z < 240
    · rw [if_pos q, if_pos (by omega)]
    · rw [if_neg q, if_neg (by omega)]
def cbRow (S A B : Int → Int) (k : Nat) (f : Int → Int) : Int → Int := fun z => if 0 ≤ z ∧ z < 240 then lastB S A B z (-1) k else f z
def coRow (S A B : Int → Int) (k : Nat) (f : Int → Int) : Int → Int := fun z => if 0 ≤ z ∧ z < 240 then (if shAt S A B z k = 1 then z else 240) else f z
theorem cbRow_0 (S A B f : Int → Int) : cbRow S A B 0 f = filz f 240 (-1) := by funext z; unfold cbRow filz; rfl
theorem coRow_0 (S A B f : Int → Int) : coRow S A B 0 f = filz f 240 240 := by
  funext z
  unfold coRow filz
  by_cases e : 0 ≤ z ∧ z < 240
  · rw [if_pos e, if_pos e]; rfl
  · rw [if_neg e, if_neg e]
theorem cbRow_s (S A B f : Int → Int) (k : Nat) (h : FactOk (S (k : Int)) (A (k : Int)) (B (k : Int))) : lb14 (cbRow S A B k f) (S (k : Int)) (A (k : Int)) (B (k : Int)) = cbRow S A B (k + 1) f := by
  funext z
  have e : lastB S A B z (-1) (k + 1) = if S (k : Int) = 0 ∧ A (k : Int) = z then B (k : Int) else lastB S A B z (-1) k := rfl
  unfold lb14
  by_cases h0 : S (k : Int) = 0
  · rw [if_pos h0]
    show (if z = A (k : Int) then B (k : Int) else cbRow S A B k f z) = _
    unfold cbRow
    rw [e]
    by_cases q : z = A (k : Int)
    · rw [if_pos q, if_pos (by rcases h with q | q | q <;> omega), if_pos ⟨h0, q.symm⟩]
    · rw [if_neg q, if_neg (fun x : S (k : Int) = 0 ∧ A (k : Int) = z => q x.2.symm)]
  · rw [if_neg h0]
    unfold cbRow
    rw [e, if_neg (fun x : S (k : Int) = 0 ∧ A (k : Int) = z => h0 x.1)]
theorem rdRow_s (S A B f : Int → Int) (k : Nat) (h : FactOk (S (k : Int)) (A (k : Int)) (B (k : Int))) : lb16 (rdRow S A B k f) (S (k : Int)) (A (k : Int)) (B (k : Int)) = rdRow S A B (k + 1) f := by
  unfold lb16
  by_cases h0 : S (k : Int) = 2
  · rw [if_pos h0]
    exact row_rd h0 (by rcases h with q | q | q <;> omega)
  · rw [if_neg h0, row_rdn h0]
theorem coRow_s (S A B f : Int → Int) (k : Nat) (h : FactOk (S (k : Int)) (A (k : Int)) (B (k : Int))) (h3 : S (k : Int) ≠ 3) : lb15 (coRow S A B k f) (S (k : Int)) (A (k : Int)) (B (k : Int)) = coRow S A B (k + 1) f := by
  funext z
  have e : shAt S A B z (k + 1) = if (S (k : Int) = 1 ∨ S (k : Int) = 3) ∧ A (k : Int) ≤ z ∧ z < B (k : Int) then 1 else shAt S A B z k := rfl
  unfold lb15
  by_cases h0 : S (k : Int) = 1
  · rw [if_pos h0]
    show (if A (k : Int) ≤ z ∧ z < B (k : Int) then z else coRow S A B k f z) = _
    unfold coRow
    rw [e]
    by_cases q : A (k : Int) ≤ z ∧ z < B (k : Int)
    · rw [if_pos q, if_pos (show (S (k : Int) = 1 ∨ S (k : Int) = 3) ∧ A (k : Int) ≤ z ∧ z < B (k : Int) from ⟨Or.inl h0, q.1, q.2⟩), if_pos (show 0 ≤ z ∧ z < 240 by rcases h with q | q | q <;> omega)]
      rfl
    · rw [if_neg q, if_neg (fun x : (S (k : Int) = 1 ∨ S (k : Int) = 3) ∧ A (k : Int) ≤ z ∧ z < B (k : Int) => q x.2)]
  · rw [if_neg h0]
    unfold coRow
    rw [e, if_neg (fun x : (S (k : Int) = 1 ∨ S (k : Int) = 3) ∧ A (k : Int) ≤ z ∧ z < B (k : Int) => by have := x.1; omega)]
theorem lastB_alt {S A B : Int → Int} {m p : Int} {n : Nat} (hF : ∀ k : Int, 0 ≤ k → k < n → FactOk (S k) (A k) (B k)) : ∀ k : Nat, k ≤ n → lastB S A B m p k = if lastB S A B m (-1) k = -1 then p else lastB S A B m (-1) k
  | 0, _ => rfl
  | k + 1, h => by
    have ih := lastB_alt hF (m := m) (p := p) k (by omega)
    have h2 := hF (k : Int) (by omega) (by omega)
    rw [lastB_s, lastB_s]
    by_cases q : S (k : Int) = 0 ∧ A (k : Int) = m
    · rw [if_pos q, if_pos q, if_neg (by rcases h2 with z | z | z <;> omega)]
    · rw [if_neg q, if_neg q, ih]
theorem ca_bs {S A B f : Int → Int} {n : Nat} (hF : ∀ k : Int, 0 ≤ k → k < n → FactOk (S k) (A k) (B k)) (m : Nat) (hm : (m : Int) < 240) : caAt (cbRow S A B n f) m = bsAt S A B n m := by
  induction m with
  | zero =>
    have e : cbRow S A B n f 0 = lastB S A B 0 (-1) n := by unfold cbRow; rw [if_pos (by omega)]
    have e2 : caAt (cbRow S A B n f) 0 = if cbRow S A B n f 0 = -1 then 9 else cbRow S A B n f 0 := by rw [caAt]
    have e3 : bsAt S A B n 0 = lastB S A B 0 9 n := by rw [bsAt]
    rw [e2, e3, lastB_alt hF n (Nat.le_refl _), e]
  | succ m ih =>
    have ih := ih (by omega)
    have e : cbRow S A B n f ((m : Int) + 1) = lastB S A B ((m : Int) + 1) (-1) n := by unfold cbRow; rw [if_pos (by omega)]
    have e2 : caAt (cbRow S A B n f) (m + 1) = if cbRow S A B n f ((m : Int) + 1) = -1 then caAt (cbRow S A B n f) m else cbRow S A B n f ((m : Int) + 1) := by rw [caAt]
    have e3 : bsAt S A B n (m + 1) = lastB S A B ((m : Int) + 1) (bsAt S A B n m) n := by rw [bsAt]
    rw [e2, e3, ih, e, lastB_alt hF n (Nat.le_refl _) (p := bsAt S A B n m)]
theorem ca_row {S A B f : Int → Int} {n : Nat} (hF : ∀ k : Int, 0 ≤ k → k < n → FactOk (S k) (A k) (B k)) : caRow (cbRow S A B n f) 240 = bsRow S A B n 240 f := by
  funext z
  unfold caRow bsRow
  by_cases e : 0 ≤ z ∧ z < 240
  · rw [if_pos e, if_pos e, ca_bs hF _ (by omega)]
  · rw [if_neg e, if_neg e]
    unfold cbRow
    rw [if_neg e]
/-- the first shut minute from 240 - d on -/
def opAt (u : Int → Int) : Nat → Int
  | 0 => 240
  | d + 1 => if u (239 - (d : Int)) = 1 then 239 - (d : Int) else opAt u d
theorem opAt_in (u : Int → Int) : ∀ d : Nat, 240 - (d : Int) ≤ opAt u d ∧ opAt u d ≤ 240
  | 0 => ⟨by simp [opAt], by simp [opAt]⟩
  | d + 1 => by
    have := opAt_in u d
    show 240 - ((d + 1 : Nat) : Int) ≤ (if u (239 - (d : Int)) = 1 then 239 - (d : Int) else opAt u d) ∧ (if u (239 - (d : Int)) = 1 then 239 - (d : Int) else opAt u d) ≤ 240
    split <;> omega
def opRow (u f : Int → Int) : Int → Int := fun z => if 0 ≤ z ∧ z < 240 then opAt u (240 - z).toNat else f z
theorem la_op {S A B f : Int → Int} {n : Nat} : ∀ d : Nat, d < 240 → laAt (coRow S A B n f) d = opAt (fun z => shAt S A B z n) (d + 1)
  | 0, _ => by
    show coRow S A B n f 239 = if shAt S A B (239 - ((0 : Nat) : Int)) n = 1 then 239 - ((0 : Nat) : Int) else 240
    unfold coRow
    rw [if_pos (by omega)]
    rfl
  | d + 1, h => by
    have ih := la_op (S := S) (A := A) (B := B) (f := f) (n := n) d (by omega)
    have h2 := opAt_in (fun z => shAt S A B z n) (d + 1)
    show min (coRow S A B n f (238 - (d : Int))) (laAt (coRow S A B n f) d) = if shAt S A B (239 - ((d + 1 : Nat) : Int)) n = 1 then 239 - ((d + 1 : Nat) : Int) else opAt (fun z => shAt S A B z n) (d + 1)
    rw [ih, show (239 - ((d + 1 : Nat) : Int)) = 238 - (d : Int) by omega]
    unfold coRow
    rw [if_pos (by omega)]
    split <;> omega
theorem la_row {S A B f : Int → Int} {n : Nat} : laRow (coRow S A B n f) (-1) = opRow (fun z => shAt S A B z n) f := by
  funext z
  unfold laRow opRow
  by_cases e : 0 ≤ z ∧ z < 240
  · rw [if_pos (by omega), if_pos e, la_op _ (by omega)]
    congr 1
    omega
  · rw [if_neg (by omega), if_neg e]
    unfold coRow
    rw [if_neg e]

-- learnOne
set_option maxHeartbeats 4000000 in
set_option maxRecDepth 100000 in
theorem c_X8_learnOne (l : Launch) (D : va_G) (cy : Nat → ClassId) {N : Nat} {sh : MS} {ad : Nat → Nat} {M L : MI} {R : MR} (hS : Std N sh R) (k a b : Int) (hk : FactOk k a b) (h3 : k ≠ 3) : Ctr l D cy yX8_learnOne wsX8_learnOne ({ frames := 0, cells := 0, slots := 0, locals := 0 } : Room) N sh ad M L R [.ref (ad 13), .int (iz k), .int (iz a), .int (iz b)] (eV N sh ad L R (fun M' => M' = mrow (mrow (mrow M 14 (lb14 (M 14) k a b)) 15 (lb15 (M 15) k a b)) 16 (lb16 (M 16) k a b))) := by
  refine Ctr.ofV (by decide) rfl (Nat.le_of_ble_eq_true rfl) ?_
  intro K hKl hKd hRm hnm X hret
  have X : VX K cX8_learnOne 5 wsX8_learnOne RX8 := X
  show V K 5 0 0 N sh ad M L R [(0, .ref (ad 13)), (1, .int (iz k)), (2, .int (iz a)), (3, .int (iz b))] [] 0
  have hk0 := hk
  unfold FactOk at hk
  refine v_iload_n X 1 dX8_learnOne_0 rfl rfl ?_
  refine v_if_ne X 25 dX8_learnOne_1 (by decide) ⟨by omega, by omega⟩ (fun u1 => ?_) (fun u1 => ?_)
  · skip
    refine v_iload_n X 1 dX8_learnOne_25 rfl rfl ?_
    refine v_iconst X dX8_learnOne_26 ?_
    refine v_icmp_ne X 50 dX8_learnOne_27 (by decide) ⟨by omega, by omega⟩ ⟨by decide, by decide⟩ (fun u2 => ?_) (fun u2 => ?_)
    · skip
      refine v_iload_n X 1 dX8_learnOne_50 rfl rfl ?_
      refine v_iconst X dX8_learnOne_51 ?_
      refine v_icmp_ne X 90 dX8_learnOne_52 (by decide) ⟨by omega, by omega⟩ ⟨by decide, by decide⟩ (fun u3 => ?_) (fun u3 => ?_)
      · skip
        refine hret _ _ _ _ _ _ _ _ _ _ _ none dX8_learnOne_90 ⟨rfl, rfl⟩ (by decide) (by decide) (fun hmok => ?_)
        refine ⟨rfl, rfl, rfl, rfl, rfl, rfl, ?_⟩
        try dsimp only
        unfold lb14 lb15 lb16
        exfalso
        omega
      · skip
        refine v_iload_n X 2 dX8_learnOne_55 rfl rfl ?_
        refine v_if_lt X 90 dX8_learnOne_56 (by decide) ⟨by omega, by omega⟩ (fun u4 => ?_) (fun u4 => ?_)
        · skip
          refine hret _ _ _ _ _ _ _ _ _ _ _ none dX8_learnOne_90 ⟨rfl, rfl⟩ (by decide) (by decide) (fun hmok => ?_)
          refine ⟨rfl, rfl, rfl, rfl, rfl, rfl, ?_⟩
          try dsimp only
          unfold lb14 lb15 lb16
          exfalso
          omega
        · skip
          refine v_iload_n X 3 dX8_learnOne_59 rfl rfl ?_
          refine v_sipush X dX8_learnOne_60 (by decide) ?_
          refine v_icmp_gt X 90 dX8_learnOne_63 (by decide) ⟨by omega, by omega⟩ ⟨by decide, by decide⟩ (fun u5 => ?_) (fun u5 => ?_)
          · skip
            refine hret _ _ _ _ _ _ _ _ _ _ _ none dX8_learnOne_90 ⟨rfl, rfl⟩ (by decide) (by decide) (fun hmok => ?_)
            refine ⟨rfl, rfl, rfl, rfl, rfl, rfl, ?_⟩
            try dsimp only
            unfold lb14 lb15 lb16
            exfalso
            omega
          · skip
            refine v_iload_n X 2 dX8_learnOne_66 rfl rfl ?_
            refine v_istore X [(4, .int (iz a)), (0, .ref (ad 13)), (1, .int (iz k)), (2, .int (iz a)), (3, .int (iz b))] dX8_learnOne_67 (by decide) rfl ?_
            have hl6 : ∀ (n8 : Nat) (i : Int), (a ≤ i ∧ i ≤ b) → (240 - i).toNat < n8 → V K 5 0 0 N sh ad (mrow M 15 (fun z => if a ≤ z ∧ z < i then z else M 15 z)) L R [(0, .ref (ad 13)), (1, .int (iz k)), (2, .int (iz a)), (3, .int (iz b)), (4, .int (iz i))] [] 69 := by
              intro n8
              induction n8 with
              | zero => intro i hi hn9; exact absurd hn9 (Nat.not_lt_zero _)
              | succ n8 ih7 =>
                intro i hi hn9
                refine v_iload X 4 dX8_learnOne_69 rfl ?_
                refine v_iload_n X 3 dX8_learnOne_71 rfl rfl ?_
                refine v_icmp_ge X 90 dX8_learnOne_72 (by decide) ⟨by omega, by omega⟩ ⟨by omega, by omega⟩ (fun u10 => ?_) (fun u10 => ?_)
                · skip
                  refine hret _ _ _ _ _ _ _ _ _ _ _ none dX8_learnOne_90 ⟨rfl, rfl⟩ (by decide) (by decide) (fun hmok => ?_)
                  refine ⟨rfl, rfl, rfl, rfl, rfl, rfl, ?_⟩
                  try dsimp only
                  unfold lb14 lb15 lb16
                  rw [if_neg (by omega), if_pos (by omega), if_neg (by omega), mrow_self]
                  obtain rfl : i = b := by omega
                  exact (mrow_self (mrow M 15 _) 16).symm
                · skip
                  refine v_aload_n X 0 dX8_learnOne_75 rfl rfl ?_
                  refine gt_X8_openTill X iwX8 (Std.lt hS rfl) (Std.k hS rfl rfl) (List.mem_cons_of_mem _ bw_5_9) dX8_learnOne_76 15 (Std.r hS 1 rfl) ?_
                  refine v_iload X 4 dX8_learnOne_79 rfl ?_
                  refine v_iload X 4 dX8_learnOne_81 rfl ?_
                  refine v_iast X (Std.lt hS rfl) (Std.at hS rfl rfl) (by omega) (by omega) ⟨by omega, by omega⟩ dX8_learnOne_83 ?_
                  refine v_iinc X 4 [(4, .int (iz (i + 1))), (0, .ref (ad 13)), (1, .int (iz k)), (2, .int (iz a)), (3, .int (iz b))] dX8_learnOne_84 rfl (by decide) rfl ?_
                  refine v_goto X 69 dX8_learnOne_87 (by decide) ?_
                  refine v_lv [1, 2, 3, 4, 0] rfl ?_
                  refine v_mem (M' := (mrow M 15 (fun z => if a ≤ z ∧ z < (i + 1) then z else M 15 z))) (by simp only [mu_mrow, row_oneZ hi.1]) rfl rfl ?_
                  exact ih7 (i + 1) (by omega) (by omega)
            refine v_lv [1, 2, 3, 4, 0] rfl ?_
            refine v_mem (M' := (mrow M 15 (fun z => if a ≤ z ∧ z < a then z else M 15 z))) (by rw [row_noneZ, mrow_self]) rfl rfl ?_
            exact hl6 _ a (by omega) (Nat.lt_succ_self _)
    · skip
      refine v_iload_n X 2 dX8_learnOne_30 rfl rfl ?_
      refine v_if_lt X 50 dX8_learnOne_31 (by decide) ⟨by omega, by omega⟩ (fun u11 => ?_) (fun u11 => ?_)
      · skip
        refine v_iload_n X 1 dX8_learnOne_50 rfl rfl ?_
        refine v_iconst X dX8_learnOne_51 ?_
        refine v_icmp_ne X 90 dX8_learnOne_52 (by decide) ⟨by omega, by omega⟩ ⟨by decide, by decide⟩ (fun u12 => ?_) (fun u12 => ?_)
        · skip
          refine hret _ _ _ _ _ _ _ _ _ _ _ none dX8_learnOne_90 ⟨rfl, rfl⟩ (by decide) (by decide) (fun hmok => ?_)
          refine ⟨rfl, rfl, rfl, rfl, rfl, rfl, ?_⟩
          try dsimp only
          unfold lb14 lb15 lb16
          exfalso
          omega
        · skip
          refine v_iload_n X 2 dX8_learnOne_55 rfl rfl ?_
          refine v_if_lt X 90 dX8_learnOne_56 (by decide) ⟨by omega, by omega⟩ (fun u13 => ?_) (fun u13 => ?_)
          · skip
            refine hret _ _ _ _ _ _ _ _ _ _ _ none dX8_learnOne_90 ⟨rfl, rfl⟩ (by decide) (by decide) (fun hmok => ?_)
            refine ⟨rfl, rfl, rfl, rfl, rfl, rfl, ?_⟩
            try dsimp only
            unfold lb14 lb15 lb16
            exfalso
            omega
          · skip
            refine v_iload_n X 3 dX8_learnOne_59 rfl rfl ?_
            refine v_sipush X dX8_learnOne_60 (by decide) ?_
            refine v_icmp_gt X 90 dX8_learnOne_63 (by decide) ⟨by omega, by omega⟩ ⟨by decide, by decide⟩ (fun u14 => ?_) (fun u14 => ?_)
            · skip
              refine hret _ _ _ _ _ _ _ _ _ _ _ none dX8_learnOne_90 ⟨rfl, rfl⟩ (by decide) (by decide) (fun hmok => ?_)
              refine ⟨rfl, rfl, rfl, rfl, rfl, rfl, ?_⟩
              try dsimp only
              unfold lb14 lb15 lb16
              exfalso
              omega
            · skip
              refine v_iload_n X 2 dX8_learnOne_66 rfl rfl ?_
              refine v_istore X [(4, .int (iz a)), (0, .ref (ad 13)), (1, .int (iz k)), (2, .int (iz a)), (3, .int (iz b))] dX8_learnOne_67 (by decide) rfl ?_
              have hl15 : ∀ (n17 : Nat) (i : Int), (a ≤ i ∧ i ≤ b) → (240 - i).toNat < n17 → V K 5 0 0 N sh ad (mrow M 15 (fun z => if a ≤ z ∧ z < i then z else M 15 z)) L R [(0, .ref (ad 13)), (1, .int (iz k)), (2, .int (iz a)), (3, .int (iz b)), (4, .int (iz i))] [] 69 := by
                intro n17
                induction n17 with
                | zero => intro i hi hn18; exact absurd hn18 (Nat.not_lt_zero _)
                | succ n17 ih16 =>
                  intro i hi hn18
                  refine v_iload X 4 dX8_learnOne_69 rfl ?_
                  refine v_iload_n X 3 dX8_learnOne_71 rfl rfl ?_
                  refine v_icmp_ge X 90 dX8_learnOne_72 (by decide) ⟨by omega, by omega⟩ ⟨by omega, by omega⟩ (fun u19 => ?_) (fun u19 => ?_)
                  · skip
                    refine hret _ _ _ _ _ _ _ _ _ _ _ none dX8_learnOne_90 ⟨rfl, rfl⟩ (by decide) (by decide) (fun hmok => ?_)
                    refine ⟨rfl, rfl, rfl, rfl, rfl, rfl, ?_⟩
                    try dsimp only
                    unfold lb14 lb15 lb16
                    rw [if_neg (by omega), if_pos (by omega), if_neg (by omega), mrow_self]
                    obtain rfl : i = b := by omega
                    exact (mrow_self (mrow M 15 _) 16).symm
                  · skip
                    refine v_aload_n X 0 dX8_learnOne_75 rfl rfl ?_
                    refine gt_X8_openTill X iwX8 (Std.lt hS rfl) (Std.k hS rfl rfl) (List.mem_cons_of_mem _ bw_5_9) dX8_learnOne_76 15 (Std.r hS 1 rfl) ?_
                    refine v_iload X 4 dX8_learnOne_79 rfl ?_
                    refine v_iload X 4 dX8_learnOne_81 rfl ?_
                    refine v_iast X (Std.lt hS rfl) (Std.at hS rfl rfl) (by omega) (by omega) ⟨by omega, by omega⟩ dX8_learnOne_83 ?_
                    refine v_iinc X 4 [(4, .int (iz (i + 1))), (0, .ref (ad 13)), (1, .int (iz k)), (2, .int (iz a)), (3, .int (iz b))] dX8_learnOne_84 rfl (by decide) rfl ?_
                    refine v_goto X 69 dX8_learnOne_87 (by decide) ?_
                    refine v_lv [1, 2, 3, 4, 0] rfl ?_
                    refine v_mem (M' := (mrow M 15 (fun z => if a ≤ z ∧ z < (i + 1) then z else M 15 z))) (by simp only [mu_mrow, row_oneZ hi.1]) rfl rfl ?_
                    exact ih16 (i + 1) (by omega) (by omega)
              refine v_lv [1, 2, 3, 4, 0] rfl ?_
              refine v_mem (M' := (mrow M 15 (fun z => if a ≤ z ∧ z < a then z else M 15 z))) (by rw [row_noneZ, mrow_self]) rfl rfl ?_
              exact hl15 _ a (by omega) (Nat.lt_succ_self _)
      · skip
        refine v_iload_n X 2 dX8_learnOne_34 rfl rfl ?_
        refine v_bipush X dX8_learnOne_35 (by decide) ?_
        refine v_icmp_ge X 50 dX8_learnOne_37 (by decide) ⟨by omega, by omega⟩ ⟨by decide, by decide⟩ (fun u20 => ?_) (fun u20 => ?_)
        · skip
          refine v_iload_n X 1 dX8_learnOne_50 rfl rfl ?_
          refine v_iconst X dX8_learnOne_51 ?_
          refine v_icmp_ne X 90 dX8_learnOne_52 (by decide) ⟨by omega, by omega⟩ ⟨by decide, by decide⟩ (fun u21 => ?_) (fun u21 => ?_)
          · skip
            refine hret _ _ _ _ _ _ _ _ _ _ _ none dX8_learnOne_90 ⟨rfl, rfl⟩ (by decide) (by decide) (fun hmok => ?_)
            refine ⟨rfl, rfl, rfl, rfl, rfl, rfl, ?_⟩
            try dsimp only
            unfold lb14 lb15 lb16
            exfalso
            omega
          · skip
            refine v_iload_n X 2 dX8_learnOne_55 rfl rfl ?_
            refine v_if_lt X 90 dX8_learnOne_56 (by decide) ⟨by omega, by omega⟩ (fun u22 => ?_) (fun u22 => ?_)
            · skip
              refine hret _ _ _ _ _ _ _ _ _ _ _ none dX8_learnOne_90 ⟨rfl, rfl⟩ (by decide) (by decide) (fun hmok => ?_)
              refine ⟨rfl, rfl, rfl, rfl, rfl, rfl, ?_⟩
              try dsimp only
              unfold lb14 lb15 lb16
              exfalso
              omega
            · skip
              refine v_iload_n X 3 dX8_learnOne_59 rfl rfl ?_
              refine v_sipush X dX8_learnOne_60 (by decide) ?_
              refine v_icmp_gt X 90 dX8_learnOne_63 (by decide) ⟨by omega, by omega⟩ ⟨by decide, by decide⟩ (fun u23 => ?_) (fun u23 => ?_)
              · skip
                refine hret _ _ _ _ _ _ _ _ _ _ _ none dX8_learnOne_90 ⟨rfl, rfl⟩ (by decide) (by decide) (fun hmok => ?_)
                refine ⟨rfl, rfl, rfl, rfl, rfl, rfl, ?_⟩
                try dsimp only
                unfold lb14 lb15 lb16
                exfalso
                omega
              · skip
                refine v_iload_n X 2 dX8_learnOne_66 rfl rfl ?_
                refine v_istore X [(4, .int (iz a)), (0, .ref (ad 13)), (1, .int (iz k)), (2, .int (iz a)), (3, .int (iz b))] dX8_learnOne_67 (by decide) rfl ?_
                have hl24 : ∀ (n26 : Nat) (i : Int), (a ≤ i ∧ i ≤ b) → (240 - i).toNat < n26 → V K 5 0 0 N sh ad (mrow M 15 (fun z => if a ≤ z ∧ z < i then z else M 15 z)) L R [(0, .ref (ad 13)), (1, .int (iz k)), (2, .int (iz a)), (3, .int (iz b)), (4, .int (iz i))] [] 69 := by
                  intro n26
                  induction n26 with
                  | zero => intro i hi hn27; exact absurd hn27 (Nat.not_lt_zero _)
                  | succ n26 ih25 =>
                    intro i hi hn27
                    refine v_iload X 4 dX8_learnOne_69 rfl ?_
                    refine v_iload_n X 3 dX8_learnOne_71 rfl rfl ?_
                    refine v_icmp_ge X 90 dX8_learnOne_72 (by decide) ⟨by omega, by omega⟩ ⟨by omega, by omega⟩ (fun u28 => ?_) (fun u28 => ?_)
                    · skip
                      refine hret _ _ _ _ _ _ _ _ _ _ _ none dX8_learnOne_90 ⟨rfl, rfl⟩ (by decide) (by decide) (fun hmok => ?_)
                      refine ⟨rfl, rfl, rfl, rfl, rfl, rfl, ?_⟩
                      try dsimp only
                      unfold lb14 lb15 lb16
                      rw [if_neg (by omega), if_pos (by omega), if_neg (by omega), mrow_self]
                      obtain rfl : i = b := by omega
                      exact (mrow_self (mrow M 15 _) 16).symm
                    · skip
                      refine v_aload_n X 0 dX8_learnOne_75 rfl rfl ?_
                      refine gt_X8_openTill X iwX8 (Std.lt hS rfl) (Std.k hS rfl rfl) (List.mem_cons_of_mem _ bw_5_9) dX8_learnOne_76 15 (Std.r hS 1 rfl) ?_
                      refine v_iload X 4 dX8_learnOne_79 rfl ?_
                      refine v_iload X 4 dX8_learnOne_81 rfl ?_
                      refine v_iast X (Std.lt hS rfl) (Std.at hS rfl rfl) (by omega) (by omega) ⟨by omega, by omega⟩ dX8_learnOne_83 ?_
                      refine v_iinc X 4 [(4, .int (iz (i + 1))), (0, .ref (ad 13)), (1, .int (iz k)), (2, .int (iz a)), (3, .int (iz b))] dX8_learnOne_84 rfl (by decide) rfl ?_
                      refine v_goto X 69 dX8_learnOne_87 (by decide) ?_
                      refine v_lv [1, 2, 3, 4, 0] rfl ?_
                      refine v_mem (M' := (mrow M 15 (fun z => if a ≤ z ∧ z < (i + 1) then z else M 15 z))) (by simp only [mu_mrow, row_oneZ hi.1]) rfl rfl ?_
                      exact ih25 (i + 1) (by omega) (by omega)
                refine v_lv [1, 2, 3, 4, 0] rfl ?_
                refine v_mem (M' := (mrow M 15 (fun z => if a ≤ z ∧ z < a then z else M 15 z))) (by rw [row_noneZ, mrow_self]) rfl rfl ?_
                exact hl24 _ a (by omega) (Nat.lt_succ_self _)
        · skip
          refine v_aload_n X 0 dX8_learnOne_40 rfl rfl ?_
          refine gt_X8_ready X iwX8 (Std.lt hS rfl) (Std.k hS rfl rfl) (List.mem_cons_of_mem _ bw_5_10) dX8_learnOne_41 16 (Std.r hS 2 rfl) ?_
          refine v_iload_n X 2 dX8_learnOne_44 rfl rfl ?_
          refine v_iload_n X 3 dX8_learnOne_45 rfl rfl ?_
          refine v_iast X (Std.lt hS rfl) (Std.at hS rfl rfl) (by omega) (by omega) ⟨by omega, by omega⟩ dX8_learnOne_46 ?_
          refine v_goto X 90 dX8_learnOne_47 (by decide) ?_
          refine hret _ _ _ _ _ _ _ _ _ _ _ none dX8_learnOne_90 ⟨rfl, rfl⟩ (by decide) (by decide) (fun hmok => ?_)
          refine ⟨rfl, rfl, rfl, rfl, rfl, rfl, ?_⟩
          try dsimp only
          unfold lb14 lb15 lb16
          rw [if_neg (by omega), if_neg (by omega), if_pos (by omega)]
          rw [mrow_self, mrow_self, mu_row]
  · skip
    refine v_iload_n X 2 dX8_learnOne_4 rfl rfl ?_
    refine v_if_lt X 25 dX8_learnOne_5 (by decide) ⟨by omega, by omega⟩ (fun u29 => ?_) (fun u29 => ?_)
    · skip
      refine v_iload_n X 1 dX8_learnOne_25 rfl rfl ?_
      refine v_iconst X dX8_learnOne_26 ?_
      refine v_icmp_ne X 50 dX8_learnOne_27 (by decide) ⟨by omega, by omega⟩ ⟨by decide, by decide⟩ (fun u30 => ?_) (fun u30 => ?_)
      · skip
        refine v_iload_n X 1 dX8_learnOne_50 rfl rfl ?_
        refine v_iconst X dX8_learnOne_51 ?_
        refine v_icmp_ne X 90 dX8_learnOne_52 (by decide) ⟨by omega, by omega⟩ ⟨by decide, by decide⟩ (fun u31 => ?_) (fun u31 => ?_)
        · skip
          refine hret _ _ _ _ _ _ _ _ _ _ _ none dX8_learnOne_90 ⟨rfl, rfl⟩ (by decide) (by decide) (fun hmok => ?_)
          refine ⟨rfl, rfl, rfl, rfl, rfl, rfl, ?_⟩
          try dsimp only
          unfold lb14 lb15 lb16
          exfalso
          omega
        · skip
          refine v_iload_n X 2 dX8_learnOne_55 rfl rfl ?_
          refine v_if_lt X 90 dX8_learnOne_56 (by decide) ⟨by omega, by omega⟩ (fun u32 => ?_) (fun u32 => ?_)
          · skip
            refine hret _ _ _ _ _ _ _ _ _ _ _ none dX8_learnOne_90 ⟨rfl, rfl⟩ (by decide) (by decide) (fun hmok => ?_)
            refine ⟨rfl, rfl, rfl, rfl, rfl, rfl, ?_⟩
            try dsimp only
            unfold lb14 lb15 lb16
            exfalso
            omega
          · skip
            refine v_iload_n X 3 dX8_learnOne_59 rfl rfl ?_
            refine v_sipush X dX8_learnOne_60 (by decide) ?_
            refine v_icmp_gt X 90 dX8_learnOne_63 (by decide) ⟨by omega, by omega⟩ ⟨by decide, by decide⟩ (fun u33 => ?_) (fun u33 => ?_)
            · skip
              refine hret _ _ _ _ _ _ _ _ _ _ _ none dX8_learnOne_90 ⟨rfl, rfl⟩ (by decide) (by decide) (fun hmok => ?_)
              refine ⟨rfl, rfl, rfl, rfl, rfl, rfl, ?_⟩
              try dsimp only
              unfold lb14 lb15 lb16
              exfalso
              omega
            · skip
              refine v_iload_n X 2 dX8_learnOne_66 rfl rfl ?_
              refine v_istore X [(4, .int (iz a)), (0, .ref (ad 13)), (1, .int (iz k)), (2, .int (iz a)), (3, .int (iz b))] dX8_learnOne_67 (by decide) rfl ?_
              have hl34 : ∀ (n36 : Nat) (i : Int), (a ≤ i ∧ i ≤ b) → (240 - i).toNat < n36 → V K 5 0 0 N sh ad (mrow M 15 (fun z => if a ≤ z ∧ z < i then z else M 15 z)) L R [(0, .ref (ad 13)), (1, .int (iz k)), (2, .int (iz a)), (3, .int (iz b)), (4, .int (iz i))] [] 69 := by
                intro n36
                induction n36 with
                | zero => intro i hi hn37; exact absurd hn37 (Nat.not_lt_zero _)
                | succ n36 ih35 =>
                  intro i hi hn37
                  refine v_iload X 4 dX8_learnOne_69 rfl ?_
                  refine v_iload_n X 3 dX8_learnOne_71 rfl rfl ?_
                  refine v_icmp_ge X 90 dX8_learnOne_72 (by decide) ⟨by omega, by omega⟩ ⟨by omega, by omega⟩ (fun u38 => ?_) (fun u38 => ?_)
                  · skip
                    refine hret _ _ _ _ _ _ _ _ _ _ _ none dX8_learnOne_90 ⟨rfl, rfl⟩ (by decide) (by decide) (fun hmok => ?_)
                    refine ⟨rfl, rfl, rfl, rfl, rfl, rfl, ?_⟩
                    try dsimp only
                    unfold lb14 lb15 lb16
                    rw [if_neg (by omega), if_pos (by omega), if_neg (by omega), mrow_self]
                    obtain rfl : i = b := by omega
                    exact (mrow_self (mrow M 15 _) 16).symm
                  · skip
                    refine v_aload_n X 0 dX8_learnOne_75 rfl rfl ?_
                    refine gt_X8_openTill X iwX8 (Std.lt hS rfl) (Std.k hS rfl rfl) (List.mem_cons_of_mem _ bw_5_9) dX8_learnOne_76 15 (Std.r hS 1 rfl) ?_
                    refine v_iload X 4 dX8_learnOne_79 rfl ?_
                    refine v_iload X 4 dX8_learnOne_81 rfl ?_
                    refine v_iast X (Std.lt hS rfl) (Std.at hS rfl rfl) (by omega) (by omega) ⟨by omega, by omega⟩ dX8_learnOne_83 ?_
                    refine v_iinc X 4 [(4, .int (iz (i + 1))), (0, .ref (ad 13)), (1, .int (iz k)), (2, .int (iz a)), (3, .int (iz b))] dX8_learnOne_84 rfl (by decide) rfl ?_
                    refine v_goto X 69 dX8_learnOne_87 (by decide) ?_
                    refine v_lv [1, 2, 3, 4, 0] rfl ?_
                    refine v_mem (M' := (mrow M 15 (fun z => if a ≤ z ∧ z < (i + 1) then z else M 15 z))) (by simp only [mu_mrow, row_oneZ hi.1]) rfl rfl ?_
                    exact ih35 (i + 1) (by omega) (by omega)
              refine v_lv [1, 2, 3, 4, 0] rfl ?_
              refine v_mem (M' := (mrow M 15 (fun z => if a ≤ z ∧ z < a then z else M 15 z))) (by rw [row_noneZ, mrow_self]) rfl rfl ?_
              exact hl34 _ a (by omega) (Nat.lt_succ_self _)
      · skip
        refine v_iload_n X 2 dX8_learnOne_30 rfl rfl ?_
        refine v_if_lt X 50 dX8_learnOne_31 (by decide) ⟨by omega, by omega⟩ (fun u39 => ?_) (fun u39 => ?_)
        · skip
          refine v_iload_n X 1 dX8_learnOne_50 rfl rfl ?_
          refine v_iconst X dX8_learnOne_51 ?_
          refine v_icmp_ne X 90 dX8_learnOne_52 (by decide) ⟨by omega, by omega⟩ ⟨by decide, by decide⟩ (fun u40 => ?_) (fun u40 => ?_)
          · skip
            refine hret _ _ _ _ _ _ _ _ _ _ _ none dX8_learnOne_90 ⟨rfl, rfl⟩ (by decide) (by decide) (fun hmok => ?_)
            refine ⟨rfl, rfl, rfl, rfl, rfl, rfl, ?_⟩
            try dsimp only
            unfold lb14 lb15 lb16
            exfalso
            omega
          · skip
            refine v_iload_n X 2 dX8_learnOne_55 rfl rfl ?_
            refine v_if_lt X 90 dX8_learnOne_56 (by decide) ⟨by omega, by omega⟩ (fun u41 => ?_) (fun u41 => ?_)
            · skip
              refine hret _ _ _ _ _ _ _ _ _ _ _ none dX8_learnOne_90 ⟨rfl, rfl⟩ (by decide) (by decide) (fun hmok => ?_)
              refine ⟨rfl, rfl, rfl, rfl, rfl, rfl, ?_⟩
              try dsimp only
              unfold lb14 lb15 lb16
              exfalso
              omega
            · skip
              refine v_iload_n X 3 dX8_learnOne_59 rfl rfl ?_
              refine v_sipush X dX8_learnOne_60 (by decide) ?_
              refine v_icmp_gt X 90 dX8_learnOne_63 (by decide) ⟨by omega, by omega⟩ ⟨by decide, by decide⟩ (fun u42 => ?_) (fun u42 => ?_)
              · skip
                refine hret _ _ _ _ _ _ _ _ _ _ _ none dX8_learnOne_90 ⟨rfl, rfl⟩ (by decide) (by decide) (fun hmok => ?_)
                refine ⟨rfl, rfl, rfl, rfl, rfl, rfl, ?_⟩
                try dsimp only
                unfold lb14 lb15 lb16
                exfalso
                omega
              · skip
                refine v_iload_n X 2 dX8_learnOne_66 rfl rfl ?_
                refine v_istore X [(4, .int (iz a)), (0, .ref (ad 13)), (1, .int (iz k)), (2, .int (iz a)), (3, .int (iz b))] dX8_learnOne_67 (by decide) rfl ?_
                have hl43 : ∀ (n45 : Nat) (i : Int), (a ≤ i ∧ i ≤ b) → (240 - i).toNat < n45 → V K 5 0 0 N sh ad (mrow M 15 (fun z => if a ≤ z ∧ z < i then z else M 15 z)) L R [(0, .ref (ad 13)), (1, .int (iz k)), (2, .int (iz a)), (3, .int (iz b)), (4, .int (iz i))] [] 69 := by
                  intro n45
                  induction n45 with
                  | zero => intro i hi hn46; exact absurd hn46 (Nat.not_lt_zero _)
                  | succ n45 ih44 =>
                    intro i hi hn46
                    refine v_iload X 4 dX8_learnOne_69 rfl ?_
                    refine v_iload_n X 3 dX8_learnOne_71 rfl rfl ?_
                    refine v_icmp_ge X 90 dX8_learnOne_72 (by decide) ⟨by omega, by omega⟩ ⟨by omega, by omega⟩ (fun u47 => ?_) (fun u47 => ?_)
                    · skip
                      refine hret _ _ _ _ _ _ _ _ _ _ _ none dX8_learnOne_90 ⟨rfl, rfl⟩ (by decide) (by decide) (fun hmok => ?_)
                      refine ⟨rfl, rfl, rfl, rfl, rfl, rfl, ?_⟩
                      try dsimp only
                      unfold lb14 lb15 lb16
                      rw [if_neg (by omega), if_pos (by omega), if_neg (by omega), mrow_self]
                      obtain rfl : i = b := by omega
                      exact (mrow_self (mrow M 15 _) 16).symm
                    · skip
                      refine v_aload_n X 0 dX8_learnOne_75 rfl rfl ?_
                      refine gt_X8_openTill X iwX8 (Std.lt hS rfl) (Std.k hS rfl rfl) (List.mem_cons_of_mem _ bw_5_9) dX8_learnOne_76 15 (Std.r hS 1 rfl) ?_
                      refine v_iload X 4 dX8_learnOne_79 rfl ?_
                      refine v_iload X 4 dX8_learnOne_81 rfl ?_
                      refine v_iast X (Std.lt hS rfl) (Std.at hS rfl rfl) (by omega) (by omega) ⟨by omega, by omega⟩ dX8_learnOne_83 ?_
                      refine v_iinc X 4 [(4, .int (iz (i + 1))), (0, .ref (ad 13)), (1, .int (iz k)), (2, .int (iz a)), (3, .int (iz b))] dX8_learnOne_84 rfl (by decide) rfl ?_
                      refine v_goto X 69 dX8_learnOne_87 (by decide) ?_
                      refine v_lv [1, 2, 3, 4, 0] rfl ?_
                      refine v_mem (M' := (mrow M 15 (fun z => if a ≤ z ∧ z < (i + 1) then z else M 15 z))) (by simp only [mu_mrow, row_oneZ hi.1]) rfl rfl ?_
                      exact ih44 (i + 1) (by omega) (by omega)
                refine v_lv [1, 2, 3, 4, 0] rfl ?_
                refine v_mem (M' := (mrow M 15 (fun z => if a ≤ z ∧ z < a then z else M 15 z))) (by rw [row_noneZ, mrow_self]) rfl rfl ?_
                exact hl43 _ a (by omega) (Nat.lt_succ_self _)
        · skip
          refine v_iload_n X 2 dX8_learnOne_34 rfl rfl ?_
          refine v_bipush X dX8_learnOne_35 (by decide) ?_
          refine v_icmp_ge X 50 dX8_learnOne_37 (by decide) ⟨by omega, by omega⟩ ⟨by decide, by decide⟩ (fun u48 => ?_) (fun u48 => ?_)
          · skip
            refine v_iload_n X 1 dX8_learnOne_50 rfl rfl ?_
            refine v_iconst X dX8_learnOne_51 ?_
            refine v_icmp_ne X 90 dX8_learnOne_52 (by decide) ⟨by omega, by omega⟩ ⟨by decide, by decide⟩ (fun u49 => ?_) (fun u49 => ?_)
            · skip
              refine hret _ _ _ _ _ _ _ _ _ _ _ none dX8_learnOne_90 ⟨rfl, rfl⟩ (by decide) (by decide) (fun hmok => ?_)
              refine ⟨rfl, rfl, rfl, rfl, rfl, rfl, ?_⟩
              try dsimp only
              unfold lb14 lb15 lb16
              exfalso
              omega
            · skip
              refine v_iload_n X 2 dX8_learnOne_55 rfl rfl ?_
              refine v_if_lt X 90 dX8_learnOne_56 (by decide) ⟨by omega, by omega⟩ (fun u50 => ?_) (fun u50 => ?_)
              · skip
                refine hret _ _ _ _ _ _ _ _ _ _ _ none dX8_learnOne_90 ⟨rfl, rfl⟩ (by decide) (by decide) (fun hmok => ?_)
                refine ⟨rfl, rfl, rfl, rfl, rfl, rfl, ?_⟩
                try dsimp only
                unfold lb14 lb15 lb16
                exfalso
                omega
              · skip
                refine v_iload_n X 3 dX8_learnOne_59 rfl rfl ?_
                refine v_sipush X dX8_learnOne_60 (by decide) ?_
                refine v_icmp_gt X 90 dX8_learnOne_63 (by decide) ⟨by omega, by omega⟩ ⟨by decide, by decide⟩ (fun u51 => ?_) (fun u51 => ?_)
                · skip
                  refine hret _ _ _ _ _ _ _ _ _ _ _ none dX8_learnOne_90 ⟨rfl, rfl⟩ (by decide) (by decide) (fun hmok => ?_)
                  refine ⟨rfl, rfl, rfl, rfl, rfl, rfl, ?_⟩
                  try dsimp only
                  unfold lb14 lb15 lb16
                  exfalso
                  omega
                · skip
                  refine v_iload_n X 2 dX8_learnOne_66 rfl rfl ?_
                  refine v_istore X [(4, .int (iz a)), (0, .ref (ad 13)), (1, .int (iz k)), (2, .int (iz a)), (3, .int (iz b))] dX8_learnOne_67 (by decide) rfl ?_
                  have hl52 : ∀ (n54 : Nat) (i : Int), (a ≤ i ∧ i ≤ b) → (240 - i).toNat < n54 → V K 5 0 0 N sh ad (mrow M 15 (fun z => if a ≤ z ∧ z < i then z else M 15 z)) L R [(0, .ref (ad 13)), (1, .int (iz k)), (2, .int (iz a)), (3, .int (iz b)), (4, .int (iz i))] [] 69 := by
                    intro n54
                    induction n54 with
                    | zero => intro i hi hn55; exact absurd hn55 (Nat.not_lt_zero _)
                    | succ n54 ih53 =>
                      intro i hi hn55
                      refine v_iload X 4 dX8_learnOne_69 rfl ?_
                      refine v_iload_n X 3 dX8_learnOne_71 rfl rfl ?_
                      refine v_icmp_ge X 90 dX8_learnOne_72 (by decide) ⟨by omega, by omega⟩ ⟨by omega, by omega⟩ (fun u56 => ?_) (fun u56 => ?_)
                      · skip
                        refine hret _ _ _ _ _ _ _ _ _ _ _ none dX8_learnOne_90 ⟨rfl, rfl⟩ (by decide) (by decide) (fun hmok => ?_)
                        refine ⟨rfl, rfl, rfl, rfl, rfl, rfl, ?_⟩
                        try dsimp only
                        unfold lb14 lb15 lb16
                        rw [if_neg (by omega), if_pos (by omega), if_neg (by omega), mrow_self]
                        obtain rfl : i = b := by omega
                        exact (mrow_self (mrow M 15 _) 16).symm
                      · skip
                        refine v_aload_n X 0 dX8_learnOne_75 rfl rfl ?_
                        refine gt_X8_openTill X iwX8 (Std.lt hS rfl) (Std.k hS rfl rfl) (List.mem_cons_of_mem _ bw_5_9) dX8_learnOne_76 15 (Std.r hS 1 rfl) ?_
                        refine v_iload X 4 dX8_learnOne_79 rfl ?_
                        refine v_iload X 4 dX8_learnOne_81 rfl ?_
                        refine v_iast X (Std.lt hS rfl) (Std.at hS rfl rfl) (by omega) (by omega) ⟨by omega, by omega⟩ dX8_learnOne_83 ?_
                        refine v_iinc X 4 [(4, .int (iz (i + 1))), (0, .ref (ad 13)), (1, .int (iz k)), (2, .int (iz a)), (3, .int (iz b))] dX8_learnOne_84 rfl (by decide) rfl ?_
                        refine v_goto X 69 dX8_learnOne_87 (by decide) ?_
                        refine v_lv [1, 2, 3, 4, 0] rfl ?_
                        refine v_mem (M' := (mrow M 15 (fun z => if a ≤ z ∧ z < (i + 1) then z else M 15 z))) (by simp only [mu_mrow, row_oneZ hi.1]) rfl rfl ?_
                        exact ih53 (i + 1) (by omega) (by omega)
                  refine v_lv [1, 2, 3, 4, 0] rfl ?_
                  refine v_mem (M' := (mrow M 15 (fun z => if a ≤ z ∧ z < a then z else M 15 z))) (by rw [row_noneZ, mrow_self]) rfl rfl ?_
                  exact hl52 _ a (by omega) (Nat.lt_succ_self _)
          · skip
            refine v_aload_n X 0 dX8_learnOne_40 rfl rfl ?_
            refine gt_X8_ready X iwX8 (Std.lt hS rfl) (Std.k hS rfl rfl) (List.mem_cons_of_mem _ bw_5_10) dX8_learnOne_41 16 (Std.r hS 2 rfl) ?_
            refine v_iload_n X 2 dX8_learnOne_44 rfl rfl ?_
            refine v_iload_n X 3 dX8_learnOne_45 rfl rfl ?_
            refine v_iast X (Std.lt hS rfl) (Std.at hS rfl rfl) (by omega) (by omega) ⟨by omega, by omega⟩ dX8_learnOne_46 ?_
            refine v_goto X 90 dX8_learnOne_47 (by decide) ?_
            refine hret _ _ _ _ _ _ _ _ _ _ _ none dX8_learnOne_90 ⟨rfl, rfl⟩ (by decide) (by decide) (fun hmok => ?_)
            refine ⟨rfl, rfl, rfl, rfl, rfl, rfl, ?_⟩
            try dsimp only
            unfold lb14 lb15 lb16
            rw [if_neg (by omega), if_neg (by omega), if_pos (by omega)]
            rw [mrow_self, mrow_self, mu_row]
    · skip
      refine v_iload_n X 2 dX8_learnOne_8 rfl rfl ?_
      refine v_sipush X dX8_learnOne_9 (by decide) ?_
      refine v_icmp_ge X 25 dX8_learnOne_12 (by decide) ⟨by omega, by omega⟩ ⟨by decide, by decide⟩ (fun u57 => ?_) (fun u57 => ?_)
      · skip
        refine v_iload_n X 1 dX8_learnOne_25 rfl rfl ?_
        refine v_iconst X dX8_learnOne_26 ?_
        refine v_icmp_ne X 50 dX8_learnOne_27 (by decide) ⟨by omega, by omega⟩ ⟨by decide, by decide⟩ (fun u58 => ?_) (fun u58 => ?_)
        · skip
          refine v_iload_n X 1 dX8_learnOne_50 rfl rfl ?_
          refine v_iconst X dX8_learnOne_51 ?_
          refine v_icmp_ne X 90 dX8_learnOne_52 (by decide) ⟨by omega, by omega⟩ ⟨by decide, by decide⟩ (fun u59 => ?_) (fun u59 => ?_)
          · skip
            refine hret _ _ _ _ _ _ _ _ _ _ _ none dX8_learnOne_90 ⟨rfl, rfl⟩ (by decide) (by decide) (fun hmok => ?_)
            refine ⟨rfl, rfl, rfl, rfl, rfl, rfl, ?_⟩
            try dsimp only
            unfold lb14 lb15 lb16
            exfalso
            omega
          · skip
            refine v_iload_n X 2 dX8_learnOne_55 rfl rfl ?_
            refine v_if_lt X 90 dX8_learnOne_56 (by decide) ⟨by omega, by omega⟩ (fun u60 => ?_) (fun u60 => ?_)
            · skip
              refine hret _ _ _ _ _ _ _ _ _ _ _ none dX8_learnOne_90 ⟨rfl, rfl⟩ (by decide) (by decide) (fun hmok => ?_)
              refine ⟨rfl, rfl, rfl, rfl, rfl, rfl, ?_⟩
              try dsimp only
              unfold lb14 lb15 lb16
              exfalso
              omega
            · skip
              refine v_iload_n X 3 dX8_learnOne_59 rfl rfl ?_
              refine v_sipush X dX8_learnOne_60 (by decide) ?_
              refine v_icmp_gt X 90 dX8_learnOne_63 (by decide) ⟨by omega, by omega⟩ ⟨by decide, by decide⟩ (fun u61 => ?_) (fun u61 => ?_)
              · skip
                refine hret _ _ _ _ _ _ _ _ _ _ _ none dX8_learnOne_90 ⟨rfl, rfl⟩ (by decide) (by decide) (fun hmok => ?_)
                refine ⟨rfl, rfl, rfl, rfl, rfl, rfl, ?_⟩
                try dsimp only
                unfold lb14 lb15 lb16
                exfalso
                omega
              · skip
                refine v_iload_n X 2 dX8_learnOne_66 rfl rfl ?_
                refine v_istore X [(4, .int (iz a)), (0, .ref (ad 13)), (1, .int (iz k)), (2, .int (iz a)), (3, .int (iz b))] dX8_learnOne_67 (by decide) rfl ?_
                have hl62 : ∀ (n64 : Nat) (i : Int), (a ≤ i ∧ i ≤ b) → (240 - i).toNat < n64 → V K 5 0 0 N sh ad (mrow M 15 (fun z => if a ≤ z ∧ z < i then z else M 15 z)) L R [(0, .ref (ad 13)), (1, .int (iz k)), (2, .int (iz a)), (3, .int (iz b)), (4, .int (iz i))] [] 69 := by
                  intro n64
                  induction n64 with
                  | zero => intro i hi hn65; exact absurd hn65 (Nat.not_lt_zero _)
                  | succ n64 ih63 =>
                    intro i hi hn65
                    refine v_iload X 4 dX8_learnOne_69 rfl ?_
                    refine v_iload_n X 3 dX8_learnOne_71 rfl rfl ?_
                    refine v_icmp_ge X 90 dX8_learnOne_72 (by decide) ⟨by omega, by omega⟩ ⟨by omega, by omega⟩ (fun u66 => ?_) (fun u66 => ?_)
                    · skip
                      refine hret _ _ _ _ _ _ _ _ _ _ _ none dX8_learnOne_90 ⟨rfl, rfl⟩ (by decide) (by decide) (fun hmok => ?_)
                      refine ⟨rfl, rfl, rfl, rfl, rfl, rfl, ?_⟩
                      try dsimp only
                      unfold lb14 lb15 lb16
                      rw [if_neg (by omega), if_pos (by omega), if_neg (by omega), mrow_self]
                      obtain rfl : i = b := by omega
                      exact (mrow_self (mrow M 15 _) 16).symm
                    · skip
                      refine v_aload_n X 0 dX8_learnOne_75 rfl rfl ?_
                      refine gt_X8_openTill X iwX8 (Std.lt hS rfl) (Std.k hS rfl rfl) (List.mem_cons_of_mem _ bw_5_9) dX8_learnOne_76 15 (Std.r hS 1 rfl) ?_
                      refine v_iload X 4 dX8_learnOne_79 rfl ?_
                      refine v_iload X 4 dX8_learnOne_81 rfl ?_
                      refine v_iast X (Std.lt hS rfl) (Std.at hS rfl rfl) (by omega) (by omega) ⟨by omega, by omega⟩ dX8_learnOne_83 ?_
                      refine v_iinc X 4 [(4, .int (iz (i + 1))), (0, .ref (ad 13)), (1, .int (iz k)), (2, .int (iz a)), (3, .int (iz b))] dX8_learnOne_84 rfl (by decide) rfl ?_
                      refine v_goto X 69 dX8_learnOne_87 (by decide) ?_
                      refine v_lv [1, 2, 3, 4, 0] rfl ?_
                      refine v_mem (M' := (mrow M 15 (fun z => if a ≤ z ∧ z < (i + 1) then z else M 15 z))) (by simp only [mu_mrow, row_oneZ hi.1]) rfl rfl ?_
                      exact ih63 (i + 1) (by omega) (by omega)
                refine v_lv [1, 2, 3, 4, 0] rfl ?_
                refine v_mem (M' := (mrow M 15 (fun z => if a ≤ z ∧ z < a then z else M 15 z))) (by rw [row_noneZ, mrow_self]) rfl rfl ?_
                exact hl62 _ a (by omega) (Nat.lt_succ_self _)
        · skip
          refine v_iload_n X 2 dX8_learnOne_30 rfl rfl ?_
          refine v_if_lt X 50 dX8_learnOne_31 (by decide) ⟨by omega, by omega⟩ (fun u67 => ?_) (fun u67 => ?_)
          · skip
            refine v_iload_n X 1 dX8_learnOne_50 rfl rfl ?_
            refine v_iconst X dX8_learnOne_51 ?_
            refine v_icmp_ne X 90 dX8_learnOne_52 (by decide) ⟨by omega, by omega⟩ ⟨by decide, by decide⟩ (fun u68 => ?_) (fun u68 => ?_)
            · skip
              refine hret _ _ _ _ _ _ _ _ _ _ _ none dX8_learnOne_90 ⟨rfl, rfl⟩ (by decide) (by decide) (fun hmok => ?_)
              refine ⟨rfl, rfl, rfl, rfl, rfl, rfl, ?_⟩
              try dsimp only
              unfold lb14 lb15 lb16
              exfalso
              omega
            · skip
              refine v_iload_n X 2 dX8_learnOne_55 rfl rfl ?_
              refine v_if_lt X 90 dX8_learnOne_56 (by decide) ⟨by omega, by omega⟩ (fun u69 => ?_) (fun u69 => ?_)
              · skip
                refine hret _ _ _ _ _ _ _ _ _ _ _ none dX8_learnOne_90 ⟨rfl, rfl⟩ (by decide) (by decide) (fun hmok => ?_)
                refine ⟨rfl, rfl, rfl, rfl, rfl, rfl, ?_⟩
                try dsimp only
                unfold lb14 lb15 lb16
                exfalso
                omega
              · skip
                refine v_iload_n X 3 dX8_learnOne_59 rfl rfl ?_
                refine v_sipush X dX8_learnOne_60 (by decide) ?_
                refine v_icmp_gt X 90 dX8_learnOne_63 (by decide) ⟨by omega, by omega⟩ ⟨by decide, by decide⟩ (fun u70 => ?_) (fun u70 => ?_)
                · skip
                  refine hret _ _ _ _ _ _ _ _ _ _ _ none dX8_learnOne_90 ⟨rfl, rfl⟩ (by decide) (by decide) (fun hmok => ?_)
                  refine ⟨rfl, rfl, rfl, rfl, rfl, rfl, ?_⟩
                  try dsimp only
                  unfold lb14 lb15 lb16
                  exfalso
                  omega
                · skip
                  refine v_iload_n X 2 dX8_learnOne_66 rfl rfl ?_
                  refine v_istore X [(4, .int (iz a)), (0, .ref (ad 13)), (1, .int (iz k)), (2, .int (iz a)), (3, .int (iz b))] dX8_learnOne_67 (by decide) rfl ?_
                  have hl71 : ∀ (n73 : Nat) (i : Int), (a ≤ i ∧ i ≤ b) → (240 - i).toNat < n73 → V K 5 0 0 N sh ad (mrow M 15 (fun z => if a ≤ z ∧ z < i then z else M 15 z)) L R [(0, .ref (ad 13)), (1, .int (iz k)), (2, .int (iz a)), (3, .int (iz b)), (4, .int (iz i))] [] 69 := by
                    intro n73
                    induction n73 with
                    | zero => intro i hi hn74; exact absurd hn74 (Nat.not_lt_zero _)
                    | succ n73 ih72 =>
                      intro i hi hn74
                      refine v_iload X 4 dX8_learnOne_69 rfl ?_
                      refine v_iload_n X 3 dX8_learnOne_71 rfl rfl ?_
                      refine v_icmp_ge X 90 dX8_learnOne_72 (by decide) ⟨by omega, by omega⟩ ⟨by omega, by omega⟩ (fun u75 => ?_) (fun u75 => ?_)
                      · skip
                        refine hret _ _ _ _ _ _ _ _ _ _ _ none dX8_learnOne_90 ⟨rfl, rfl⟩ (by decide) (by decide) (fun hmok => ?_)
                        refine ⟨rfl, rfl, rfl, rfl, rfl, rfl, ?_⟩
                        try dsimp only
                        unfold lb14 lb15 lb16
                        rw [if_neg (by omega), if_pos (by omega), if_neg (by omega), mrow_self]
                        obtain rfl : i = b := by omega
                        exact (mrow_self (mrow M 15 _) 16).symm
                      · skip
                        refine v_aload_n X 0 dX8_learnOne_75 rfl rfl ?_
                        refine gt_X8_openTill X iwX8 (Std.lt hS rfl) (Std.k hS rfl rfl) (List.mem_cons_of_mem _ bw_5_9) dX8_learnOne_76 15 (Std.r hS 1 rfl) ?_
                        refine v_iload X 4 dX8_learnOne_79 rfl ?_
                        refine v_iload X 4 dX8_learnOne_81 rfl ?_
                        refine v_iast X (Std.lt hS rfl) (Std.at hS rfl rfl) (by omega) (by omega) ⟨by omega, by omega⟩ dX8_learnOne_83 ?_
                        refine v_iinc X 4 [(4, .int (iz (i + 1))), (0, .ref (ad 13)), (1, .int (iz k)), (2, .int (iz a)), (3, .int (iz b))] dX8_learnOne_84 rfl (by decide) rfl ?_
                        refine v_goto X 69 dX8_learnOne_87 (by decide) ?_
                        refine v_lv [1, 2, 3, 4, 0] rfl ?_
                        refine v_mem (M' := (mrow M 15 (fun z => if a ≤ z ∧ z < (i + 1) then z else M 15 z))) (by simp only [mu_mrow, row_oneZ hi.1]) rfl rfl ?_
                        exact ih72 (i + 1) (by omega) (by omega)
                  refine v_lv [1, 2, 3, 4, 0] rfl ?_
                  refine v_mem (M' := (mrow M 15 (fun z => if a ≤ z ∧ z < a then z else M 15 z))) (by rw [row_noneZ, mrow_self]) rfl rfl ?_
                  exact hl71 _ a (by omega) (Nat.lt_succ_self _)
          · skip
            refine v_iload_n X 2 dX8_learnOne_34 rfl rfl ?_
            refine v_bipush X dX8_learnOne_35 (by decide) ?_
            refine v_icmp_ge X 50 dX8_learnOne_37 (by decide) ⟨by omega, by omega⟩ ⟨by decide, by decide⟩ (fun u76 => ?_) (fun u76 => ?_)
            · skip
              refine v_iload_n X 1 dX8_learnOne_50 rfl rfl ?_
              refine v_iconst X dX8_learnOne_51 ?_
              refine v_icmp_ne X 90 dX8_learnOne_52 (by decide) ⟨by omega, by omega⟩ ⟨by decide, by decide⟩ (fun u77 => ?_) (fun u77 => ?_)
              · skip
                refine hret _ _ _ _ _ _ _ _ _ _ _ none dX8_learnOne_90 ⟨rfl, rfl⟩ (by decide) (by decide) (fun hmok => ?_)
                refine ⟨rfl, rfl, rfl, rfl, rfl, rfl, ?_⟩
                try dsimp only
                unfold lb14 lb15 lb16
                exfalso
                omega
              · skip
                refine v_iload_n X 2 dX8_learnOne_55 rfl rfl ?_
                refine v_if_lt X 90 dX8_learnOne_56 (by decide) ⟨by omega, by omega⟩ (fun u78 => ?_) (fun u78 => ?_)
                · skip
                  refine hret _ _ _ _ _ _ _ _ _ _ _ none dX8_learnOne_90 ⟨rfl, rfl⟩ (by decide) (by decide) (fun hmok => ?_)
                  refine ⟨rfl, rfl, rfl, rfl, rfl, rfl, ?_⟩
                  try dsimp only
                  unfold lb14 lb15 lb16
                  exfalso
                  omega
                · skip
                  refine v_iload_n X 3 dX8_learnOne_59 rfl rfl ?_
                  refine v_sipush X dX8_learnOne_60 (by decide) ?_
                  refine v_icmp_gt X 90 dX8_learnOne_63 (by decide) ⟨by omega, by omega⟩ ⟨by decide, by decide⟩ (fun u79 => ?_) (fun u79 => ?_)
                  · skip
                    refine hret _ _ _ _ _ _ _ _ _ _ _ none dX8_learnOne_90 ⟨rfl, rfl⟩ (by decide) (by decide) (fun hmok => ?_)
                    refine ⟨rfl, rfl, rfl, rfl, rfl, rfl, ?_⟩
                    try dsimp only
                    unfold lb14 lb15 lb16
                    exfalso
                    omega
                  · skip
                    refine v_iload_n X 2 dX8_learnOne_66 rfl rfl ?_
                    refine v_istore X [(4, .int (iz a)), (0, .ref (ad 13)), (1, .int (iz k)), (2, .int (iz a)), (3, .int (iz b))] dX8_learnOne_67 (by decide) rfl ?_
                    have hl80 : ∀ (n82 : Nat) (i : Int), (a ≤ i ∧ i ≤ b) → (240 - i).toNat < n82 → V K 5 0 0 N sh ad (mrow M 15 (fun z => if a ≤ z ∧ z < i then z else M 15 z)) L R [(0, .ref (ad 13)), (1, .int (iz k)), (2, .int (iz a)), (3, .int (iz b)), (4, .int (iz i))] [] 69 := by
                      intro n82
                      induction n82 with
                      | zero => intro i hi hn83; exact absurd hn83 (Nat.not_lt_zero _)
                      | succ n82 ih81 =>
                        intro i hi hn83
                        refine v_iload X 4 dX8_learnOne_69 rfl ?_
                        refine v_iload_n X 3 dX8_learnOne_71 rfl rfl ?_
                        refine v_icmp_ge X 90 dX8_learnOne_72 (by decide) ⟨by omega, by omega⟩ ⟨by omega, by omega⟩ (fun u84 => ?_) (fun u84 => ?_)
                        · skip
                          refine hret _ _ _ _ _ _ _ _ _ _ _ none dX8_learnOne_90 ⟨rfl, rfl⟩ (by decide) (by decide) (fun hmok => ?_)
                          refine ⟨rfl, rfl, rfl, rfl, rfl, rfl, ?_⟩
                          try dsimp only
                          unfold lb14 lb15 lb16
                          rw [if_neg (by omega), if_pos (by omega), if_neg (by omega), mrow_self]
                          obtain rfl : i = b := by omega
                          exact (mrow_self (mrow M 15 _) 16).symm
                        · skip
                          refine v_aload_n X 0 dX8_learnOne_75 rfl rfl ?_
                          refine gt_X8_openTill X iwX8 (Std.lt hS rfl) (Std.k hS rfl rfl) (List.mem_cons_of_mem _ bw_5_9) dX8_learnOne_76 15 (Std.r hS 1 rfl) ?_
                          refine v_iload X 4 dX8_learnOne_79 rfl ?_
                          refine v_iload X 4 dX8_learnOne_81 rfl ?_
                          refine v_iast X (Std.lt hS rfl) (Std.at hS rfl rfl) (by omega) (by omega) ⟨by omega, by omega⟩ dX8_learnOne_83 ?_
                          refine v_iinc X 4 [(4, .int (iz (i + 1))), (0, .ref (ad 13)), (1, .int (iz k)), (2, .int (iz a)), (3, .int (iz b))] dX8_learnOne_84 rfl (by decide) rfl ?_
                          refine v_goto X 69 dX8_learnOne_87 (by decide) ?_
                          refine v_lv [1, 2, 3, 4, 0] rfl ?_
                          refine v_mem (M' := (mrow M 15 (fun z => if a ≤ z ∧ z < (i + 1) then z else M 15 z))) (by simp only [mu_mrow, row_oneZ hi.1]) rfl rfl ?_
                          exact ih81 (i + 1) (by omega) (by omega)
                    refine v_lv [1, 2, 3, 4, 0] rfl ?_
                    refine v_mem (M' := (mrow M 15 (fun z => if a ≤ z ∧ z < a then z else M 15 z))) (by rw [row_noneZ, mrow_self]) rfl rfl ?_
                    exact hl80 _ a (by omega) (Nat.lt_succ_self _)
            · skip
              refine v_aload_n X 0 dX8_learnOne_40 rfl rfl ?_
              refine gt_X8_ready X iwX8 (Std.lt hS rfl) (Std.k hS rfl rfl) (List.mem_cons_of_mem _ bw_5_10) dX8_learnOne_41 16 (Std.r hS 2 rfl) ?_
              refine v_iload_n X 2 dX8_learnOne_44 rfl rfl ?_
              refine v_iload_n X 3 dX8_learnOne_45 rfl rfl ?_
              refine v_iast X (Std.lt hS rfl) (Std.at hS rfl rfl) (by omega) (by omega) ⟨by omega, by omega⟩ dX8_learnOne_46 ?_
              refine v_goto X 90 dX8_learnOne_47 (by decide) ?_
              refine hret _ _ _ _ _ _ _ _ _ _ _ none dX8_learnOne_90 ⟨rfl, rfl⟩ (by decide) (by decide) (fun hmok => ?_)
              refine ⟨rfl, rfl, rfl, rfl, rfl, rfl, ?_⟩
              try dsimp only
              unfold lb14 lb15 lb16
              rw [if_neg (by omega), if_neg (by omega), if_pos (by omega)]
              rw [mrow_self, mrow_self, mu_row]
      · skip
        refine v_aload_n X 0 dX8_learnOne_15 rfl rfl ?_
        refine gt_X8_base X iwX8 (Std.lt hS rfl) (Std.k hS rfl rfl) (List.mem_cons_of_mem _ bw_5_8) dX8_learnOne_16 14 (Std.r hS 0 rfl) ?_
        refine v_iload_n X 2 dX8_learnOne_19 rfl rfl ?_
        refine v_iload_n X 3 dX8_learnOne_20 rfl rfl ?_
        refine v_iast X (Std.lt hS rfl) (Std.at hS rfl rfl) (by omega) (by omega) ⟨by omega, by omega⟩ dX8_learnOne_21 ?_
        refine v_goto X 90 dX8_learnOne_22 (by decide) ?_
        refine hret _ _ _ _ _ _ _ _ _ _ _ none dX8_learnOne_90 ⟨rfl, rfl⟩ (by decide) (by decide) (fun hmok => ?_)
        refine ⟨rfl, rfl, rfl, rfl, rfl, rfl, ?_⟩
        try dsimp only
        unfold lb14 lb15 lb16
        rw [if_pos (by omega), if_neg (by omega), if_neg (by omega)]
        show _ = mrow (mrow (mrow M 14 (fun z => if z = a then b else M 14 z)) 15 (mrow M 14 (fun z => if z = a then b else M 14 z) 15)) 16 (mrow M 14 (fun z => if z = a then b else M 14 z) 16)
        rw [mrow_self, mrow_self, mu_row]

-- carryBaseOn
set_option maxHeartbeats 4000000 in
set_option maxRecDepth 100000 in
theorem c_X8_carryBaseOn (l : Launch) (D : va_G) (cy : Nat → ClassId) {N : Nat} {sh : MS} {ad : Nat → Nat} {M L : MI} {R : MR} (hS : Std N sh R) : Ctr l D cy yX8_carryBaseOn wsX8_carryBaseOn ({ frames := 0, cells := 0, slots := 0, locals := 0 } : Room) N sh ad M L R [.ref (ad 13)] (eV N sh ad L R (fun M' => M' = mrow M 14 (caRow (M 14) 240))) := by
  refine Ctr.ofV (by decide) rfl (Nat.le_of_ble_eq_true rfl) ?_
  intro K hKl hKd hRm hnm X hret
  have X : VX K cX8_carryBaseOn 3 wsX8_carryBaseOn RX8 := X
  show V K 3 0 0 N sh ad M L R [(0, .ref (ad 13))] [] 0
  refine v_bipush X dX8_carryBaseOn_0 (by decide) ?_
  refine v_istore_n X [(1, .int (iz 9)), (0, .ref (ad 13))] dX8_carryBaseOn_2 rfl (by decide) rfl ?_
  refine v_iconst X dX8_carryBaseOn_3 ?_
  refine v_istore_n X [(2, .int (iz 0)), (1, .int (iz 9)), (0, .ref (ad 13))] dX8_carryBaseOn_4 rfl (by decide) rfl ?_
  have hl1 : ∀ (n3 : Nat) (lt : Int) (m : Int), (0 ≤ m ∧ m ≤ 240) → (lt = caPre (M 14) m) → (inR lt) → (240 - m).toNat < n3 → V K 3 0 0 N sh ad (mrow M 14 (caRow (M 14) m)) L R [(0, .ref (ad 13)), (1, .int (iz lt)), (2, .int (iz m))] [] 5 := by
    intro n3
    induction n3 with
    | zero => intro lt m hm hl hlr hn4; exact absurd hn4 (Nat.not_lt_zero _)
    | succ n3 ih2 =>
      intro lt m hm hl hlr hn4
      have e14 : caRow (M 14) m m = M 14 m := by unfold caRow; rw [if_neg (by omega)]
      refine v_iload_n X 2 dX8_carryBaseOn_5 rfl rfl ?_
      refine v_sipush X dX8_carryBaseOn_6 (by decide) ?_
      refine v_icmp_ge X 42 dX8_carryBaseOn_9 (by decide) ⟨by omega, by omega⟩ ⟨by decide, by decide⟩ (fun u5 => ?_) (fun u5 => ?_)
      · skip
        refine hret _ _ _ _ _ _ _ _ _ _ _ none dX8_carryBaseOn_42 ⟨rfl, rfl⟩ (by decide) (by decide) (fun hmok => ?_)
        refine ⟨rfl, rfl, rfl, rfl, rfl, rfl, ?_⟩
        try dsimp only
        obtain rfl : m = 240 := by omega
        rfl
      · skip
        refine v_aload_n X 0 dX8_carryBaseOn_12 rfl rfl ?_
        refine gt_X8_base X iwX8 (Std.lt hS rfl) (Std.k hS rfl rfl) (List.mem_cons_of_mem _ bw_5_8) dX8_carryBaseOn_13 14 (Std.r hS 0 rfl) ?_
        refine v_iload_n X 2 dX8_carryBaseOn_16 rfl rfl ?_
        refine v_iald X ((caRow (M 14) m) m) (Std.lt hS rfl) (Std.at hS rfl rfl) (by omega) (by omega) dX8_carryBaseOn_17 rfl (fun hr6 => ?_)
        refine v_iconst X dX8_carryBaseOn_18 ?_
        refine v_icmp_ne X 29 dX8_carryBaseOn_19 (by decide) ⟨by omega, by omega⟩ ⟨by decide, by decide⟩ (fun u7 => ?_) (fun u7 => ?_)
        · skip
          refine v_aload_n X 0 dX8_carryBaseOn_29 rfl rfl ?_
          refine gt_X8_base X iwX8 (Std.lt hS rfl) (Std.k hS rfl rfl) (List.mem_cons_of_mem _ bw_5_8) dX8_carryBaseOn_30 14 (Std.r hS 0 rfl) ?_
          refine v_iload_n X 2 dX8_carryBaseOn_33 rfl rfl ?_
          refine v_iald X ((caRow (M 14) m) m) (Std.lt hS rfl) (Std.at hS rfl rfl) (by omega) (by omega) dX8_carryBaseOn_34 rfl (fun hr8 => ?_)
          refine v_istore_n X [(1, .int (iz ((caRow (M 14) m) m))), (0, .ref (ad 13)), (2, .int (iz m))] dX8_carryBaseOn_35 rfl (by decide) rfl ?_
          refine v_iinc X 2 [(2, .int (iz (m + 1))), (1, .int (iz ((caRow (M 14) m) m))), (0, .ref (ad 13))] dX8_carryBaseOn_36 rfl (by decide) rfl ?_
          refine v_goto X 5 dX8_carryBaseOn_39 (by decide) ?_
          refine v_lv [2, 1, 0] rfl ?_
          refine v_mem (M' := (mrow M 14 (caRow (M 14) (m + 1)))) (by rw [← caRow_n hm.1 (by omega)]) rfl rfl ?_
          exact ih2 ((caRow (M 14) m) m) (m + 1) (by omega) (by rw [caPre_s _ hm.1]; rw [if_neg (by omega)]; exact e14) (⟨by omega, by omega⟩) (by omega)
        · skip
          refine v_aload_n X 0 dX8_carryBaseOn_22 rfl rfl ?_
          refine gt_X8_base X iwX8 (Std.lt hS rfl) (Std.k hS rfl rfl) (List.mem_cons_of_mem _ bw_5_8) dX8_carryBaseOn_23 14 (Std.r hS 0 rfl) ?_
          refine v_iload_n X 2 dX8_carryBaseOn_26 rfl rfl ?_
          refine v_iload_n X 1 dX8_carryBaseOn_27 rfl rfl ?_
          refine v_iast X (Std.lt hS rfl) (Std.at hS rfl rfl) (by omega) (by omega) ⟨by omega, by omega⟩ dX8_carryBaseOn_28 ?_
          refine v_aload_n X 0 dX8_carryBaseOn_29 rfl rfl ?_
          refine gt_X8_base X iwX8 (Std.lt hS rfl) (Std.k hS rfl rfl) (List.mem_cons_of_mem _ bw_5_8) dX8_carryBaseOn_30 14 (Std.r hS 0 rfl) ?_
          refine v_iload_n X 2 dX8_carryBaseOn_33 rfl rfl ?_
          refine v_iald X lt (Std.lt hS rfl) (Std.at hS rfl rfl) (by omega) (by omega) dX8_carryBaseOn_34 (by simp [mu, mrow]) (fun hr9 => ?_)
          refine v_istore_n X [(1, .int (iz lt)), (0, .ref (ad 13)), (2, .int (iz m))] dX8_carryBaseOn_35 rfl (by decide) rfl ?_
          refine v_iinc X 2 [(2, .int (iz (m + 1))), (1, .int (iz lt)), (0, .ref (ad 13))] dX8_carryBaseOn_36 rfl (by decide) rfl ?_
          refine v_goto X 5 dX8_carryBaseOn_39 (by decide) ?_
          refine v_lv [2, 1, 0] rfl ?_
          refine v_mem (M' := (mrow M 14 (caRow (M 14) (m + 1)))) (by simp only [mu_mrow]; rw [hl, caRow_y hm.1 (by omega)]) rfl rfl ?_
          exact ih2 lt (m + 1) (by omega) (by rw [caPre_s _ hm.1]; rw [if_pos (by omega)]; exact hl) (⟨by omega, by omega⟩) (by omega)
  refine v_lv [2, 1, 0] rfl ?_
  refine v_mem (M' := (mrow M 14 (caRow (M 14) 0))) (by rw [caRow_0, mrow_self]) rfl rfl ?_
  exact hl1 _ 9 0 (by omega) (rfl) (⟨by omega, by omega⟩) (Nat.lt_succ_self _)

-- lookAhead
set_option maxHeartbeats 4000000 in
set_option maxRecDepth 100000 in
theorem c_X8_lookAhead (l : Launch) (D : va_G) (cy : Nat → ClassId) {N : Nat} {sh : MS} {ad : Nat → Nat} {M L : MI} {R : MR} (hS : Std N sh R) : Ctr l D cy yX8_lookAhead wsX8_lookAhead ({ frames := 1, cells := 0, slots := 0, locals := 15 } : Room) N sh ad M L R [.ref (ad 13)] (eV N sh ad L R (fun M' => M' = mrow M 15 (laRow (M 15) (-1)))) := by
  refine Ctr.ofV (by decide) rfl (Nat.le_of_ble_eq_true rfl) ?_
  intro K hKl hKd hRm hnm X hret
  have X : VX K cX8_lookAhead 2 wsX8_lookAhead RX8 := X
  show V K 2 0 0 N sh ad M L R [(0, .ref (ad 13))] [] 0
  refine v_sipush X dX8_lookAhead_0 (by decide) ?_
  refine v_istore_n X [(1, .int (iz 238)), (0, .ref (ad 13))] dX8_lookAhead_3 rfl (by decide) rfl ?_
  have hl1 : ∀ (n3 : Nat) (i : Int), (-1 ≤ i ∧ i ≤ 238) → (i + 1).toNat < n3 → V K 2 0 0 N sh ad (mrow M 15 (laRow (M 15) i)) L R [(0, .ref (ad 13)), (1, .int (iz i))] [] 4 := by
    intro n3
    induction n3 with
    | zero => intro i hi hn4; exact absurd hn4 (Nat.not_lt_zero _)
    | succ n3 ih2 =>
      intro i hi hn4
      refine v_iload_n X 1 dX8_lookAhead_4 rfl rfl ?_
      refine v_if_lt X 37 dX8_lookAhead_5 (by decide) ⟨by omega, by omega⟩ (fun u5 => ?_) (fun u5 => ?_)
      · skip
        refine hret _ _ _ _ _ _ _ _ _ _ _ none dX8_lookAhead_37 ⟨rfl, rfl⟩ (by decide) (by decide) (fun hmok => ?_)
        refine ⟨rfl, rfl, rfl, rfl, rfl, rfl, ?_⟩
        try dsimp only
        obtain rfl : i = -1 := by omega
        rfl
      · skip
        refine v_aload_n X 0 dX8_lookAhead_8 rfl rfl ?_
        refine gt_X8_openTill X iwX8 (Std.lt hS rfl) (Std.k hS rfl rfl) (List.mem_cons_of_mem _ bw_5_9) dX8_lookAhead_9 15 (Std.r hS 1 rfl) ?_
        refine v_iload_n X 1 dX8_lookAhead_12 rfl rfl ?_
        refine v_aload_n X 0 dX8_lookAhead_13 rfl rfl ?_
        refine gt_X8_openTill X iwX8 (Std.lt hS rfl) (Std.k hS rfl rfl) (List.mem_cons_of_mem _ bw_5_9) dX8_lookAhead_14 15 (Std.r hS 1 rfl) ?_
        refine v_iload_n X 1 dX8_lookAhead_17 rfl rfl ?_
        refine v_iald X ((laRow (M 15) i) i) (Std.lt hS rfl) (Std.at hS rfl rfl) (by omega) (by omega) dX8_lookAhead_18 rfl (fun hr6 => ?_)
        refine v_aload_n X 0 dX8_lookAhead_19 rfl rfl ?_
        refine gt_X8_openTill X iwX8 (Std.lt hS rfl) (Std.k hS rfl rfl) (List.mem_cons_of_mem _ bw_5_9) dX8_lookAhead_20 15 (Std.r hS 1 rfl) ?_
        refine v_iload_n X 1 dX8_lookAhead_23 rfl rfl ?_
        refine v_iconst X dX8_lookAhead_24 ?_
        refine v_iadd X dX8_lookAhead_25 ?_
        refine v_iald X ((laRow (M 15) i) (i + 1)) (Std.lt hS rfl) (Std.at hS rfl rfl) (by omega) (by omega) dX8_lookAhead_26 rfl (fun hr7 => ?_)
        obtain ⟨x8, u9⟩ : ∃ z : Int, z = min ((laRow (M 15) i) i) ((laRow (M 15) i) (i + 1)) := ⟨_, rfl⟩
        refine v_min X x8 hRm (List.mem_cons_of_mem _ bw_32_3) (List.mem_cons_of_mem _ bw_32_4) (List.mem_cons_of_mem _ bw_18_8) (List.mem_cons_of_mem _ bw_32_5) ⟨Nat.le_of_ble_eq_true rfl, Nat.le_of_ble_eq_true rfl, Nat.le_of_ble_eq_true rfl, Nat.le_of_ble_eq_true rfl⟩ ⟨by omega, by omega⟩ ⟨by omega, by omega⟩ u9 dX8_lookAhead_27 ?_
        refine v_iast X (Std.lt hS rfl) (Std.at hS rfl rfl) (by omega) (by omega) ⟨by omega, by omega⟩ dX8_lookAhead_30 ?_
        refine v_iinc X 1 [(1, .int (iz (i + (-1)))), (0, .ref (ad 13))] dX8_lookAhead_31 rfl (by decide) rfl ?_
        refine v_goto X 4 dX8_lookAhead_34 (by decide) ?_
        refine v_lv [1, 0] rfl ?_
        refine v_mem (M' := (mrow M 15 (laRow (M 15) (i + (-1))))) (by simp only [mu_mrow]; rw [laRow_s (by omega) u9]; rfl) rfl rfl ?_
        exact ih2 (i + (-1)) (by omega) (by omega)
  refine v_lv [1, 0] rfl ?_
  refine v_mem (M' := (mrow M 15 (laRow (M 15) 238))) (by rw [← laRow_0]; exact (mrow_self M 15).symm) rfl rfl ?_
  exact hl1 _ 238 (by omega) (Nat.lt_succ_self _)

