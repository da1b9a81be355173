-- plan
set_option maxHeartbeats 4000000 in
set_option maxRecDepth 100000 in
theorem c_X12_plan (l : Launch) (D : va_G) (cy : Nat → ClassId) {N : Nat} {sh : MS} {ad : Nat → Nat} {M L : MI} {R : MR} (hS : Std N sh R) (n : Int) (hn : inR n) (hB : mBnd M) (hT : mTxt M) (hF : ∀ k : Int, 0 ≤ k → k < M 53 53 → FactOk (M 88 k) (M 89 k) (M 90 k)) (hC : mActs M) : Ctr l D cy yX12_plan wsX12_plan ({ frames := 6, cells := 0, slots := 0, locals := 150 } : Room) N sh ad M L R [.ref (ad 53), .int (iz n)] (eI N sh ad L R (fun r M' => if 0 ≤ n ∧ n ≤ M 53 53 then (r = wL (M 78) (FINm M n 0) ∧ rpP M' (FINm M n 0) ∧ okF (M 53 37) (FINm M n 0) ∧ (∀ i : Nat, i ≠ 53 → ¬ (91 ≤ i ∧ i ≤ 111) → M' i = M i) ∧ ∀ z : Int, ¬ (z = 62 ∨ z = 68 ∨ z = 69 ∨ (75 ≤ z ∧ z ≤ 78)) → M' 53 z = M 53 z) else r = -1 ∧ M' = M)) := by
  refine Ctr.ofI (by decide) rfl (Nat.le_of_ble_eq_true rfl) ?_
  intro K hKl hKd hRm hnm X hret
  have X : VX K cX12_plan 2 wsX12_plan RX12 := X
  show V K 2 0 0 N sh ad M L R [(0, .ref (ad 53)), (1, .int (iz n))] [] 0
  have b5 := hB.2.2.2.2.1
  refine v_aload_n X 0 dX12_plan_0 rfl rfl ?_
  refine v_iload_n X 1 dX12_plan_1 rfl rfl ?_
  refine v_callV X [.int (iz n)] hRm (c_X12_isKnown _ _ _ hS n ⟨by omega, by omega⟩) (gV bw_32_10 bw_32_11 bw_32_12 bw_1_5 bw_32_13) rfl ddX12_isKnown (by decide) (Std.lt hS rfl) (Std.k hS rfl rfl) ⟨rfl, by decide⟩ (Nat.le_of_ble_eq_true rfl) dX12_plan_2 (k_pB (fun b1 => ?_) (fun b1 => ?_))
  · skip
    refine v_if_eq X 17 dX12_plan_5 (by decide) ⟨by decide, by decide⟩ (fun q => absurd q (by decide)) (fun _ => ?_)
    refine v_aload_n X 0 dX12_plan_8 rfl rfl ?_
    refine v_iload_n X 1 dX12_plan_9 rfl rfl ?_
    refine v_iconst X dX12_plan_10 ?_
    refine v_callV X [.int (iz n), .int (iz 0)] hRm (c_X12_makes _ _ _ hS n (by omega) 0 (by decide) hB hT hF hC) (gV bw_38_19 bw_38_20 bw_38_21 bw_1_5 bw_38_22) rfl ddX12_makes (by decide) (Std.lt hS rfl) (Std.k hS rfl rfl) ⟨rfl, by decide⟩ (Nat.le_of_ble_eq_true rfl) dX12_plan_11 (k_eI (fun r2 M3 hr4 e5 => ?_))
    refine v_goto X 18 dX12_plan_14 (by decide) ?_
    refine hret _ _ _ _ _ _ _ _ _ _ _ (some (.int (iz r2))) dX12_plan_18 ⟨rfl, _, rfl⟩ (by decide) (by decide) (fun hmok => ?_)
    refine ⟨rfl, rfl, rfl, rfl, rfl, r2, rfl, ⟨by omega, by omega⟩, ?_⟩
    try dsimp only
    rw [if_pos (by omega)]
    exact e5
  · skip
    refine v_if_eq X 17 dX12_plan_5 (by decide) ⟨by decide, by decide⟩ (fun _ => ?_) (fun q => absurd (by decide) q)
    refine v_iconst X dX12_plan_17 ?_
    refine hret _ _ _ _ _ _ _ _ _ _ _ (some (.int (iz (-1)))) dX12_plan_18 ⟨rfl, _, rfl⟩ (by decide) (by decide) (fun hmok => ?_)
    refine ⟨rfl, rfl, rfl, rfl, rfl, (-1), rfl, ⟨by decide, by decide⟩, ?_⟩
    try dsimp only
    rw [if_neg (by omega)]
    exact ⟨rfl, rfl⟩

-- mend
set_option maxHeartbeats 4000000 in
set_option maxRecDepth 100000 in
theorem c_X12_mend (l : Launch) (D : va_G) (cy : Nat → ClassId) {N : Nat} {sh : MS} {ad : Nat → Nat} {M L : MI} {R : MR} (hS : Std N sh R) (n : Int) (hn : inR n) (hB : mBnd M) (hT : mTxt M) (hF : ∀ k : Int, 0 ≤ k → k < M 53 53 → FactOk (M 88 k) (M 89 k) (M 90 k)) (hC : mActs M) : Ctr l D cy yX12_mend wsX12_mend ({ frames := 6, cells := 0, slots := 0, locals := 150 } : Room) N sh ad M L R [.ref (ad 53), .int (iz n)] (eI N sh ad L R (fun r M' => if M 53 68 ≠ 0 ∧ 0 ≤ n ∧ n ≤ M 53 53 then (r = wL (M 78) (FINm M n 1) ∧ rpP M' (FINm M n 1) ∧ okF (M 53 37) (FINm M n 1) ∧ (∀ i : Nat, i ≠ 53 → ¬ (91 ≤ i ∧ i ≤ 111) → M' i = M i) ∧ ∀ z : Int, ¬ (z = 62 ∨ z = 68 ∨ z = 69 ∨ (75 ≤ z ∧ z ≤ 78)) → M' 53 z = M 53 z) else r = -1 ∧ M' = M)) := by
  refine Ctr.ofI (by decide) rfl (Nat.le_of_ble_eq_true rfl) ?_
  intro K hKl hKd hRm hnm X hret
  have X : VX K cX12_mend 2 wsX12_mend RX12 := X
  show V K 2 0 0 N sh ad M L R [(0, .ref (ad 53)), (1, .int (iz n))] [] 0
  have b5 := hB.2.2.2.2.1
  refine v_aload_n X 0 dX12_mend_0 rfl rfl ?_
  refine gt_X12_isPlanned X iwX12 (Std.lt hS rfl) (Std.k hS rfl rfl) (List.mem_cons_of_mem _ bw_39_1) dX12_mend_1 (M 53 68) rfl (fun hr1 => ?_)
  refine v_if_eq X 24 dX12_mend_4 (by decide) ⟨by omega, by omega⟩ (fun u2 => ?_) (fun u2 => ?_)
  · skip
    refine v_iconst X dX12_mend_24 ?_
    refine hret _ _ _ _ _ _ _ _ _ _ _ (some (.int (iz (-1)))) dX12_mend_25 ⟨rfl, _, rfl⟩ (by decide) (by decide) (fun hmok => ?_)
    refine ⟨rfl, rfl, rfl, rfl, rfl, (-1), rfl, ⟨by decide, by decide⟩, ?_⟩
    try dsimp only
    rw [if_neg (by omega)]
    exact ⟨rfl, rfl⟩
  · skip
    refine v_aload_n X 0 dX12_mend_7 rfl rfl ?_
    refine v_iload_n X 1 dX12_mend_8 rfl rfl ?_
    refine v_callV X [.int (iz n)] hRm (c_X12_isKnown _ _ _ hS n ⟨by omega, by omega⟩) (gV bw_32_10 bw_32_11 bw_32_12 bw_1_5 bw_32_13) rfl ddX12_isKnown (by decide) (Std.lt hS rfl) (Std.k hS rfl rfl) ⟨rfl, by decide⟩ (Nat.le_of_ble_eq_true rfl) dX12_mend_9 (k_pB (fun b3 => ?_) (fun b3 => ?_))
    · skip
      refine v_if_eq X 24 dX12_mend_12 (by decide) ⟨by decide, by decide⟩ (fun q => absurd q (by decide)) (fun _ => ?_)
      refine v_aload_n X 0 dX12_mend_15 rfl rfl ?_
      refine v_iload_n X 1 dX12_mend_16 rfl rfl ?_
      refine v_iconst X dX12_mend_17 ?_
      refine v_callV X [.int (iz n), .int (iz 1)] hRm (c_X12_makes _ _ _ hS n (by omega) 1 (by decide) hB hT hF hC) (gV bw_38_19 bw_38_20 bw_38_21 bw_1_5 bw_38_22) rfl ddX12_makes (by decide) (Std.lt hS rfl) (Std.k hS rfl rfl) ⟨rfl, by decide⟩ (Nat.le_of_ble_eq_true rfl) dX12_mend_18 (k_eI (fun r4 M5 hr6 e7 => ?_))
      refine v_goto X 25 dX12_mend_21 (by decide) ?_
      refine hret _ _ _ _ _ _ _ _ _ _ _ (some (.int (iz r4))) dX12_mend_25 ⟨rfl, _, rfl⟩ (by decide) (by decide) (fun hmok => ?_)
      refine ⟨rfl, rfl, rfl, rfl, rfl, r4, rfl, ⟨by omega, by omega⟩, ?_⟩
      try dsimp only
      rw [if_pos (by omega)]
      exact e7
    · skip
      refine v_if_eq X 24 dX12_mend_12 (by decide) ⟨by decide, by decide⟩ (fun _ => ?_) (fun q => absurd (by decide) q)
      refine v_iconst X dX12_mend_24 ?_
      refine hret _ _ _ _ _ _ _ _ _ _ _ (some (.int (iz (-1)))) dX12_mend_25 ⟨rfl, _, rfl⟩ (by decide) (by decide) (fun hmok => ?_)
      refine ⟨rfl, rfl, rfl, rfl, rfl, (-1), rfl, ⟨by decide, by decide⟩, ?_⟩
      try dsimp only
      rw [if_neg (by omega)]
      exact ⟨rfl, rfl⟩

/-! CAN: the numbers one behind the other; whether it has ended, the ones seen, the order so far or none, the worth -/
def canR (A : Int) (pl : List Fl → Int → Option Fl) (w : Int → Int) : List Int → Bool → List Int → Option (List Fl) → Int → Int
  | [], _, _, g, al => if g.isSome = true then al else -2
  | k :: ks, en, us, g, al =>
    if k = -1 then canR A pl w ks true us g al
    else if en = true ∨ ¬ (0 ≤ k ∧ k < A) ∨ k ∈ us then -1
    else canR A pl w ks false (k :: us) (g.bind (fun p => (pl p k).map (fun f => f :: p))) (al + w k)
def shlI (x y : Int) : Int := (iz x <<< (iz y &&& 31)).toInt
theorem bits0 : ∀ k : Fin 6, andI (shrI 0 (k : Nat)) 1 = 0 := by decide +kernel
theorem bitsF : ∀ (s : Fin 64) (k : Fin 6), (0 ≤ orI ((s : Nat) : Int) (shlI 1 ((k : Nat) : Int)) ∧ orI ((s : Nat) : Int) (shlI 1 ((k : Nat) : Int)) < 64) ∧ ∀ j : Fin 6, andI (shrI (orI ((s : Nat) : Int) (shlI 1 ((k : Nat) : Int))) ((j : Nat) : Int)) 1 = if j = k then 1 else andI (shrI ((s : Nat) : Int) ((j : Nat) : Int)) 1 := by decide +kernel
def seenOk (s : Int) (us : List Int) : Prop := (0 ≤ s ∧ s < 64) ∧ ∀ k : Int, 0 ≤ k → k < 6 → andI (shrI s k) 1 = if k ∈ us then 1 else 0
theorem seen0 : seenOk 0 [] := ⟨by decide, fun k h1 h2 => by
  have := bits0 ⟨k.toNat, by omega⟩
  rw [show ((⟨k.toNat, by omega⟩ : Fin 6) : Nat) = k.toNat from rfl, show ((k.toNat : Nat) : Int) = k by omega] at this
  rw [this]; simp⟩
theorem seenS {s : Int} {us : List Int} (h : seenOk s us) {k : Int} (h1 : 0 ≤ k) (h2 : k < 6) : seenOk (orI s (shlI 1 k)) (k :: us) := by
  have q := bitsF ⟨s.toNat, by have := h.1; omega⟩ ⟨k.toNat, by omega⟩
  simp only [show ((s.toNat : Nat) : Int) = s by have := h.1; omega, show ((k.toNat : Nat) : Int) = k by omega] at q
  refine ⟨q.1, fun j j1 j2 => ?_⟩
  have z := q.2 ⟨j.toNat, by omega⟩
  simp only [show ((j.toNat : Nat) : Int) = j by omega, Fin.mk.injEq] at z
  rw [z, h.2 j j1 j2]
  by_cases y : j = k
  · rw [if_pos (by omega), if_pos (by rw [y]; exact List.mem_cons_self)]
  · rw [if_neg (by omega)]
    by_cases x : j ∈ us
    · rw [if_pos x, if_pos (List.mem_cons_of_mem _ x)]
    · rw [if_neg x, if_neg (by rw [List.mem_cons]; intro q; rcases q with q | q; exact y q; exact x q)]

-- can
set_option maxHeartbeats 4000000 in
set_option maxRecDepth 100000 in
theorem c_X12_can (l : Launch) (D : va_G) (cy : Nat → ClassId) {N : Nat} {sh : MS} {ad : Nat → Nat} {M L : MI} {R : MR} (hS : Std N sh R) (a : Int) (b : Int) (c : Int) (d : Int) (n : Int) (ha : inR a) (hb : inR b) (hc : inR c) (hd : inR d) (hn : inR n) (hB : mBnd M) (hT : mTxt M) (hF : ∀ k : Int, 0 ≤ k → k < M 53 53 → FactOk (M 88 k) (M 89 k) (M 90 k)) (hC : mActs M) : Ctr l D cy yX12_can wsX12_can ({ frames := 5, cells := 0, slots := 0, locals := 124 } : Room) N sh ad M L R [.ref (ad 53), .int (iz a), .int (iz b), .int (iz c), .int (iz d), .int (iz n)] (eI N sh ad L R (fun r M' => r = (if (0 ≤ n ∧ n ≤ M 53 53) ∧ 0 ≤ a ∧ a < M 53 37 then canR (M 53 37) (mpl (mK M n)) (M 78) [a, b, c, d] false [] (some []) 0 else -1) ∧ ((M' = M) ∨ frM (mK M n) M'))) := by
  refine Ctr.ofI (by decide) rfl (Nat.le_of_ble_eq_true rfl) ?_
  intro K hKl hKd hRm hnm X hret
  have X : VX K cX12_can 12 wsX12_can RX12 := X
  show V K 12 0 0 N sh ad M L R [(0, .ref (ad 53)), (1, .int (iz a)), (2, .int (iz b)), (3, .int (iz c)), (4, .int (iz d)), (5, .int (iz n))] [] 0
  have b1 := hB.1
  have b5 := hB.2.2.2.2.1
  refine v_aload_n X 0 dX12_can_0 rfl rfl ?_
  refine v_iload X 5 dX12_can_1 rfl ?_
  refine v_callV X [.int (iz n)] hRm (c_X12_isKnown _ _ _ hS n ⟨by omega, by omega⟩) (gV bw_32_10 bw_32_11 bw_32_12 bw_1_5 bw_32_13) rfl ddX12_isKnown (by decide) (Std.lt hS rfl) (Std.k hS rfl rfl) ⟨rfl, by decide⟩ (Nat.le_of_ble_eq_true rfl) dX12_can_3 (k_pB (fun b1 => ?_) (fun b1 => ?_))
  · skip
    refine v_if_eq X 17 dX12_can_6 (by decide) ⟨by decide, by decide⟩ (fun q => absurd q (by decide)) (fun _ => ?_)
    refine v_aload_n X 0 dX12_can_9 rfl rfl ?_
    refine v_iload_n X 1 dX12_can_10 rfl rfl ?_
    refine v_callV X [.int (iz a)] hRm (c_X12_isAct _ _ _ hS a ⟨by omega, by omega⟩) (gV bw_25_1 bw_25_2 bw_25_3 bw_1_5 bw_25_4) rfl ddX12_isAct (by decide) (Std.lt hS rfl) (Std.k hS rfl rfl) ⟨rfl, by decide⟩ (Nat.le_of_ble_eq_true rfl) dX12_can_11 (k_pB (fun b2 => ?_) (fun b2 => ?_))
    · skip
      refine v_if_ne X 19 dX12_can_14 (by decide) ⟨by decide, by decide⟩ (fun _ => ?_) (fun q => absurd (by decide) q)
      refine v_aload_n X 0 dX12_can_19 rfl rfl ?_
      refine v_iload X 5 dX12_can_20 rfl ?_
      refine v_callV X [.int (iz n)] hRm (c_X12_knows _ _ _ hS n (by omega) (fun k q1 q2 => hF k q1 (by omega))) (gV bw_32_14 bw_32_15 bw_32_16 bw_1_5 bw_32_17) rfl ddX12_knows (by decide) (Std.lt hS rfl) (Std.k hS rfl rfl) ⟨rfl, by decide⟩ (Nat.le_of_ble_eq_true rfl) dX12_can_22 (k_eV (fun M4 e3 => ?_))
      replace e3 : M4 = (mrow (mrow (mrow M 91 (bsRow (M 88) (M 89) (M 90) n.toNat 240 (M 91))) 92 (shRow (M 88) (M 89) (M 90) n.toNat (M 92))) 93 (rdRow (M 88) (M 89) (M 90) n.toNat (M 93))) := e3
      subst e3
      obtain ⟨M0, hM0⟩ : ∃ X, X = mK M n := ⟨_, rfl⟩
      refine v_mem (M' := M0) (by rw [hM0]; rfl) rfl rfl ?_
      have hB0 : mBnd M0 := by rw [hM0]; exact hB
      have hT0 : mTxt M0 := by rw [hM0]; exact hT
      have e37 : M0 53 37 = M 53 37 := by rw [hM0]; rfl
      have e78 : M0 78 = M 78 := by rw [hM0]; rfl
      have hA0 : ∀ a : Int, 0 ≤ a → a < M0 53 37 → mPreA M0 a := fun a q1 q2 => by rw [hM0]; exact mK_pre (by omega) (fun k k1 k2 => hF k k1 (by omega)) hC (by omega) q1 (by omega)
      have hW0 : ∀ a : Int, 0 ≤ a → a < M0 53 37 → 0 ≤ M0 78 a ∧ M0 78 a ≤ 100 := fun a q1 q2 => by rw [e78]; exact (hC a q1 (by omega)).2
      obtain ⟨RES, hRES⟩ : ∃ X, X = canR (M0 53 37) (mpl M0) (M0 78) [a, b, c, d] false [] (some []) 0 := ⟨_, rfl⟩
      refine v_aload_n X 0 dX12_can_25 rfl rfl ?_
      refine v_iconst X dX12_can_26 ?_
      refine pt_X12_placed X iwX12 (Std.lt hS rfl) (Std.k hS rfl rfl) (List.mem_cons_of_mem _ bw_38_23) ⟨by decide, by decide⟩ dX12_can_27 ?_
      refine v_iconst X dX12_can_30 ?_
      refine v_istore X [(6, .int (iz 1)), (0, .ref (ad 53)), (1, .int (iz a)), (2, .int (iz b)), (3, .int (iz c)), (4, .int (iz d)), (5, .int (iz n))] dX12_can_31 (by decide) rfl ?_
      refine v_iconst X dX12_can_33 ?_
      refine v_istore X [(7, .int (iz 0)), (6, .int (iz 1)), (0, .ref (ad 53)), (1, .int (iz a)), (2, .int (iz b)), (3, .int (iz c)), (4, .int (iz d)), (5, .int (iz n))] dX12_can_34 (by decide) rfl ?_
      refine v_iconst X dX12_can_36 ?_
      refine v_istore X [(8, .int (iz 0)), (7, .int (iz 0)), (6, .int (iz 1)), (0, .ref (ad 53)), (1, .int (iz a)), (2, .int (iz b)), (3, .int (iz c)), (4, .int (iz d)), (5, .int (iz n))] dX12_can_37 (by decide) rfl ?_
      refine v_iconst X dX12_can_39 ?_
      refine v_istore X [(9, .int (iz 0)), (8, .int (iz 0)), (7, .int (iz 0)), (6, .int (iz 1)), (0, .ref (ad 53)), (1, .int (iz a)), (2, .int (iz b)), (3, .int (iz c)), (4, .int (iz d)), (5, .int (iz n))] dX12_can_40 (by decide) rfl ?_
      refine v_iconst X dX12_can_42 ?_
      refine v_istore X [(10, .int (iz 0)), (9, .int (iz 0)), (8, .int (iz 0)), (7, .int (iz 0)), (6, .int (iz 1)), (0, .ref (ad 53)), (1, .int (iz a)), (2, .int (iz b)), (3, .int (iz c)), (4, .int (iz d)), (5, .int (iz n))] dX12_can_43 (by decide) rfl ?_
      have hl5 : ∀ (n7 : Nat) (Mx : MI) (gd : Int) (en : Int) (se : Int) (al : Int) (i : Int) (us : List Int) (p : List Fl) (g : Option (List Fl)), (0 ≤ i ∧ i ≤ 4) → (frM M0 Mx) → (en = 0 ∨ en = 1) → (seenOk se us) → (0 ≤ al ∧ al ≤ 100 * i) → ((gd = 1 ∧ g = some p ∧ rpN Mx p ∧ okF (M0 53 37) p ∧ (p.length : Int) ≤ i ∧ ∀ k, inF p k = true → k ∈ us) ∨ (gd = 0 ∧ g = none)) → (canR (M0 53 37) (mpl M0) (M0 78) ([a, b, c, d].drop i.toNat) (decide (en = 1)) us g al = RES) → (4 - i).toNat < n7 → V K 12 0 0 N sh ad Mx L R [(0, .ref (ad 53)), (1, .int (iz a)), (2, .int (iz b)), (3, .int (iz c)), (4, .int (iz d)), (5, .int (iz n)), (6, .int (iz gd)), (7, .int (iz en)), (8, .int (iz se)), (9, .int (iz al)), (10, .int (iz i))] [] 45 := by
        intro n7
        induction n7 with
        | zero => intro Mx gd en se al i us p g hi hfr hen hse hal hg hres hn8; exact absurd hn8 (Nat.not_lt_zero _)
        | succ n7 ih6 =>
          intro Mx gd en se al i us p g hi hfr hen hse hal hg hres hn8
          have hse1 := hse.1
          have g37 := hfr.2.1 37 (by decide) (by decide)
          refine v_iload X 10 dX12_can_45 rfl ?_
          refine v_iconst X dX12_can_47 ?_
          refine v_icmp_ge X 196 dX12_can_48 (by decide) ⟨by omega, by omega⟩ ⟨by decide, by decide⟩ (fun u9 => ?_) (fun u9 => ?_)
          · skip
            refine v_iload X 6 dX12_can_196 rfl ?_
            refine v_if_eq X 206 dX12_can_198 (by decide) ⟨by omega, by omega⟩ (fun u10 => ?_) (fun u10 => ?_)
            · skip
              refine v_bipush X dX12_can_206 (by decide) ?_
              refine hret _ _ _ _ _ _ _ _ _ _ _ (some (.int (iz (-2)))) dX12_can_208 ⟨rfl, _, rfl⟩ (by decide) (by decide) (fun hmok => ?_)
              refine ⟨rfl, rfl, rfl, rfl, rfl, (-2), rfl, ⟨by decide, by decide⟩, ?_⟩
              try dsimp only
              refine ⟨?_, Or.inr (by rw [← hM0]; exact hfr)⟩
              rw [if_pos (by omega), ← hM0, ← e37, ← e78, ← hRES]
              rw [← hres, show [a, b, c, d].drop i.toNat = [] by obtain rfl : i = 4 := (by omega); rfl]
              have hg2 : g = none := by rcases hg with z | z; exact absurd z.1 (by omega); exact z.2
              rw [hg2]
              rfl
            · skip
              refine v_iload X 9 dX12_can_201 rfl ?_
              refine v_goto X 208 dX12_can_203 (by decide) ?_
              refine hret _ _ _ _ _ _ _ _ _ _ _ (some (.int (iz al))) dX12_can_208 ⟨rfl, _, rfl⟩ (by decide) (by decide) (fun hmok => ?_)
              refine ⟨rfl, rfl, rfl, rfl, rfl, al, rfl, ⟨by omega, by omega⟩, ?_⟩
              try dsimp only
              refine ⟨?_, Or.inr (by rw [← hM0]; exact hfr)⟩
              rw [if_pos (by omega), ← hM0, ← e37, ← e78, ← hRES]
              rw [← hres, show [a, b, c, d].drop i.toNat = [] by obtain rfl : i = 4 := (by omega); rfl]
              obtain ⟨_, hg2, _⟩ := hg.resolve_right (fun z => by omega)
              rw [hg2]
              rfl
          · skip
            have hj11 : ∀ (k : Int), ([a, b, c, d].drop i.toNat = k :: [a, b, c, d].drop (i + 1).toNat) → (inR k) →  V K 12 0 0 N sh ad Mx L R [(0, .ref (ad 53)), (1, .int (iz a)), (2, .int (iz b)), (3, .int (iz c)), (4, .int (iz d)), (5, .int (iz n)), (6, .int (iz gd)), (7, .int (iz en)), (8, .int (iz se)), (9, .int (iz al)), (10, .int (iz i))] [.int (iz k)] 82 := by
              intro k hk hkr
              refine v_istore X [(11, .int (iz k)), (0, .ref (ad 53)), (1, .int (iz a)), (2, .int (iz b)), (3, .int (iz c)), (4, .int (iz d)), (5, .int (iz n)), (6, .int (iz gd)), (7, .int (iz en)), (8, .int (iz se)), (9, .int (iz al)), (10, .int (iz i))] dX12_can_82 (by decide) rfl ?_
              refine v_iload X 8 dX12_can_84 rfl ?_
              refine v_if_ne X 95 dX12_can_86 (by decide) ⟨by omega, by omega⟩ (fun u12 => ?_) (fun u12 => ?_)
              · skip
                refine v_iconst X dX12_can_95 ?_
                refine v_goto X 100 dX12_can_96 (by decide) ?_
                refine v_istore X [(7, .int (iz 1)), (11, .int (iz k)), (0, .ref (ad 53)), (1, .int (iz a)), (2, .int (iz b)), (3, .int (iz c)), (4, .int (iz d)), (5, .int (iz n)), (6, .int (iz gd)), (8, .int (iz se)), (9, .int (iz al)), (10, .int (iz i))] dX12_can_100 (by decide) rfl ?_
                refine v_iload X 0 dX12_can_102 rfl ?_
                refine v_if_eq X 113 dX12_can_104 (by decide) ⟨by decide, by decide⟩ (fun q => absurd q (by decide)) (fun _ => ?_)
                refine v_iload X 1 dX12_can_107 rfl ?_
                refine v_iconst X dX12_can_109 ?_
                refine v_icmp_ne X 138 dX12_can_110 (by decide) ⟨by omega, by omega⟩ ⟨by decide, by decide⟩ (fun u13 => ?_) (fun u13 => ?_)
                · skip
                  refine v_iconst X dX12_can_138 ?_
                  refine hret _ _ _ _ _ _ _ _ _ _ _ (some (.int (iz (-1)))) dX12_can_139 ⟨rfl, _, rfl⟩ (by decide) (by decide) (fun hmok => ?_)
                  refine ⟨rfl, rfl, rfl, rfl, rfl, (-1), rfl, ⟨by decide, by decide⟩, ?_⟩
                  try dsimp only
                  refine ⟨?_, Or.inr (by rw [← hM0]; exact hfr)⟩
                  rw [if_pos (by omega), ← hM0, ← e37, ← e78, ← hRES]
                  rw [← hres, hk, canR, if_neg (by omega), if_pos (by first | exact Or.inl (decide_eq_true (by omega)) | exact Or.inr (Or.inl (by omega)) | exact Or.inr (Or.inr (by by_cases z : k ∈ us; exact z; (rw [if_neg z] at hbt; omega))))]
                · skip
                  refine v_iload X 0 dX12_can_113 rfl ?_
                  refine v_if_ne X 140 dX12_can_115 (by decide) ⟨by decide, by decide⟩ (fun _ => ?_) (fun q => absurd (by decide) q)
                  refine v_iload X 0 dX12_can_140 rfl ?_
                  refine v_if_eq X 148 dX12_can_142 (by decide) ⟨by decide, by decide⟩ (fun q => absurd q (by decide)) (fun _ => ?_)
                  refine v_goto X 190 dX12_can_145 (by decide) ?_
                  refine v_iinc X 11 [(10, .int (iz (i + 1))), (7, .int (iz 1)), (11, .int (iz k)), (0, .ref (ad 53)), (1, .int (iz a)), (2, .int (iz b)), (3, .int (iz c)), (4, .int (iz d)), (5, .int (iz n)), (6, .int (iz gd)), (8, .int (iz se)), (9, .int (iz al))] dX12_can_190 rfl (by decide) rfl ?_
                  refine v_goto X 45 dX12_can_193 (by decide) ?_
                  refine v_lv [3, 4, 5, 6, 7, 8, 9, 1, 10, 11, 0] rfl ?_
                  exact ih6 Mx gd 1 se al (i + 1) us p g (by omega) (hfr) (by decide) (hse) (by omega) ((by rcases hg with ⟨z1, z2, z3, z4, z5, z6⟩ | z; exact Or.inl ⟨z1, z2, z3, z4, by omega, z6⟩; exact Or.inr z)) ((by rw [← hres, hk, show canR (M0 53 37) (mpl M0) (M0 78) (k :: [a, b, c, d].drop (i + 1).toNat) (decide (en = 1)) us g al = canR (M0 53 37) (mpl M0) (M0 78) ([a, b, c, d].drop (i + 1).toNat) true us g al from by rw [canR, if_pos (by omega)]]; rfl)) (by omega)
              · skip
                refine v_iload X 0 dX12_can_89 rfl ?_
                refine v_iconst X dX12_can_91 ?_
                refine v_icmp_ne X 99 dX12_can_92 (by decide) ⟨by omega, by omega⟩ ⟨by decide, by decide⟩ (fun u14 => ?_) (fun u14 => ?_)
                · skip
                  refine v_iconst X dX12_can_99 ?_
                  refine v_istore X [(7, .int (iz 0)), (11, .int (iz k)), (0, .ref (ad 53)), (1, .int (iz a)), (2, .int (iz b)), (3, .int (iz c)), (4, .int (iz d)), (5, .int (iz n)), (6, .int (iz gd)), (8, .int (iz se)), (9, .int (iz al)), (10, .int (iz i))] dX12_can_100 (by decide) rfl ?_
                  refine v_iload X 0 dX12_can_102 rfl ?_
                  refine v_if_eq X 113 dX12_can_104 (by decide) ⟨by decide, by decide⟩ (fun _ => ?_) (fun q => absurd (by decide) q)
                  refine v_iload X 0 dX12_can_113 rfl ?_
                  refine v_if_ne X 140 dX12_can_115 (by decide) ⟨by decide, by decide⟩ (fun q => absurd q (by decide)) (fun _ => ?_)
                  refine v_aload_n X 2 dX12_can_118 rfl rfl ?_
                  refine v_iload X 1 dX12_can_119 rfl ?_
                  refine v_callV X [.int (iz k)] hRm (c_X12_isAct _ _ _ hS k ⟨by omega, by omega⟩) (gV bw_25_1 bw_25_2 bw_25_3 bw_1_5 bw_25_4) rfl ddX12_isAct (by decide) (Std.lt hS rfl) (Std.k hS rfl rfl) ⟨rfl, by decide⟩ (Nat.le_of_ble_eq_true rfl) dX12_can_121 (k_pB (fun b15 => ?_) (fun b15 => ?_))
                  · skip
                    refine v_if_eq X 138 dX12_can_124 (by decide) ⟨by decide, by decide⟩ (fun q => absurd q (by decide)) (fun _ => ?_)
                    have hbt := hse.2 k (by omega) (by omega)
                    have hbr : andI (shrI se k) 1 = 0 ∨ andI (shrI se k) 1 = 1 := by rw [hbt]; split; exact Or.inr rfl; exact Or.inl rfl
                    refine v_iload X 9 dX12_can_127 rfl ?_
                    refine v_iload X 1 dX12_can_129 rfl ?_
                    refine v_ishr X (shrI se k) dX12_can_131 (iz_self _).symm ?_
                    refine v_iconst X dX12_can_132 ?_
                    refine v_iand X (andI (shrI se k) 1) dX12_can_133 (iz_self _).symm ?_
                    refine v_iconst X dX12_can_134 ?_
                    refine v_icmp_ne X 140 dX12_can_135 (by decide) ⟨by omega, by omega⟩ ⟨by decide, by decide⟩ (fun u16 => ?_) (fun u16 => ?_)
                    · skip
                      refine v_iload X 0 dX12_can_140 rfl ?_
                      refine v_if_eq X 148 dX12_can_142 (by decide) ⟨by decide, by decide⟩ (fun _ => ?_) (fun q => absurd (by decide) q)
                      have hkn : ¬ k ∈ us := fun z => by rw [if_pos z] at hbt; omega
                      have hok9 : ¬ (decide (en = 1) = true ∨ ¬ (0 ≤ k ∧ k < M0 53 37) ∨ k ∈ us) := by rintro (z | z | z); exact absurd (of_decide_eq_true z) (by omega); exact z ⟨by omega, by omega⟩; exact hkn z
                      refine v_iload X 9 dX12_can_148 rfl ?_
                      refine v_iconst X dX12_can_150 ?_
                      refine v_iload X 1 dX12_can_151 rfl ?_
                      refine v_ishl X (shlI 1 k) dX12_can_153 (iz_self _).symm ?_
                      refine v_ior X (orI se (shlI 1 k)) dX12_can_154 (iz_self _).symm ?_
                      refine v_istore X [(8, .int (iz (orI se (shlI 1 k)))), (7, .int (iz 0)), (11, .int (iz k)), (0, .ref (ad 53)), (1, .int (iz a)), (2, .int (iz b)), (3, .int (iz c)), (4, .int (iz d)), (5, .int (iz n)), (6, .int (iz gd)), (9, .int (iz al)), (10, .int (iz i))] dX12_can_155 (by decide) rfl ?_
                      have hx78 : Mx 78 = M0 78 := hfr.1 78 (by decide) (by decide) (by decide)
                      refine v_iload X 10 dX12_can_157 rfl ?_
                      refine v_aload_n X 3 dX12_can_159 rfl rfl ?_
                      refine gt_X12_worth X iwX12 (Std.lt hS rfl) (Std.k hS rfl rfl) (List.mem_cons_of_mem _ bw_8_16) dX12_can_160 78 (Std.r hS 40 rfl) ?_
                      refine v_iload X 2 dX12_can_163 rfl ?_
                      refine v_iald X (Mx 78 k) (Std.lt hS rfl) (Std.at hS rfl rfl) (by omega) (by omega) dX12_can_165 rfl (fun hr17 => ?_)
                      refine v_iadd X dX12_can_166 ?_
                      rw [hx78]
                      refine v_istore X [(9, .int (iz (al + M0 78 k))), (8, .int (iz (orI se (shlI 1 k)))), (7, .int (iz 0)), (11, .int (iz k)), (0, .ref (ad 53)), (1, .int (iz a)), (2, .int (iz b)), (3, .int (iz c)), (4, .int (iz d)), (5, .int (iz n)), (6, .int (iz gd)), (10, .int (iz i))] dX12_can_167 (by decide) rfl ?_
                      refine v_iload X 10 dX12_can_169 rfl ?_
                      refine v_if_eq X 187 dX12_can_171 (by decide) ⟨by omega, by omega⟩ (fun u18 => ?_) (fun u18 => ?_)
                      · skip
                        have hg2 : g = none := by rcases hg with z | z; exact absurd z.1 (by omega); exact z.2
                        refine v_iconst X dX12_can_187 ?_
                        refine v_istore X [(6, .int (iz 0)), (9, .int (iz (al + M0 78 k))), (8, .int (iz (orI se (shlI 1 k)))), (7, .int (iz 0)), (11, .int (iz k)), (0, .ref (ad 53)), (1, .int (iz a)), (2, .int (iz b)), (3, .int (iz c)), (4, .int (iz d)), (5, .int (iz n)), (10, .int (iz i))] dX12_can_188 (by decide) rfl ?_
                        refine v_iinc X 11 [(10, .int (iz (i + 1))), (6, .int (iz 0)), (9, .int (iz (al + M0 78 k))), (8, .int (iz (orI se (shlI 1 k)))), (7, .int (iz 0)), (11, .int (iz k)), (0, .ref (ad 53)), (1, .int (iz a)), (2, .int (iz b)), (3, .int (iz c)), (4, .int (iz d)), (5, .int (iz n))] dX12_can_190 rfl (by decide) rfl ?_
                        refine v_goto X 45 dX12_can_193 (by decide) ?_
                        refine v_lv [6, 7, 8, 9, 10, 11, 1, 4, 3, 2, 0] rfl ?_
                        exact ih6 Mx 0 0 (orI se (shlI 1 k)) (al + M0 78 k) (i + 1) (k :: us) p none (by omega) (hfr) (by decide) (seenS hse (by omega) (by omega)) (by have := hW0 k (by omega) (by omega); omega) (Or.inr ⟨rfl, rfl⟩) ((by rw [← hres, hk, show canR (M0 53 37) (mpl M0) (M0 78) (k :: [a, b, c, d].drop (i + 1).toNat) (decide (en = 1)) us g al = canR (M0 53 37) (mpl M0) (M0 78) ([a, b, c, d].drop (i + 1).toNat) false (k :: us) (g.bind (fun p => (mpl M0 p k).map (fun f => f :: p))) (al + M0 78 k) from by rw [canR, if_neg (by omega), if_neg hok9]]; rw [hg2]; rfl)) (by omega)
                      · skip
                        obtain ⟨_, hg2, hg3, hg4, hg5, hg6⟩ := hg.resolve_right (fun z => by omega)
                        have hin : inF p k = false := Bool.eq_false_iff.mpr (fun z => hkn (hg6 k z))
                        refine v_aload_n X 4 dX12_can_174 rfl rfl ?_
                        refine v_iload X 3 dX12_can_175 rfl ?_
                        refine v_callV X [.int (iz k)] hRm (c_X12_placesL _ _ _ hS k p (mBnd_fr hfr hB0) (mTxt_fr hfr hT0) (mPreA_fr hfr (hA0 _ (by omega) (by omega))) hg3 (by rw [g37]; exact hg4) (by omega)) (gV bw_39_10 bw_39_11 bw_39_12 bw_1_5 bw_39_13) rfl ddX12_places (by decide) (Std.lt hS rfl) (Std.k hS rfl rfl) ⟨rfl, by decide⟩ (Nat.le_of_ble_eq_true rfl) dX12_can_177 (k_eB (fun M19 e20 => ?_) (fun M19 e20 => ?_))
                        · skip
                          obtain ⟨f, y1, y2, y3, y4, y5⟩ := e20
                          rw [mpl_fr hfr] at y1
                          have hfa : fa f = k := by have z := y1; unfold mpl at z; split at z; cases z; cases z; rfl
                          refine v_if_eq X 187 dX12_can_180 (by decide) ⟨by decide, by decide⟩ (fun q => absurd q (by decide)) (fun _ => ?_)
                          refine v_iconst X dX12_can_183 ?_
                          refine v_goto X 188 dX12_can_184 (by decide) ?_
                          refine v_istore X [(6, .int (iz 1)), (9, .int (iz (al + M0 78 k))), (8, .int (iz (orI se (shlI 1 k)))), (7, .int (iz 0)), (11, .int (iz k)), (0, .ref (ad 53)), (1, .int (iz a)), (2, .int (iz b)), (3, .int (iz c)), (4, .int (iz d)), (5, .int (iz n)), (10, .int (iz i))] dX12_can_188 (by decide) rfl ?_
                          refine v_iinc X 11 [(10, .int (iz (i + 1))), (6, .int (iz 1)), (9, .int (iz (al + M0 78 k))), (8, .int (iz (orI se (shlI 1 k)))), (7, .int (iz 0)), (11, .int (iz k)), (0, .ref (ad 53)), (1, .int (iz a)), (2, .int (iz b)), (3, .int (iz c)), (4, .int (iz d)), (5, .int (iz n))] dX12_can_190 rfl (by decide) rfl ?_
                          refine v_goto X 45 dX12_can_193 (by decide) ?_
                          refine v_lv [6, 7, 8, 9, 10, 11, 1, 4, 3, 2, 0] rfl ?_
                          exact ih6 M19 1 0 (orI se (shlI 1 k)) (al + M0 78 k) (i + 1) (k :: us) (f :: p) (some (f :: p)) (by omega) (frM_trans hfr y3) (by decide) (seenS hse (by omega) (by omega)) (by have := hW0 k (by omega) (by omega); omega) (Or.inl ⟨rfl, rfl, y2, mpl_ok hB0 (hA0 _ (by omega) (by omega)) hg4 hin y1, (by simp only [List.length_cons]; omega), fun j z => (by have z : (decide (fa f = j) || inF p j) = true := z; rw [Bool.or_eq_true, decide_eq_true_iff] at z; rcases z with z | z; (rw [← z, hfa]; exact List.mem_cons_self); exact List.mem_cons_of_mem _ (hg6 j z))⟩) ((by rw [← hres, hk, show canR (M0 53 37) (mpl M0) (M0 78) (k :: [a, b, c, d].drop (i + 1).toNat) (decide (en = 1)) us g al = canR (M0 53 37) (mpl M0) (M0 78) ([a, b, c, d].drop (i + 1).toNat) false (k :: us) (g.bind (fun p => (mpl M0 p k).map (fun f => f :: p))) (al + M0 78 k) from by rw [canR, if_neg (by omega), if_neg hok9]]; rw [hg2]; show canR _ _ _ _ _ _ (some (f :: p)) _ = canR _ _ _ _ _ _ ((mpl M0 p k).map (fun f => f :: p)) _; rw [y1]; rfl)) (by omega)
                        · skip
                          obtain ⟨y1, y2, y3, y4, y5⟩ := e20
                          rw [mpl_fr hfr] at y1
                          refine v_if_eq X 187 dX12_can_180 (by decide) ⟨by decide, by decide⟩ (fun _ => ?_) (fun q => absurd (by decide) q)
                          refine v_iconst X dX12_can_187 ?_
                          refine v_istore X [(6, .int (iz 0)), (9, .int (iz (al + M0 78 k))), (8, .int (iz (orI se (shlI 1 k)))), (7, .int (iz 0)), (11, .int (iz k)), (0, .ref (ad 53)), (1, .int (iz a)), (2, .int (iz b)), (3, .int (iz c)), (4, .int (iz d)), (5, .int (iz n)), (10, .int (iz i))] dX12_can_188 (by decide) rfl ?_
                          refine v_iinc X 11 [(10, .int (iz (i + 1))), (6, .int (iz 0)), (9, .int (iz (al + M0 78 k))), (8, .int (iz (orI se (shlI 1 k)))), (7, .int (iz 0)), (11, .int (iz k)), (0, .ref (ad 53)), (1, .int (iz a)), (2, .int (iz b)), (3, .int (iz c)), (4, .int (iz d)), (5, .int (iz n))] dX12_can_190 rfl (by decide) rfl ?_
                          refine v_goto X 45 dX12_can_193 (by decide) ?_
                          refine v_lv [6, 7, 8, 9, 10, 11, 1, 4, 3, 2, 0] rfl ?_
                          exact ih6 M19 0 0 (orI se (shlI 1 k)) (al + M0 78 k) (i + 1) (k :: us) p none (by omega) (frM_trans hfr y3) (by decide) (seenS hse (by omega) (by omega)) (by have := hW0 k (by omega) (by omega); omega) (Or.inr ⟨rfl, rfl⟩) ((by rw [← hres, hk, show canR (M0 53 37) (mpl M0) (M0 78) (k :: [a, b, c, d].drop (i + 1).toNat) (decide (en = 1)) us g al = canR (M0 53 37) (mpl M0) (M0 78) ([a, b, c, d].drop (i + 1).toNat) false (k :: us) (g.bind (fun p => (mpl M0 p k).map (fun f => f :: p))) (al + M0 78 k) from by rw [canR, if_neg (by omega), if_neg hok9]]; rw [hg2]; show canR _ _ _ _ _ _ none _ = canR _ _ _ _ _ _ ((mpl M0 p k).map (fun f => f :: p)) _; rw [y1]; rfl)) (by omega)
                    · skip
                      refine v_iconst X dX12_can_138 ?_
                      refine hret _ _ _ _ _ _ _ _ _ _ _ (some (.int (iz (-1)))) dX12_can_139 ⟨rfl, _, rfl⟩ (by decide) (by decide) (fun hmok => ?_)
                      refine ⟨rfl, rfl, rfl, rfl, rfl, (-1), rfl, ⟨by decide, by decide⟩, ?_⟩
                      try dsimp only
                      refine ⟨?_, Or.inr (by rw [← hM0]; exact hfr)⟩
                      rw [if_pos (by omega), ← hM0, ← e37, ← e78, ← hRES]
                      rw [← hres, hk, canR, if_neg (by omega), if_pos (by first | exact Or.inl (decide_eq_true (by omega)) | exact Or.inr (Or.inl (by omega)) | exact Or.inr (Or.inr (by by_cases z : k ∈ us; exact z; (rw [if_neg z] at hbt; omega))))]
                  · skip
                    refine v_if_eq X 138 dX12_can_124 (by decide) ⟨by decide, by decide⟩ (fun _ => ?_) (fun q => absurd (by decide) q)
                    refine v_iconst X dX12_can_138 ?_
                    refine hret _ _ _ _ _ _ _ _ _ _ _ (some (.int (iz (-1)))) dX12_can_139 ⟨rfl, _, rfl⟩ (by decide) (by decide) (fun hmok => ?_)
                    refine ⟨rfl, rfl, rfl, rfl, rfl, (-1), rfl, ⟨by decide, by decide⟩, ?_⟩
                    try dsimp only
                    refine ⟨?_, Or.inr (by rw [← hM0]; exact hfr)⟩
                    rw [if_pos (by omega), ← hM0, ← e37, ← e78, ← hRES]
                    rw [← hres, hk, canR, if_neg (by omega), if_pos (by first | exact Or.inl (decide_eq_true (by omega)) | exact Or.inr (Or.inl (by omega)) | exact Or.inr (Or.inr (by by_cases z : k ∈ us; exact z; (rw [if_neg z] at hbt; omega))))]
                · skip
                  refine v_iconst X dX12_can_95 ?_
                  refine v_goto X 100 dX12_can_96 (by decide) ?_
                  refine v_istore X [(7, .int (iz 1)), (11, .int (iz k)), (0, .ref (ad 53)), (1, .int (iz a)), (2, .int (iz b)), (3, .int (iz c)), (4, .int (iz d)), (5, .int (iz n)), (6, .int (iz gd)), (8, .int (iz se)), (9, .int (iz al)), (10, .int (iz i))] dX12_can_100 (by decide) rfl ?_
                  refine v_iload X 0 dX12_can_102 rfl ?_
                  refine v_if_eq X 113 dX12_can_104 (by decide) ⟨by decide, by decide⟩ (fun q => absurd q (by decide)) (fun _ => ?_)
                  refine v_iload X 1 dX12_can_107 rfl ?_
                  refine v_iconst X dX12_can_109 ?_
                  refine v_icmp_ne X 138 dX12_can_110 (by decide) ⟨by omega, by omega⟩ ⟨by decide, by decide⟩ (fun u21 => ?_) (fun u21 => ?_)
                  · skip
                    refine v_iconst X dX12_can_138 ?_
                    refine hret _ _ _ _ _ _ _ _ _ _ _ (some (.int (iz (-1)))) dX12_can_139 ⟨rfl, _, rfl⟩ (by decide) (by decide) (fun hmok => ?_)
                    refine ⟨rfl, rfl, rfl, rfl, rfl, (-1), rfl, ⟨by decide, by decide⟩, ?_⟩
                    try dsimp only
                    refine ⟨?_, Or.inr (by rw [← hM0]; exact hfr)⟩
                    rw [if_pos (by omega), ← hM0, ← e37, ← e78, ← hRES]
                    rw [← hres, hk, canR, if_neg (by omega), if_pos (by first | exact Or.inl (decide_eq_true (by omega)) | exact Or.inr (Or.inl (by omega)) | exact Or.inr (Or.inr (by by_cases z : k ∈ us; exact z; (rw [if_neg z] at hbt; omega))))]
                  · skip
                    refine v_iload X 0 dX12_can_113 rfl ?_
                    refine v_if_ne X 140 dX12_can_115 (by decide) ⟨by decide, by decide⟩ (fun _ => ?_) (fun q => absurd (by decide) q)
                    refine v_iload X 0 dX12_can_140 rfl ?_
                    refine v_if_eq X 148 dX12_can_142 (by decide) ⟨by decide, by decide⟩ (fun q => absurd q (by decide)) (fun _ => ?_)
                    refine v_goto X 190 dX12_can_145 (by decide) ?_
                    refine v_iinc X 11 [(10, .int (iz (i + 1))), (7, .int (iz 1)), (11, .int (iz k)), (0, .ref (ad 53)), (1, .int (iz a)), (2, .int (iz b)), (3, .int (iz c)), (4, .int (iz d)), (5, .int (iz n)), (6, .int (iz gd)), (8, .int (iz se)), (9, .int (iz al))] dX12_can_190 rfl (by decide) rfl ?_
                    refine v_goto X 45 dX12_can_193 (by decide) ?_
                    refine v_lv [3, 4, 5, 6, 7, 8, 9, 1, 10, 11, 0] rfl ?_
                    exact ih6 Mx gd 1 se al (i + 1) us p g (by omega) (hfr) (by decide) (hse) (by omega) ((by rcases hg with ⟨z1, z2, z3, z4, z5, z6⟩ | z; exact Or.inl ⟨z1, z2, z3, z4, by omega, z6⟩; exact Or.inr z)) ((by rw [← hres, hk, show canR (M0 53 37) (mpl M0) (M0 78) (k :: [a, b, c, d].drop (i + 1).toNat) (decide (en = 1)) us g al = canR (M0 53 37) (mpl M0) (M0 78) ([a, b, c, d].drop (i + 1).toNat) true us g al from by rw [canR, if_pos (by omega)]]; rfl)) (by omega)
            refine v_iload X 10 dX12_can_51 rfl ?_
            refine v_if_ne X 60 dX12_can_53 (by decide) ⟨by omega, by omega⟩ (fun u22 => ?_) (fun u22 => ?_)
            · skip
              refine v_iload X 10 dX12_can_60 rfl ?_
              refine v_iconst X dX12_can_62 ?_
              refine v_icmp_ne X 70 dX12_can_63 (by decide) ⟨by omega, by omega⟩ ⟨by decide, by decide⟩ (fun u23 => ?_) (fun u23 => ?_)
              · skip
                refine v_iload X 10 dX12_can_70 rfl ?_
                refine v_iconst X dX12_can_72 ?_
                refine v_icmp_ne X 80 dX12_can_73 (by decide) ⟨by omega, by omega⟩ ⟨by decide, by decide⟩ (fun u24 => ?_) (fun u24 => ?_)
                · skip
                  refine v_iload X 4 dX12_can_80 rfl ?_
                  exact hj11 d (by obtain rfl : i = 3 := (by omega); rfl) (⟨by omega, by omega⟩) 
                · skip
                  refine v_iload_n X 3 dX12_can_76 rfl rfl ?_
                  refine v_goto X 82 dX12_can_77 (by decide) ?_
                  exact hj11 c (by obtain rfl : i = 2 := (by omega); rfl) (⟨by omega, by omega⟩) 
              · skip
                refine v_iload_n X 2 dX12_can_66 rfl rfl ?_
                refine v_goto X 82 dX12_can_67 (by decide) ?_
                exact hj11 b (by obtain rfl : i = 1 := (by omega); rfl) (⟨by omega, by omega⟩) 
            · skip
              refine v_iload_n X 1 dX12_can_56 rfl rfl ?_
              refine v_goto X 82 dX12_can_57 (by decide) ?_
              exact hj11 a (by obtain rfl : i = 0 := (by omega); rfl) (⟨by omega, by omega⟩) 
      refine v_lv [5, 6, 7, 8, 9, 10, 4, 3, 2, 1, 0] rfl ?_
      exact hl5 _ (mu M0 53 62 0) 1 0 0 0 0 ([]) ([]) (some []) (by omega) (⟨fun i i1 _ _ => mu_i _ _ _ i1, fun z z1 _ => mu_z _ _ _ z1, fun _ _ => rfl⟩) (by decide) (seen0) (by decide) (Or.inl ⟨rfl, rfl, ⟨rfl, trivial⟩, trivial, Int.le_refl _, fun k z => (by cases z)⟩) (by rw [hRES]; rfl) (Nat.lt_succ_self _)
    · skip
      refine v_if_ne X 19 dX12_can_14 (by decide) ⟨by decide, by decide⟩ (fun q => absurd q (by decide)) (fun _ => ?_)
      refine v_iconst X dX12_can_17 ?_
      refine hret _ _ _ _ _ _ _ _ _ _ _ (some (.int (iz (-1)))) dX12_can_18 ⟨rfl, _, rfl⟩ (by decide) (by decide) (fun hmok => ?_)
      refine ⟨rfl, rfl, rfl, rfl, rfl, (-1), rfl, ⟨by decide, by decide⟩, ?_⟩
      try dsimp only
      refine ⟨?_, Or.inl rfl⟩
      rw [if_neg (by omega)]
  · skip
    refine v_if_eq X 17 dX12_can_6 (by decide) ⟨by decide, by decide⟩ (fun _ => ?_) (fun q => absurd (by decide) q)
    refine v_iconst X dX12_can_17 ?_
    refine hret _ _ _ _ _ _ _ _ _ _ _ (some (.int (iz (-1)))) dX12_can_18 ⟨rfl, _, rfl⟩ (by decide) (by decide) (fun hmok => ?_)
    refine ⟨rfl, rfl, rfl, rfl, rfl, (-1), rfl, ⟨by decide, by decide⟩, ?_⟩
    try dsimp only
    refine ⟨?_, Or.inl rfl⟩
    rw [if_neg (by omega)]

