/-! the figures of act q, by their numbers -/
def cG (R : MR) (q : Nat) (j : Int) : Nat := (R ((R q 6).getD 0) j).getD 0
def cRf (M : MI) (R : MR) (q : Nat) : Int → Bool := fun j => decide (M 6 5 ≤ cFar M (cG R q j))
def cHi (M : MI) (R : MR) (q : Nat) : Int → Bool := fun j => decide (M (cG R q j) 3 ≠ 0)
def cMn (M : MI) (R : MR) (q : Nat) : Int → Int := fun j => M (cG R q j) 0
def cHt (M : MI) (R : MR) (q : Nat) : Int → Int := fun j => M (cG R q j) 2
def cLen (M : MI) (R : MR) (q : Nat) (b : Int) : Int := lenF (M q 7).toNat (cRf M R q) (cHi M R q) (cMn M R q) (cHt M R q) b
/-- which figures don't count, flown high (e 1) or flat (e 0) -/
def cNo (M : MI) (R : MR) (q : Nat) (e : Int) : Int → Bool := fun j => cRf M R q j || (decide (e = 0) && cHi M R q j)
theorem cNo_t {M : MI} {R : MR} {q : Nat} {e j : Int} : cNo M R q e j = true ↔ (M 6 5 ≤ cFar M (cG R q j) ∨ (e = 0 ∧ M (cG R q j) 3 ≠ 0)) := by
  unfold cNo cRf cHi
  rw [Bool.or_eq_true, Bool.and_eq_true, decide_eq_true_iff, decide_eq_true_iff, decide_eq_true_iff]
theorem cG_of {R : MR} {q g : Nat} {j : Int} (h : ∃ f : Nat, R q 6 = some f ∧ R f j = some g) : cG R q j = g := by
  obtain ⟨f, h1, h2⟩ := h
  unfold cG
  rw [h1]
  show (R f j).getD 0 = g
  rw [h2]
  rfl
theorem fTop_mono (rf : Int → Bool) (ht : Int → Int) {n m : Nat} (h : n ≤ m) : fTop rf ht n ≤ fTop rf ht m := by
  induction m with
  | zero => rw [show n = 0 by omega]; exact Int.le_refl _
  | succ m ih =>
    rcases Nat.lt_or_ge m n with q | q
    · rw [show n = m + 1 by omega]; exact Int.le_refl _
    · have := ih q
      rw [fTop_s]
      split <;> omega
theorem fTop_ge {rf : Int → Bool} {ht : Int → Int} {n m : Nat} {b : Int} (h : n < m) (h1 : rf (n : Int) = false) (h2 : b ≤ ht (n : Int)) : b ≤ fTop rf ht m := by
  have h3 := fTop_mono rf ht (n := n + 1) (m := m) h
  rw [fTop_s, if_neg (by rw [h1]; decide)] at h3
  omega
theorem fAll_le {rf rg : Int → Bool} {mn : Int → Int} (hr : ∀ k, rf k = true → rg k = true) : ∀ n : Nat, (∀ k : Int, 0 ≤ k → k < (n : Int) → 0 ≤ mn k) → 0 ≤ fAll rg mn n ∧ fAll rg mn n ≤ fAll rf mn n
  | 0, _ => ⟨Int.le_refl _, Int.le_refl _⟩
  | n + 1, hm => by
    have ih := fAll_le (rf := rf) (rg := rg) (mn := mn) hr n (fun k q1 q2 => hm k q1 (by omega))
    have h1 := hm (n : Int) (by omega) (by omega)
    have h2 := hr (n : Int)
    rw [fAll_s, fAll_s]
    split
    · split <;> omega
    · rename_i q
      rw [if_neg (fun e => q (h2 e))]
      omega
theorem fTop_le {rf rg : Int → Bool} {ht : Int → Int} (hr : ∀ k, rf k = true → rg k = true) : ∀ n : Nat, -1 ≤ fTop rg ht n ∧ fTop rg ht n ≤ fTop rf ht n
  | 0 => ⟨Int.le_refl _, Int.le_refl _⟩
  | n + 1 => by
    have ih := fTop_le (ht := ht) hr n
    have h2 := hr (n : Int)
    rw [fTop_s, fTop_s]
    split
    · split <;> omega
    · rename_i q
      rw [if_neg (fun e => q (h2 e))]
      omega

-- minutesBelow
set_option maxHeartbeats 4000000 in
set_option maxRecDepth 100000 in
theorem c_X7_minutesBelow (l : Launch) (D : va_G) (cy : Nat → ClassId) {N : Nat} {sh : MS} {ad : Nat → Nat} {M L : MI} {R : MR} (hS : Std N sh R) (q : Nat) (b e : Int) (hb : 0 ≤ b ∧ b ≤ 9) (he : 0 ≤ e ∧ e ≤ 1) (hO : ShowOk M R sh N) (hq : ActOk M R sh N q) : Ctr l D cy yX7_minutesBelow wsX7_minutesBelow ({ frames := 1, cells := 0, slots := 0, locals := 23 } : Room) N sh ad M L R [.ref (ad 6), .ref (ad q), .int (iz b), .int (iz e)] (pI N sh ad M L R (fun r => r = if fTop (cNo M R q e) (cHt M R q) (M q 7).toNat < b then fAll (cNo M R q e) (cMn M R q) (M q 7).toNat else 0)) := by
  refine Ctr.ofI (by decide) rfl (Nat.le_of_ble_eq_true rfl) ?_
  intro K hKl hKd hRm hnm X hret
  have X : VX K cX7_minutesBelow 7 wsX7_minutesBelow RX7 := X
  show V K 7 0 0 N sh ad M L R [(0, .ref (ad 6)), (1, .ref (ad q)), (2, .int (iz b)), (3, .int (iz e))] [] 0
  have b1 := hq.2.2.2.1
  refine v_iconst X dX7_minutesBelow_0 ?_
  refine v_istore X [(4, .int (iz 0)), (0, .ref (ad 6)), (1, .ref (ad q)), (2, .int (iz b)), (3, .int (iz e))] dX7_minutesBelow_1 (by decide) rfl ?_
  refine v_iconst X dX7_minutesBelow_3 ?_
  refine v_istore X [(5, .int (iz 0)), (4, .int (iz 0)), (0, .ref (ad 6)), (1, .ref (ad q)), (2, .int (iz b)), (3, .int (iz e))] dX7_minutesBelow_4 (by decide) rfl ?_
  have hl1 : ∀ (n3 : Nat) (s4 : Int) (i : Int) (tp : Int) (j : Nat), (i = (j : Int)) → ((j : Int) ≤ M q 7) → (0 ≤ s4 ∧ s4 ≤ 9 * (j : Int)) → (s4 = fAll (cNo M R q e) (cMn M R q) j) → (tp = fTop (cNo M R q e) (cHt M R q) j) → (-1 ≤ tp ∧ tp < b) → (M q 7 - (j : Int)).toNat < n3 → V K 7 0 0 N sh ad M L R [(0, .ref (ad 6)), (1, .ref (ad q)), (2, .int (iz b)), (3, .int (iz e)), (4, .int (iz s4)), (5, .int (iz i))] [] 6 := by
    intro n3
    induction n3 with
    | zero => intro s4 i tp j ei hj g4 h4 h5 g5 hn4; exact absurd hn4 (Nat.not_lt_zero _)
    | succ n3 ih2 =>
      intro s4 i tp j ei hj g4 h4 h5 g5 hn4
      refine v_iload X 5 dX7_minutesBelow_6 rfl ?_
      refine v_aload_n X 1 dX7_minutesBelow_8 rfl rfl ?_
      refine gt_X0_size X iwX0 hq.2.1 hq.2.2.1 (List.mem_cons_of_mem _ bw_30_10) dX7_minutesBelow_9 (M q 7) rfl (fun hr5 => ?_)
      refine v_icmp_ge X 76 dX7_minutesBelow_12 (by decide) ⟨by omega, by omega⟩ ⟨by omega, by omega⟩ (fun u6 => ?_) (fun u6 => ?_)
      · skip
        refine v_iload X 4 dX7_minutesBelow_76 rfl ?_
        refine hret _ _ _ _ _ _ _ _ _ _ _ (some (.int (iz s4))) dX7_minutesBelow_78 ⟨rfl, _, rfl⟩ (by decide) (by decide) (fun hmok => ?_)
        refine ⟨rfl, rfl, rfl, rfl, rfl, rfl, s4, rfl, ⟨by omega, by omega⟩, ?_⟩
        try dsimp only
        rw [show (M q 7).toNat = j by omega, if_pos (by omega)]
        exact h4
      · skip
        refine v_aload_n X 1 dX7_minutesBelow_15 rfl rfl ?_
        refine v_iload X 5 dX7_minutesBelow_16 rfl ?_
        refine v_callV X [.int (iz i)] hRm (c_X0_figureAt _ _ _ hS i ⟨by omega, by omega⟩ q hq) (gV bw_30_13 bw_29_5 bw_29_6 bw_22_22 bw_29_7) rfl ddX0_figureAt (by decide) hq.2.1 hq.2.2.1 ⟨rfl, by decide⟩ (Nat.le_of_ble_eq_true rfl) dX7_minutesBelow_18 (k_pR (fun r7 e8 => ?_))
        rcases e8 with ⟨rfl, o10n⟩ | ⟨q9, rfl, o10r, o10b, o10k⟩
        · skip
          exfalso; omega
        · skip
          refine v_st (st' := [.ref (ad q9)]) rfl ?_
          refine v_astore X [(6, .ref (ad q9)), (0, .ref (ad 6)), (1, .ref (ad q)), (2, .int (iz b)), (3, .int (iz e)), (4, .int (iz s4)), (5, .int (iz i))] dX7_minutesBelow_21 (by decide) rfl ?_
          have f0 := o10k.2.2.2.1
          have f2 := o10k.2.2.2.2.2.1
          refine v_aload X 0 dX7_minutesBelow_23 rfl ?_
          refine v_ifnull X dX7_minutesBelow_25 ?_
          refine v_iload_n X 4 dX7_minutesBelow_28 rfl rfl ?_
          refine v_if_ne X 40 dX7_minutesBelow_29 (by decide) ⟨by omega, by omega⟩ (fun u11 => ?_) (fun u11 => ?_)
          · skip
            refine v_aload_n X 1 dX7_minutesBelow_40 rfl rfl ?_
            refine v_aload X 0 dX7_minutesBelow_41 rfl ?_
            refine v_callV X [.ref (ad q9)] hRm (c_X7_refuses _ _ _ hS q9 hO o10k) (gV bw_30_14 bw_29_9 bw_29_10 bw_1_22 bw_29_11) rfl ddX7_refuses (by decide) (Std.lt hS rfl) (Std.k hS rfl rfl) ⟨rfl, by decide⟩ (Nat.le_of_ble_eq_true rfl) dX7_minutesBelow_43 (k_pB (fun b12 => ?_) (fun b12 => ?_))
            · skip
              refine v_if_ne X 70 dX7_minutesBelow_46 (by decide) ⟨by decide, by decide⟩ (fun _ => ?_) (fun q => absurd (by decide) q)
              refine v_iinc X 6 [(5, .int (iz (i + 1))), (6, .ref (ad q9)), (0, .ref (ad 6)), (1, .ref (ad q)), (2, .int (iz b)), (3, .int (iz e)), (4, .int (iz s4))] dX7_minutesBelow_70 rfl (by decide) rfl ?_
              refine v_goto X 6 dX7_minutesBelow_73 (by decide) ?_
              refine v_lv [2, 3, 4, 5, 6, 0] rfl ?_
              exact ih2 s4 (i + 1) (fTop (cNo M R q e) (cHt M R q) (j + 1)) (j + 1) (by omega) (by omega) (by omega) (by rw [fAll_s, ← h4]; (first | rw [if_pos (by rw [cNo_t, (show cG R q (j : Int) = q9 by rw [← ei]; exact cG_of o10r)]; omega)] | rw [if_neg (by rw [cNo_t, (show cG R q (j : Int) = q9 by rw [← ei]; exact cG_of o10r)]; omega)]) <;> (try simp only [cMn]) <;> (try rw [(show cG R q (j : Int) = q9 by rw [← ei]; exact cG_of o10r)]) <;> (try omega)) (rfl) (by rw [fTop_s, ← h5]; (first | rw [if_pos (by rw [cNo_t, (show cG R q (j : Int) = q9 by rw [← ei]; exact cG_of o10r)]; omega)] | rw [if_neg (by rw [cNo_t, (show cG R q (j : Int) = q9 by rw [← ei]; exact cG_of o10r)]; omega)]) <;> (try simp only [cHt]) <;> (try rw [(show cG R q (j : Int) = q9 by rw [← ei]; exact cG_of o10r)]) <;> (try omega)) (by omega)
            · skip
              refine v_if_ne X 70 dX7_minutesBelow_46 (by decide) ⟨by decide, by decide⟩ (fun q => absurd q (by decide)) (fun _ => ?_)
              refine v_aload X 0 dX7_minutesBelow_49 rfl ?_
              refine gt_X2_height X iwX2 o10k.2.1 o10k.2.2.1 (List.mem_cons_of_mem _ bw_29_12) dX7_minutesBelow_51 (M q9 2) rfl (fun hr13 => ?_)
              refine v_iload_n X 3 dX7_minutesBelow_54 rfl rfl ?_
              refine v_icmp_lt X 60 dX7_minutesBelow_55 (by decide) ⟨by omega, by omega⟩ ⟨by omega, by omega⟩ (fun u14 => ?_) (fun u14 => ?_)
              · skip
                refine v_iload X 5 dX7_minutesBelow_60 rfl ?_
                refine v_aload X 0 dX7_minutesBelow_62 rfl ?_
                refine gt_X2_minutes X iwX2 o10k.2.1 o10k.2.2.1 (List.mem_cons_of_mem _ bw_30_12) dX7_minutesBelow_64 (M q9 0) rfl (fun hr15 => ?_)
                refine v_iadd X dX7_minutesBelow_67 ?_
                refine v_istore X [(4, .int (iz (s4 + (M q9 0)))), (6, .ref (ad q9)), (0, .ref (ad 6)), (1, .ref (ad q)), (2, .int (iz b)), (3, .int (iz e)), (5, .int (iz i))] dX7_minutesBelow_68 (by decide) rfl ?_
                refine v_iinc X 6 [(5, .int (iz (i + 1))), (4, .int (iz (s4 + (M q9 0)))), (6, .ref (ad q9)), (0, .ref (ad 6)), (1, .ref (ad q)), (2, .int (iz b)), (3, .int (iz e))] dX7_minutesBelow_70 rfl (by decide) rfl ?_
                refine v_goto X 6 dX7_minutesBelow_73 (by decide) ?_
                refine v_lv [3, 4, 5, 6, 1, 0] rfl ?_
                exact ih2 (s4 + (M q9 0)) (i + 1) (fTop (cNo M R q e) (cHt M R q) (j + 1)) (j + 1) (by omega) (by omega) (by omega) (by rw [fAll_s, ← h4]; (first | rw [if_pos (by rw [cNo_t, (show cG R q (j : Int) = q9 by rw [← ei]; exact cG_of o10r)]; omega)] | rw [if_neg (by rw [cNo_t, (show cG R q (j : Int) = q9 by rw [← ei]; exact cG_of o10r)]; omega)]) <;> (try simp only [cMn]) <;> (try rw [(show cG R q (j : Int) = q9 by rw [← ei]; exact cG_of o10r)]) <;> (try omega)) (rfl) (by rw [fTop_s, ← h5]; (first | rw [if_pos (by rw [cNo_t, (show cG R q (j : Int) = q9 by rw [← ei]; exact cG_of o10r)]; omega)] | rw [if_neg (by rw [cNo_t, (show cG R q (j : Int) = q9 by rw [← ei]; exact cG_of o10r)]; omega)]) <;> (try simp only [cHt]) <;> (try rw [(show cG R q (j : Int) = q9 by rw [← ei]; exact cG_of o10r)]) <;> (try omega)) (by omega)
              · skip
                refine v_iconst X dX7_minutesBelow_58 ?_
                refine hret _ _ _ _ _ _ _ _ _ _ _ (some (.int (iz 0))) dX7_minutesBelow_59 ⟨rfl, _, rfl⟩ (by decide) (by decide) (fun hmok => ?_)
                refine ⟨rfl, rfl, rfl, rfl, rfl, rfl, 0, rfl, ⟨by decide, by decide⟩, ?_⟩
                try dsimp only
                have hge := fTop_ge (rf := cNo M R q e) (ht := cHt M R q) (n := j) (m := (M q 7).toNat) (b := b) (by omega) (Bool.eq_false_iff.mpr (fun z => by rw [cNo_t] at z; rw [(show cG R q (j : Int) = q9 by rw [← ei]; exact cG_of o10r)] at z; omega)) (by show b ≤ M (cG R q (j : Int)) 2; rw [(show cG R q (j : Int) = q9 by rw [← ei]; exact cG_of o10r)]; omega)
                rw [if_neg (by omega)]
          · skip
            refine v_aload X 0 dX7_minutesBelow_32 rfl ?_
            refine gt_X2_high X iwX2 o10k.2.1 o10k.2.2.1 (List.mem_cons_of_mem _ bw_30_11) dX7_minutesBelow_34 (M q9 3) rfl (fun hr16 => ?_)
            refine v_if_ne X 70 dX7_minutesBelow_37 (by decide) ⟨by omega, by omega⟩ (fun u17 => ?_) (fun u17 => ?_)
            · skip
              refine v_iinc X 6 [(5, .int (iz (i + 1))), (6, .ref (ad q9)), (0, .ref (ad 6)), (1, .ref (ad q)), (2, .int (iz b)), (3, .int (iz e)), (4, .int (iz s4))] dX7_minutesBelow_70 rfl (by decide) rfl ?_
              refine v_goto X 6 dX7_minutesBelow_73 (by decide) ?_
              refine v_lv [2, 3, 4, 5, 6, 0] rfl ?_
              exact ih2 s4 (i + 1) (fTop (cNo M R q e) (cHt M R q) (j + 1)) (j + 1) (by omega) (by omega) (by omega) (by rw [fAll_s, ← h4]; (first | rw [if_pos (by rw [cNo_t, (show cG R q (j : Int) = q9 by rw [← ei]; exact cG_of o10r)]; omega)] | rw [if_neg (by rw [cNo_t, (show cG R q (j : Int) = q9 by rw [← ei]; exact cG_of o10r)]; omega)]) <;> (try simp only [cMn]) <;> (try rw [(show cG R q (j : Int) = q9 by rw [← ei]; exact cG_of o10r)]) <;> (try omega)) (rfl) (by rw [fTop_s, ← h5]; (first | rw [if_pos (by rw [cNo_t, (show cG R q (j : Int) = q9 by rw [← ei]; exact cG_of o10r)]; omega)] | rw [if_neg (by rw [cNo_t, (show cG R q (j : Int) = q9 by rw [← ei]; exact cG_of o10r)]; omega)]) <;> (try simp only [cHt]) <;> (try rw [(show cG R q (j : Int) = q9 by rw [← ei]; exact cG_of o10r)]) <;> (try omega)) (by omega)
            · skip
              refine v_aload_n X 1 dX7_minutesBelow_40 rfl rfl ?_
              refine v_aload X 0 dX7_minutesBelow_41 rfl ?_
              refine v_callV X [.ref (ad q9)] hRm (c_X7_refuses _ _ _ hS q9 hO o10k) (gV bw_30_14 bw_29_9 bw_29_10 bw_1_22 bw_29_11) rfl ddX7_refuses (by decide) (Std.lt hS rfl) (Std.k hS rfl rfl) ⟨rfl, by decide⟩ (Nat.le_of_ble_eq_true rfl) dX7_minutesBelow_43 (k_pB (fun b18 => ?_) (fun b18 => ?_))
              · skip
                refine v_if_ne X 70 dX7_minutesBelow_46 (by decide) ⟨by decide, by decide⟩ (fun _ => ?_) (fun q => absurd (by decide) q)
                refine v_iinc X 6 [(5, .int (iz (i + 1))), (6, .ref (ad q9)), (0, .ref (ad 6)), (1, .ref (ad q)), (2, .int (iz b)), (3, .int (iz e)), (4, .int (iz s4))] dX7_minutesBelow_70 rfl (by decide) rfl ?_
                refine v_goto X 6 dX7_minutesBelow_73 (by decide) ?_
                refine v_lv [2, 3, 4, 5, 6, 0] rfl ?_
                exact ih2 s4 (i + 1) (fTop (cNo M R q e) (cHt M R q) (j + 1)) (j + 1) (by omega) (by omega) (by omega) (by rw [fAll_s, ← h4]; (first | rw [if_pos (by rw [cNo_t, (show cG R q (j : Int) = q9 by rw [← ei]; exact cG_of o10r)]; omega)] | rw [if_neg (by rw [cNo_t, (show cG R q (j : Int) = q9 by rw [← ei]; exact cG_of o10r)]; omega)]) <;> (try simp only [cMn]) <;> (try rw [(show cG R q (j : Int) = q9 by rw [← ei]; exact cG_of o10r)]) <;> (try omega)) (rfl) (by rw [fTop_s, ← h5]; (first | rw [if_pos (by rw [cNo_t, (show cG R q (j : Int) = q9 by rw [← ei]; exact cG_of o10r)]; omega)] | rw [if_neg (by rw [cNo_t, (show cG R q (j : Int) = q9 by rw [← ei]; exact cG_of o10r)]; omega)]) <;> (try simp only [cHt]) <;> (try rw [(show cG R q (j : Int) = q9 by rw [← ei]; exact cG_of o10r)]) <;> (try omega)) (by omega)
              · skip
                refine v_if_ne X 70 dX7_minutesBelow_46 (by decide) ⟨by decide, by decide⟩ (fun q => absurd q (by decide)) (fun _ => ?_)
                refine v_aload X 0 dX7_minutesBelow_49 rfl ?_
                refine gt_X2_height X iwX2 o10k.2.1 o10k.2.2.1 (List.mem_cons_of_mem _ bw_29_12) dX7_minutesBelow_51 (M q9 2) rfl (fun hr19 => ?_)
                refine v_iload_n X 3 dX7_minutesBelow_54 rfl rfl ?_
                refine v_icmp_lt X 60 dX7_minutesBelow_55 (by decide) ⟨by omega, by omega⟩ ⟨by omega, by omega⟩ (fun u20 => ?_) (fun u20 => ?_)
                · skip
                  refine v_iload X 5 dX7_minutesBelow_60 rfl ?_
                  refine v_aload X 0 dX7_minutesBelow_62 rfl ?_
                  refine gt_X2_minutes X iwX2 o10k.2.1 o10k.2.2.1 (List.mem_cons_of_mem _ bw_30_12) dX7_minutesBelow_64 (M q9 0) rfl (fun hr21 => ?_)
                  refine v_iadd X dX7_minutesBelow_67 ?_
                  refine v_istore X [(4, .int (iz (s4 + (M q9 0)))), (6, .ref (ad q9)), (0, .ref (ad 6)), (1, .ref (ad q)), (2, .int (iz b)), (3, .int (iz e)), (5, .int (iz i))] dX7_minutesBelow_68 (by decide) rfl ?_
                  refine v_iinc X 6 [(5, .int (iz (i + 1))), (4, .int (iz (s4 + (M q9 0)))), (6, .ref (ad q9)), (0, .ref (ad 6)), (1, .ref (ad q)), (2, .int (iz b)), (3, .int (iz e))] dX7_minutesBelow_70 rfl (by decide) rfl ?_
                  refine v_goto X 6 dX7_minutesBelow_73 (by decide) ?_
                  refine v_lv [3, 4, 5, 6, 1, 0] rfl ?_
                  exact ih2 (s4 + (M q9 0)) (i + 1) (fTop (cNo M R q e) (cHt M R q) (j + 1)) (j + 1) (by omega) (by omega) (by omega) (by rw [fAll_s, ← h4]; (first | rw [if_pos (by rw [cNo_t, (show cG R q (j : Int) = q9 by rw [← ei]; exact cG_of o10r)]; omega)] | rw [if_neg (by rw [cNo_t, (show cG R q (j : Int) = q9 by rw [← ei]; exact cG_of o10r)]; omega)]) <;> (try simp only [cMn]) <;> (try rw [(show cG R q (j : Int) = q9 by rw [← ei]; exact cG_of o10r)]) <;> (try omega)) (rfl) (by rw [fTop_s, ← h5]; (first | rw [if_pos (by rw [cNo_t, (show cG R q (j : Int) = q9 by rw [← ei]; exact cG_of o10r)]; omega)] | rw [if_neg (by rw [cNo_t, (show cG R q (j : Int) = q9 by rw [← ei]; exact cG_of o10r)]; omega)]) <;> (try simp only [cHt]) <;> (try rw [(show cG R q (j : Int) = q9 by rw [← ei]; exact cG_of o10r)]) <;> (try omega)) (by omega)
                · skip
                  refine v_iconst X dX7_minutesBelow_58 ?_
                  refine hret _ _ _ _ _ _ _ _ _ _ _ (some (.int (iz 0))) dX7_minutesBelow_59 ⟨rfl, _, rfl⟩ (by decide) (by decide) (fun hmok => ?_)
                  refine ⟨rfl, rfl, rfl, rfl, rfl, rfl, 0, rfl, ⟨by decide, by decide⟩, ?_⟩
                  try dsimp only
                  have hge := fTop_ge (rf := cNo M R q e) (ht := cHt M R q) (n := j) (m := (M q 7).toNat) (b := b) (by omega) (Bool.eq_false_iff.mpr (fun z => by rw [cNo_t] at z; rw [(show cG R q (j : Int) = q9 by rw [← ei]; exact cG_of o10r)] at z; omega)) (by show b ≤ M (cG R q (j : Int)) 2; rw [(show cG R q (j : Int) = q9 by rw [← ei]; exact cG_of o10r)]; omega)
                  rw [if_neg (by omega)]
  refine v_lv [2, 3, 4, 5, 1, 0] rfl ?_
  exact hl1 _ 0 0 (-1) 0 (by omega) (by omega) (by omega) (rfl) (rfl) (by omega) (Nat.lt_succ_self _)

theorem cFig {M : MI} {R : MR} {sh : MS} {N q : Nat} (hq : ActOk M R sh N q) {k : Int} (h1 : 0 ≤ k) (h2 : k < M q 7) : FigOk M sh N (cG R q k) := by
  obtain ⟨_, _, _, _, _, f, hf, _, _, _, hg⟩ := hq
  obtain ⟨g, g1, g2⟩ := hg k h1 h2
  rw [cG_of ⟨f, hf, g1⟩]; exact g2
theorem cMn_nn {M : MI} {R : MR} {sh : MS} {N q : Nat} (hq : ActOk M R sh N q) (k : Int) (h1 : 0 ≤ k) (h2 : k < ((M q 7).toNat : Int)) : 0 ≤ cMn M R q k :=
  (cFig hq h1 (by omega)).2.2.2.1.1
theorem fAll_b2 {rf : Int → Bool} {mn : Int → Int} : ∀ n : Nat, (∀ k : Int, 0 ≤ k → k < (n : Int) → 0 ≤ mn k ∧ mn k ≤ 9) → 0 ≤ fAll rf mn n ∧ fAll rf mn n ≤ 9 * (n : Int)
  | 0, _ => ⟨by simp [fAll], by simp [fAll]⟩
  | n + 1, h => by
    have ih := fAll_b2 (rf := rf) n (fun k q1 q2 => h k q1 (by omega))
    have := h (n : Int) (by omega) (by omega)
    rw [fAll_s]
    split <;> omega
theorem cLen_b {M : MI} {R : MR} {sh : MS} {N q : Nat} (hq : ActOk M R sh N q) (b : Int) : 0 ≤ cLen M R q b ∧ cLen M R q b ≤ 54 := by
  have h1 := hq.2.2.2.1
  have hm : ∀ k : Int, 0 ≤ k → k < ((M q 7).toNat : Int) → 0 ≤ cMn M R q k ∧ cMn M R q k ≤ 9 := fun k q1 q2 => (cFig hq q1 (by omega)).2.2.2.1
  have h2 := fAll_b2 (rf := cRf M R q) (mn := cMn M R q) _ hm
  have h3 := fAll_b2 (rf := fun k => cRf M R q k || cHi M R q k) (mn := cMn M R q) _ hm
  unfold cLen lenF
  repeat' split
  all_goals omega

-- minutesInBox
set_option maxHeartbeats 4000000 in
set_option maxRecDepth 100000 in
theorem c_X7_minutesInBox (l : Launch) (D : va_G) (cy : Nat → ClassId) {N : Nat} {sh : MS} {ad : Nat → Nat} {M L : MI} {R : MR} (hS : Std N sh R) (q : Nat) (b : Int) (hb : 0 ≤ b ∧ b ≤ 9) (hO : ShowOk M R sh N) (hq : ActOk M R sh N q) : Ctr l D cy yX7_minutesInBox wsX7_minutesInBox ({ frames := 2, cells := 0, slots := 0, locals := 49 } : Room) N sh ad M L R [.ref (ad 6), .ref (ad q), .int (iz b)] (pI N sh ad M L R (fun r => r = cLen M R q b)) := by
  refine Ctr.ofI (by decide) rfl (Nat.le_of_ble_eq_true rfl) ?_
  intro K hKl hKd hRm hnm X hret
  have X : VX K cX7_minutesInBox 4 wsX7_minutesInBox RX7 := X
  show V K 4 0 0 N sh ad M L R [(0, .ref (ad 6)), (1, .ref (ad q)), (2, .int (iz b))] [] 0
  refine v_aload_n X 0 dX7_minutesInBox_0 rfl rfl ?_
  refine v_aload_n X 1 dX7_minutesInBox_1 rfl rfl ?_
  refine v_iload_n X 2 dX7_minutesInBox_2 rfl rfl ?_
  refine v_iconst X dX7_minutesInBox_3 ?_
  refine v_callV X [.ref (ad q), .int (iz b), .int (iz 1)] hRm (c_X7_minutesBelow _ _ _ hS q b 1 (by omega) (by omega) hO hq) (gV bw_30_6 bw_30_7 bw_30_8 bw_1_22 bw_30_9) rfl ddX7_minutesBelow (by decide) (Std.lt hS rfl) (Std.k hS rfl rfl) ⟨rfl, by decide⟩ (Nat.le_of_ble_eq_true rfl) dX7_minutesInBox_4 (k_pI (fun r1 hr2 e3 => ?_))
  refine v_istore_n X [(3, .int (iz r1)), (0, .ref (ad 6)), (1, .ref (ad q)), (2, .int (iz b))] dX7_minutesInBox_7 rfl (by decide) rfl ?_
  refine v_iload_n X 0 dX7_minutesInBox_8 rfl rfl ?_
  refine v_if_le X 16 dX7_minutesInBox_9 (by decide) ⟨by omega, by omega⟩ (fun u4 => ?_) (fun u4 => ?_)
  · skip
    refine v_aload_n X 1 dX7_minutesInBox_16 rfl rfl ?_
    refine v_aload_n X 2 dX7_minutesInBox_17 rfl rfl ?_
    refine v_iload_n X 3 dX7_minutesInBox_18 rfl rfl ?_
    refine v_iconst X dX7_minutesInBox_19 ?_
    refine v_callV X [.ref (ad q), .int (iz b), .int (iz 0)] hRm (c_X7_minutesBelow _ _ _ hS q b 0 (by omega) (by omega) hO hq) (gV bw_30_6 bw_30_7 bw_30_8 bw_1_22 bw_30_9) rfl ddX7_minutesBelow (by decide) (Std.lt hS rfl) (Std.k hS rfl rfl) ⟨rfl, by decide⟩ (Nat.le_of_ble_eq_true rfl) dX7_minutesInBox_20 (k_pI (fun r5 hr6 e7 => ?_))
    refine hret _ _ _ _ _ _ _ _ _ _ _ (some (.int (iz r5))) dX7_minutesInBox_23 ⟨rfl, _, rfl⟩ (by decide) (by decide) (fun hmok => ?_)
    refine ⟨rfl, rfl, rfl, rfl, rfl, rfl, r5, rfl, ⟨by omega, by omega⟩, ?_⟩
    try dsimp only
    have k1 : cNo M R q 1 = cRf M R q := by funext k; unfold cNo; simp
    have k0 : cNo M R q 0 = fun k => cRf M R q k || cHi M R q k := by funext k; unfold cNo; simp
    have l1 := fAll_le (rf := cRf M R q) (rg := fun k => cRf M R q k || cHi M R q k) (fun k h => by rw [Bool.or_eq_true]; exact Or.inl h) (M q 7).toNat (cMn_nn hq)
    have l2 := fTop_le (rf := cRf M R q) (rg := fun k => cRf M R q k || cHi M R q k) (ht := cHt M R q) (fun k h => by rw [Bool.or_eq_true]; exact Or.inl h) (M q 7).toNat
    simp only [k1] at e3
    simp only [k0] at e7
    unfold cLen lenF
    split
    · rename_i z
      rw [if_pos z] at e3
      rw [if_pos (by omega)] at e7
      omega
    · rename_i z
      rw [if_neg z] at e3
      exact e7
  · skip
    refine v_iload_n X 0 dX7_minutesInBox_12 rfl rfl ?_
    refine v_goto X 23 dX7_minutesInBox_13 (by decide) ?_
    refine hret _ _ _ _ _ _ _ _ _ _ _ (some (.int (iz r1))) dX7_minutesInBox_23 ⟨rfl, _, rfl⟩ (by decide) (by decide) (fun hmok => ?_)
    refine ⟨rfl, rfl, rfl, rfl, rfl, rfl, r1, rfl, ⟨by omega, by omega⟩, ?_⟩
    try dsimp only
    have k1 : cNo M R q 1 = cRf M R q := by funext k; unfold cNo; simp
    have k0 : cNo M R q 0 = fun k => cRf M R q k || cHi M R q k := by funext k; unfold cNo; simp
    have l1 := fAll_le (rf := cRf M R q) (rg := fun k => cRf M R q k || cHi M R q k) (fun k h => by rw [Bool.or_eq_true]; exact Or.inl h) (M q 7).toNat (cMn_nn hq)
    have l2 := fTop_le (rf := cRf M R q) (rg := fun k => cRf M R q k || cHi M R q k) (ht := cHt M R q) (fun k h => by rw [Bool.or_eq_true]; exact Or.inl h) (M q 7).toNat
    simp only [k1] at e3
    unfold cLen lenF
    split
    · rename_i z
      rw [if_pos z] at e3
      exact e3
    · rename_i z
      rw [if_neg z] at e3
      omega

def aId (R : MR) (k : Int) : Nat := (R 7 k).getD 0
theorem aId_of {R : MR} {k : Int} {q : Nat} (h : R 7 k = some q) : aId R k = q := by unfold aId; rw [h]; rfl

-- ready
set_option maxHeartbeats 4000000 in
set_option maxRecDepth 100000 in
theorem c_X11_ready (l : Launch) (D : va_G) (cy : Nat → ClassId) {N : Nat} {sh : MS} {ad : Nat → Nat} {M L : MI} {R : MR} (hS : Std N sh R) (a : Int) (b : Int) (ha : inR a) (hb : inR b) (hz : 0 ≤ M 9 3 ∧ M 9 3 ≤ 100) (hO : ShowOk M R sh N) : Ctr l D cy yX11_ready wsX11_ready ({ frames := 2, cells := 0, slots := 0, locals := 42 } : Room) N sh ad M L R [.ref (ad 0), .int (iz a), .int (iz b)] (eI N sh ad L R (fun r M' => if M 9 3 < 100 ∧ 0 ≤ a ∧ a < M 6 1 ∧ 0 ≤ b ∧ b < 240 then r = M 9 3 ∧ M' = mu (mu (mu (mu M 10 (M 9 3) 2) 11 (M 9 3) a) 12 (M 9 3) b) 9 3 ((M 9 3) + 1) else r = -1 ∧ M' = M)) := by
  refine Ctr.ofI (by decide) rfl (Nat.le_of_ble_eq_true rfl) ?_
  intro K hKl hKd hRm hnm X hret
  have X : VX K cX11_ready 3 wsX11_ready RX11 := X
  show V K 3 0 0 N sh ad M L R [(0, .ref (ad 0)), (1, .int (iz a)), (2, .int (iz b))] [] 0
  refine v_aload_n X 0 dX11_ready_0 rfl rfl ?_
  refine gt_X11_show X iwX11 (Std.lt hS rfl) (Std.k hS rfl rfl) (List.mem_cons_of_mem _ bw_1_23) dX11_ready_1 6 (Std.r hS 2 rfl) ?_
  refine v_iload_n X 1 dX11_ready_4 rfl rfl ?_
  refine v_callV X [.int (iz a)] hRm (c_X7_actAt _ _ _ hS a ⟨by omega, by omega⟩ hO) (gV bw_24_5 bw_24_6 bw_24_7 bw_1_22 bw_24_8) rfl ddX7_actAt (by decide) (Std.lt hS rfl) (Std.k hS rfl rfl) ⟨rfl, by decide⟩ (Nat.le_of_ble_eq_true rfl) dX11_ready_5 (k_pR (fun r1 e2 => ?_))
  rcases e2 with ⟨rfl, o4n⟩ | ⟨q3, rfl, o4r, o4b, o4k⟩
  · skip
    refine v_st (st' := [.null]) rfl ?_
    refine v_ifnullN X 18 dX11_ready_8 (by decide) ?_
    refine v_iconst X dX11_ready_18 ?_
    refine hret _ _ _ _ _ _ _ _ _ _ _ (some (.int (iz (-1)))) dX11_ready_19 ⟨rfl, _, rfl⟩ (by decide) (by decide) (fun hmok => ?_)
    refine ⟨rfl, rfl, rfl, rfl, rfl, (-1), rfl, ⟨by decide, by decide⟩, ?_⟩
    try dsimp only
    rw [if_neg (by omega)]
    exact ⟨rfl, rfl⟩
  · skip
    refine v_st (st' := [.ref (ad q3)]) rfl ?_
    refine v_ifnull X dX11_ready_8 ?_
    refine v_iload_n X 2 dX11_ready_11 rfl rfl ?_
    refine v_callS X [.int (iz b)] hRm (c_X11_isMinute _ _ _ b ⟨by omega, by omega⟩) (gS bw_26_19 bw_26_20 bw_1_2 bw_26_21) rfl ddX11_isMinute (by decide) (Nat.le_of_ble_eq_true rfl) dX11_ready_12 (k_pB (fun b5 => ?_) (fun b5 => ?_))
    · skip
      refine v_if_ne X 20 dX11_ready_15 (by decide) ⟨by decide, by decide⟩ (fun _ => ?_) (fun q => absurd (by decide) q)
      refine v_aload_n X 0 dX11_ready_20 rfl rfl ?_
      refine gt_X11_facts X iwX11 (Std.lt hS rfl) (Std.k hS rfl rfl) (List.mem_cons_of_mem _ bw_2_3) dX11_ready_21 9 (Std.r hS 3 rfl) ?_
      refine v_iconst X dX11_ready_24 ?_
      refine v_iload_n X 1 dX11_ready_25 rfl rfl ?_
      refine v_iload_n X 2 dX11_ready_26 rfl rfl ?_
      refine v_callV X [.int (iz 2), .int (iz a), .int (iz b)] hRm (c_X1_add _ _ _ hS 2 a b ⟨by omega, by omega⟩ ⟨by omega, by omega⟩ ⟨by omega, by omega⟩ (by omega)) (gV bw_27_1 bw_27_2 bw_27_3 bw_2_2 bw_27_4) rfl ddX1_add (by decide) (Std.lt hS rfl) (Std.k hS rfl rfl) ⟨rfl, by decide⟩ (Nat.le_of_ble_eq_true rfl) dX11_ready_27 (k_eI (fun r6 M7 hr8 e9 => ?_))
      refine hret _ _ _ _ _ _ _ _ _ _ _ (some (.int (iz r6))) dX11_ready_30 ⟨rfl, _, rfl⟩ (by decide) (by decide) (fun hmok => ?_)
      refine ⟨rfl, rfl, rfl, rfl, rfl, r6, rfl, ⟨by omega, by omega⟩, ?_⟩
      try dsimp only
      by_cases c9 : M 9 3 < 100
      · rw [if_pos c9] at e9
        rw [if_pos (by omega)]
        exact e9
      · rw [if_neg c9] at e9
        rw [if_neg (by omega)]
        exact e9
    · skip
      refine v_if_ne X 20 dX11_ready_15 (by decide) ⟨by decide, by decide⟩ (fun q => absurd q (by decide)) (fun _ => ?_)
      refine v_iconst X dX11_ready_18 ?_
      refine hret _ _ _ _ _ _ _ _ _ _ _ (some (.int (iz (-1)))) dX11_ready_19 ⟨rfl, _, rfl⟩ (by decide) (by decide) (fun hmok => ?_)
      refine ⟨rfl, rfl, rfl, rfl, rfl, (-1), rfl, ⟨by decide, by decide⟩, ?_⟩
      try dsimp only
      rw [if_neg (by omega)]
      exact ⟨rfl, rfl⟩

-- refused
set_option maxHeartbeats 4000000 in
set_option maxRecDepth 100000 in
theorem c_X11_refused (l : Launch) (D : va_G) (cy : Nat → ClassId) {N : Nat} {sh : MS} {ad : Nat → Nat} {M L : MI} {R : MR} (hS : Std N sh R) (a : Int) (b : Int) (ha : inR a) (hb : inR b) (hO : ShowOk M R sh N) : Ctr l D cy yX11_refused wsX11_refused ({ frames := 1, cells := 0, slots := 0, locals := 23 } : Room) N sh ad M L R [.ref (ad 0), .int (iz a), .int (iz b)] (pI N sh ad M L R (fun r => r = if 0 ≤ a ∧ a < M 6 1 ∧ 0 ≤ b ∧ b < M (aId R a) 7 then (if M 6 5 ≤ cFar M (cG R (aId R a) b) then 1 else 0) else -1)) := by
  refine Ctr.ofI (by decide) rfl (Nat.le_of_ble_eq_true rfl) ?_
  intro K hKl hKd hRm hnm X hret
  have X : VX K cX11_refused 5 wsX11_refused RX11 := X
  show V K 5 0 0 N sh ad M L R [(0, .ref (ad 0)), (1, .int (iz a)), (2, .int (iz b))] [] 0
  refine v_aload_n X 0 dX11_refused_0 rfl rfl ?_
  refine gt_X11_show X iwX11 (Std.lt hS rfl) (Std.k hS rfl rfl) (List.mem_cons_of_mem _ bw_1_23) dX11_refused_1 6 (Std.r hS 2 rfl) ?_
  refine v_iload_n X 1 dX11_refused_4 rfl rfl ?_
  refine v_callV X [.int (iz a)] hRm (c_X7_actAt _ _ _ hS a ⟨by omega, by omega⟩ hO) (gV bw_24_5 bw_24_6 bw_24_7 bw_1_22 bw_24_8) rfl ddX7_actAt (by decide) (Std.lt hS rfl) (Std.k hS rfl rfl) ⟨rfl, by decide⟩ (Nat.le_of_ble_eq_true rfl) dX11_refused_5 (k_pR (fun r1 e2 => ?_))
  rcases e2 with ⟨rfl, o4n⟩ | ⟨q3, rfl, o4r, o4b, o4k⟩
  · skip
    refine v_st (st' := [.null]) rfl ?_
    refine v_astore_nN X [(3, .null), (0, .ref (ad 0)), (1, .int (iz a)), (2, .int (iz b))] dX11_refused_8 rfl (by decide) rfl ?_
    refine v_aload_nN X 0 dX11_refused_9 rfl rfl ?_
    refine v_ifnonnullN X dX11_refused_10 ?_
    refine v_null X dX11_refused_13 ?_
    refine v_goto X 22 dX11_refused_14 (by decide) ?_
    refine v_astoreN X [(4, .null), (3, .null), (0, .ref (ad 0)), (1, .int (iz a)), (2, .int (iz b))] dX11_refused_22 (by decide) rfl ?_
    refine v_aloadN X 0 dX11_refused_24 rfl ?_
    refine v_ifnonnullN X dX11_refused_26 ?_
    refine v_iconst X dX11_refused_29 ?_
    refine hret _ _ _ _ _ _ _ _ _ _ _ (some (.int (iz (-1)))) dX11_refused_30 ⟨rfl, _, rfl⟩ (by decide) (by decide) (fun hmok => ?_)
    refine ⟨rfl, rfl, rfl, rfl, rfl, rfl, (-1), rfl, ⟨by decide, by decide⟩, ?_⟩
    try dsimp only
    rw [if_neg (by omega)]
  · skip
    refine v_st (st' := [.ref (ad q3)]) rfl ?_
    refine v_astore_n X [(3, .ref (ad q3)), (0, .ref (ad 0)), (1, .int (iz a)), (2, .int (iz b))] dX11_refused_8 rfl (by decide) rfl ?_
    refine v_aload_n X 0 dX11_refused_9 rfl rfl ?_
    refine v_ifnonnull X 17 dX11_refused_10 (by decide) ?_
    refine v_aload_n X 0 dX11_refused_17 rfl rfl ?_
    refine v_iload_n X 3 dX11_refused_18 rfl rfl ?_
    refine v_callV X [.int (iz b)] hRm (c_X0_figureAt _ _ _ hS b ⟨by omega, by omega⟩ q3 o4k) (gV bw_29_4 bw_29_5 bw_29_6 bw_22_22 bw_29_7) rfl ddX0_figureAt (by decide) o4k.2.1 o4k.2.2.1 ⟨rfl, by decide⟩ (Nat.le_of_ble_eq_true rfl) dX11_refused_19 (k_pR (fun r5 e6 => ?_))
    rcases e6 with ⟨rfl, o8n⟩ | ⟨q7, rfl, o8r, o8b, o8k⟩
    · skip
      refine v_st (st' := [.null]) rfl ?_
      refine v_astoreN X [(4, .null), (3, .ref (ad q3)), (0, .ref (ad 0)), (1, .int (iz a)), (2, .int (iz b))] dX11_refused_22 (by decide) rfl ?_
      refine v_aloadN X 0 dX11_refused_24 rfl ?_
      refine v_ifnonnullN X dX11_refused_26 ?_
      refine v_iconst X dX11_refused_29 ?_
      refine hret _ _ _ _ _ _ _ _ _ _ _ (some (.int (iz (-1)))) dX11_refused_30 ⟨rfl, _, rfl⟩ (by decide) (by decide) (fun hmok => ?_)
      refine ⟨rfl, rfl, rfl, rfl, rfl, rfl, (-1), rfl, ⟨by decide, by decide⟩, ?_⟩
      try dsimp only
      rw [aId_of o4r, if_neg (by omega)]
    · skip
      refine v_st (st' := [.ref (ad q7)]) rfl ?_
      refine v_astore X [(4, .ref (ad q7)), (3, .ref (ad q3)), (0, .ref (ad 0)), (1, .int (iz a)), (2, .int (iz b))] dX11_refused_22 (by decide) rfl ?_
      refine v_aload X 0 dX11_refused_24 rfl ?_
      refine v_ifnonnull X 31 dX11_refused_26 (by decide) ?_
      refine v_aload_n X 2 dX11_refused_31 rfl rfl ?_
      refine gt_X11_show X iwX11 (Std.lt hS rfl) (Std.k hS rfl rfl) (List.mem_cons_of_mem _ bw_1_23) dX11_refused_32 6 (Std.r hS 2 rfl) ?_
      refine v_aload X 0 dX11_refused_35 rfl ?_
      refine v_callV X [.ref (ad q7)] hRm (c_X7_refuses _ _ _ hS q7 hO o8k) (gV bw_29_8 bw_29_9 bw_29_10 bw_1_22 bw_29_11) rfl ddX7_refuses (by decide) (Std.lt hS rfl) (Std.k hS rfl rfl) ⟨rfl, by decide⟩ (Nat.le_of_ble_eq_true rfl) dX11_refused_37 (k_pB (fun b9 => ?_) (fun b9 => ?_))
      · skip
        refine v_if_eq X 47 dX11_refused_40 (by decide) ⟨by decide, by decide⟩ (fun q => absurd q (by decide)) (fun _ => ?_)
        refine v_iconst X dX11_refused_43 ?_
        refine v_goto X 48 dX11_refused_44 (by decide) ?_
        refine hret _ _ _ _ _ _ _ _ _ _ _ (some (.int (iz 1))) dX11_refused_48 ⟨rfl, _, rfl⟩ (by decide) (by decide) (fun hmok => ?_)
        refine ⟨rfl, rfl, rfl, rfl, rfl, rfl, 1, rfl, ⟨by decide, by decide⟩, ?_⟩
        try dsimp only
        rw [aId_of o4r, cG_of o8r, if_pos (by omega)]
        rw [if_pos (by omega)]
      · skip
        refine v_if_eq X 47 dX11_refused_40 (by decide) ⟨by decide, by decide⟩ (fun _ => ?_) (fun q => absurd (by decide) q)
        refine v_iconst X dX11_refused_47 ?_
        refine hret _ _ _ _ _ _ _ _ _ _ _ (some (.int (iz 0))) dX11_refused_48 ⟨rfl, _, rfl⟩ (by decide) (by decide) (fun hmok => ?_)
        refine ⟨rfl, rfl, rfl, rfl, rfl, rfl, 0, rfl, ⟨by decide, by decide⟩, ?_⟩
        try dsimp only
        rw [aId_of o4r, cG_of o8r, if_pos (by omega)]
        rw [if_neg (by omega)]

-- length
set_option maxHeartbeats 4000000 in
set_option maxRecDepth 100000 in
theorem c_X11_length (l : Launch) (D : va_G) (cy : Nat → ClassId) {N : Nat} {sh : MS} {ad : Nat → Nat} {M L : MI} {R : MR} (hS : Std N sh R) (a : Int) (b : Int) (ha : inR a) (hb : inR b) (hO : ShowOk M R sh N) : Ctr l D cy yX11_length wsX11_length ({ frames := 3, cells := 0, slots := 0, locals := 72 } : Room) N sh ad M L R [.ref (ad 0), .int (iz a), .int (iz b)] (pI N sh ad M L R (fun r => r = if 0 ≤ a ∧ a < M 6 1 ∧ 0 ≤ b ∧ b ≤ 9 then cLen M R (aId R a) b else -1)) := by
  refine Ctr.ofI (by decide) rfl (Nat.le_of_ble_eq_true rfl) ?_
  intro K hKl hKd hRm hnm X hret
  have X : VX K cX11_length 4 wsX11_length RX11 := X
  show V K 4 0 0 N sh ad M L R [(0, .ref (ad 0)), (1, .int (iz a)), (2, .int (iz b))] [] 0
  refine v_aload_n X 0 dX11_length_0 rfl rfl ?_
  refine gt_X11_show X iwX11 (Std.lt hS rfl) (Std.k hS rfl rfl) (List.mem_cons_of_mem _ bw_1_23) dX11_length_1 6 (Std.r hS 2 rfl) ?_
  refine v_iload_n X 1 dX11_length_4 rfl rfl ?_
  refine v_callV X [.int (iz a)] hRm (c_X7_actAt _ _ _ hS a ⟨by omega, by omega⟩ hO) (gV bw_24_5 bw_24_6 bw_24_7 bw_1_22 bw_24_8) rfl ddX7_actAt (by decide) (Std.lt hS rfl) (Std.k hS rfl rfl) ⟨rfl, by decide⟩ (Nat.le_of_ble_eq_true rfl) dX11_length_5 (k_pR (fun r1 e2 => ?_))
  rcases e2 with ⟨rfl, o4n⟩ | ⟨q3, rfl, o4r, o4b, o4k⟩
  · skip
    refine v_st (st' := [.null]) rfl ?_
    refine v_astore_nN X [(3, .null), (0, .ref (ad 0)), (1, .int (iz a)), (2, .int (iz b))] dX11_length_8 rfl (by decide) rfl ?_
    refine v_aload_nN X 0 dX11_length_9 rfl rfl ?_
    refine v_ifnullN X 20 dX11_length_10 (by decide) ?_
    refine v_iconst X dX11_length_20 ?_
    refine hret _ _ _ _ _ _ _ _ _ _ _ (some (.int (iz (-1)))) dX11_length_21 ⟨rfl, _, rfl⟩ (by decide) (by decide) (fun hmok => ?_)
    refine ⟨rfl, rfl, rfl, rfl, rfl, rfl, (-1), rfl, ⟨by decide, by decide⟩, ?_⟩
    try dsimp only
    rw [if_neg (by omega)]
  · skip
    refine v_st (st' := [.ref (ad q3)]) rfl ?_
    refine v_astore_n X [(3, .ref (ad q3)), (0, .ref (ad 0)), (1, .int (iz a)), (2, .int (iz b))] dX11_length_8 rfl (by decide) rfl ?_
    refine v_aload_n X 0 dX11_length_9 rfl rfl ?_
    refine v_ifnull X dX11_length_10 ?_
    refine v_iload_n X 3 dX11_length_13 rfl rfl ?_
    refine v_callS X [.int (iz b)] hRm (c_X11_isBase _ _ _ b ⟨by omega, by omega⟩) (gS bw_26_22 bw_26_23 bw_1_2 bw_27_0) rfl ddX11_isBase (by decide) (Nat.le_of_ble_eq_true rfl) dX11_length_14 (k_pB (fun b5 => ?_) (fun b5 => ?_))
    · skip
      refine v_if_ne X 22 dX11_length_17 (by decide) ⟨by decide, by decide⟩ (fun _ => ?_) (fun q => absurd (by decide) q)
      refine v_aload_n X 1 dX11_length_22 rfl rfl ?_
      refine gt_X11_show X iwX11 (Std.lt hS rfl) (Std.k hS rfl rfl) (List.mem_cons_of_mem _ bw_1_23) dX11_length_23 6 (Std.r hS 2 rfl) ?_
      refine v_aload_n X 0 dX11_length_26 rfl rfl ?_
      refine v_iload_n X 3 dX11_length_27 rfl rfl ?_
      refine v_callV X [.ref (ad q3), .int (iz b)] hRm (c_X7_minutesInBox _ _ _ hS q3 b (by omega) hO o4k) (gV bw_30_2 bw_30_3 bw_30_4 bw_1_22 bw_30_5) rfl ddX7_minutesInBox (by decide) (Std.lt hS rfl) (Std.k hS rfl rfl) ⟨rfl, by decide⟩ (Nat.le_of_ble_eq_true rfl) dX11_length_28 (k_pI (fun r6 hr7 e8 => ?_))
      refine hret _ _ _ _ _ _ _ _ _ _ _ (some (.int (iz r6))) dX11_length_31 ⟨rfl, _, rfl⟩ (by decide) (by decide) (fun hmok => ?_)
      refine ⟨rfl, rfl, rfl, rfl, rfl, rfl, r6, rfl, ⟨by omega, by omega⟩, ?_⟩
      try dsimp only
      rw [aId_of o4r, if_pos (by omega)]
      assumption
    · skip
      refine v_if_ne X 22 dX11_length_17 (by decide) ⟨by decide, by decide⟩ (fun q => absurd q (by decide)) (fun _ => ?_)
      refine v_iconst X dX11_length_20 ?_
      refine hret _ _ _ _ _ _ _ _ _ _ _ (some (.int (iz (-1)))) dX11_length_21 ⟨rfl, _, rfl⟩ (by decide) (by decide) (fun hmok => ?_)
      refine ⟨rfl, rfl, rfl, rfl, rfl, rfl, (-1), rfl, ⟨by decide, by decide⟩, ?_⟩
      try dsimp only
      rw [if_neg (by omega)]

-- isActOrNone
set_option maxHeartbeats 4000000 in
set_option maxRecDepth 100000 in
theorem c_X11_isActOrNone (l : Launch) (D : va_G) (cy : Nat → ClassId) {N : Nat} {sh : MS} {ad : Nat → Nat} {M L : MI} {R : MR} (hS : Std N sh R) (a : Int) (ha : inR a) (hO : ShowOk M R sh N) : Ctr l D cy yX11_isActOrNone wsX11_isActOrNone ({ frames := 1, cells := 0, slots := 0, locals := 21 } : Room) N sh ad M L R [.ref (ad 0), .int (iz a)] (pB N sh ad M L R (a = -1 ∨ (0 ≤ a ∧ a < M 6 1))) := by
  refine Ctr.ofZ (by decide) rfl (Nat.le_of_ble_eq_true rfl) ?_
  intro K hKl hKd hRm hnm X hret
  have X : VX K cX11_isActOrNone 2 wsX11_isActOrNone RX11 := X
  show V K 2 0 0 N sh ad M L R [(0, .ref (ad 0)), (1, .int (iz a))] [] 0
  refine v_iload_n X 1 dX11_isActOrNone_0 rfl rfl ?_
  refine v_iconst X dX11_isActOrNone_1 ?_
  refine v_icmp_eq X 16 dX11_isActOrNone_2 (by decide) ⟨by omega, by omega⟩ ⟨by decide, by decide⟩ (fun u1 => ?_) (fun u1 => ?_)
  · skip
    refine v_iconst X dX11_isActOrNone_16 ?_
    refine v_goto X 21 dX11_isActOrNone_17 (by decide) ?_
    refine hret _ _ _ _ _ _ _ _ _ _ _ (some (.int (iz 1))) dX11_isActOrNone_21 ⟨rfl, 1, ⟨by omega, by omega⟩, rfl⟩ (by decide) (by decide) (fun hmok => ?_)
    refine ⟨rfl, rfl, rfl, rfl, rfl, rfl, 1, rfl, Or.inl ⟨rfl, ?_⟩⟩
    omega
  · skip
    refine v_aload_n X 0 dX11_isActOrNone_5 rfl rfl ?_
    refine gt_X11_show X iwX11 (Std.lt hS rfl) (Std.k hS rfl rfl) (List.mem_cons_of_mem _ bw_1_23) dX11_isActOrNone_6 6 (Std.r hS 2 rfl) ?_
    refine v_iload_n X 1 dX11_isActOrNone_9 rfl rfl ?_
    refine v_callV X [.int (iz a)] hRm (c_X7_actAt _ _ _ hS a ⟨by omega, by omega⟩ hO) (gV bw_24_5 bw_24_6 bw_24_7 bw_1_22 bw_24_8) rfl ddX7_actAt (by decide) (Std.lt hS rfl) (Std.k hS rfl rfl) ⟨rfl, by decide⟩ (Nat.le_of_ble_eq_true rfl) dX11_isActOrNone_10 (k_pR (fun r2 e3 => ?_))
    rcases e3 with ⟨rfl, o5n⟩ | ⟨q4, rfl, o5r, o5b, o5k⟩
    · skip
      refine v_st (st' := [.null]) rfl ?_
      refine v_ifnullN X 20 dX11_isActOrNone_13 (by decide) ?_
      refine v_iconst X dX11_isActOrNone_20 ?_
      refine hret _ _ _ _ _ _ _ _ _ _ _ (some (.int (iz 0))) dX11_isActOrNone_21 ⟨rfl, 0, ⟨by omega, by omega⟩, rfl⟩ (by decide) (by decide) (fun hmok => ?_)
      refine ⟨rfl, rfl, rfl, rfl, rfl, rfl, 0, rfl, Or.inr ⟨rfl, ?_⟩⟩
      omega
    · skip
      refine v_st (st' := [.ref (ad q4)]) rfl ?_
      refine v_ifnull X dX11_isActOrNone_13 ?_
      refine v_iconst X dX11_isActOrNone_16 ?_
      refine v_goto X 21 dX11_isActOrNone_17 (by decide) ?_
      refine hret _ _ _ _ _ _ _ _ _ _ _ (some (.int (iz 1))) dX11_isActOrNone_21 ⟨rfl, 1, ⟨by omega, by omega⟩, rfl⟩ (by decide) (by decide) (fun hmok => ?_)
      refine ⟨rfl, rfl, rfl, rfl, rfl, rfl, 1, rfl, Or.inl ⟨rfl, ?_⟩⟩
      omega

-- isOrder
set_option maxHeartbeats 4000000 in
set_option maxRecDepth 100000 in
theorem c_X11_isOrder (l : Launch) (D : va_G) (cy : Nat → ClassId) {N : Nat} {sh : MS} {ad : Nat → Nat} {M L : MI} {R : MR} (hS : Std N sh R) (a : Int) (b : Int) (c : Int) (d : Int) (ha : inR a) (hb : inR b) (hc : inR c) (hd : inR d) (hO : ShowOk M R sh N) : Ctr l D cy yX11_isOrder wsX11_isOrder ({ frames := 2, cells := 0, slots := 0, locals := 42 } : Room) N sh ad M L R [.ref (ad 0), .int (iz a), .int (iz b), .int (iz c), .int (iz d)] (pB N sh ad M L R ((0 ≤ a ∧ a < M 6 1) ∧ (b = -1 ∨ (0 ≤ b ∧ b < M 6 1)) ∧ (c = -1 ∨ (0 ≤ c ∧ c < M 6 1)) ∧ (d = -1 ∨ (0 ≤ d ∧ d < M 6 1)) ∧ (b = -1 → c = -1) ∧ (c = -1 → d = -1) ∧ a ≠ b ∧ a ≠ c ∧ a ≠ d ∧ (b = -1 ∨ (b ≠ c ∧ b ≠ d)) ∧ (c = -1 ∨ c ≠ d))) := by
  refine Ctr.ofZ (by decide) rfl (Nat.le_of_ble_eq_true rfl) ?_
  intro K hKl hKd hRm hnm X hret
  have X : VX K cX11_isOrder 5 wsX11_isOrder RX11 := X
  show V K 5 0 0 N sh ad M L R [(0, .ref (ad 0)), (1, .int (iz a)), (2, .int (iz b)), (3, .int (iz c)), (4, .int (iz d))] [] 0
  refine v_aload_n X 0 dX11_isOrder_0 rfl rfl ?_
  refine gt_X11_show X iwX11 (Std.lt hS rfl) (Std.k hS rfl rfl) (List.mem_cons_of_mem _ bw_1_23) dX11_isOrder_1 6 (Std.r hS 2 rfl) ?_
  refine v_iload_n X 1 dX11_isOrder_4 rfl rfl ?_
  refine v_callV X [.int (iz a)] hRm (c_X7_actAt _ _ _ hS a ⟨by omega, by omega⟩ hO) (gV bw_24_5 bw_24_6 bw_24_7 bw_1_22 bw_24_8) rfl ddX7_actAt (by decide) (Std.lt hS rfl) (Std.k hS rfl rfl) ⟨rfl, by decide⟩ (Nat.le_of_ble_eq_true rfl) dX11_isOrder_5 (k_pR (fun r1 e2 => ?_))
  rcases e2 with ⟨rfl, o4n⟩ | ⟨q3, rfl, o4r, o4b, o4k⟩
  · skip
    refine v_st (st' := [.null]) rfl ?_
    refine v_ifnullN X 36 dX11_isOrder_8 (by decide) ?_
    refine v_iconst X dX11_isOrder_36 ?_
    refine hret _ _ _ _ _ _ _ _ _ _ _ (some (.int (iz 0))) dX11_isOrder_37 ⟨rfl, 0, ⟨by omega, by omega⟩, rfl⟩ (by decide) (by decide) (fun hmok => ?_)
    refine ⟨rfl, rfl, rfl, rfl, rfl, rfl, 0, rfl, Or.inr ⟨rfl, ?_⟩⟩
    omega
  · skip
    refine v_st (st' := [.ref (ad q3)]) rfl ?_
    refine v_ifnull X dX11_isOrder_8 ?_
    refine v_aload_n X 0 dX11_isOrder_11 rfl rfl ?_
    refine v_iload_n X 2 dX11_isOrder_12 rfl rfl ?_
    refine v_callV X [.int (iz b)] hRm (c_X11_isActOrNone _ _ _ hS b ⟨by omega, by omega⟩ hO) (gV bw_43_3 bw_43_4 bw_43_5 bw_1_2 bw_43_6) rfl ddX11_isActOrNone (by decide) (Std.lt hS rfl) (Std.k hS rfl rfl) ⟨rfl, by decide⟩ (Nat.le_of_ble_eq_true rfl) dX11_isOrder_13 (k_pB (fun b5 => ?_) (fun b5 => ?_))
    · skip
      refine v_if_eq X 36 dX11_isOrder_16 (by decide) ⟨by decide, by decide⟩ (fun q => absurd q (by decide)) (fun _ => ?_)
      refine v_aload_n X 0 dX11_isOrder_19 rfl rfl ?_
      refine v_iload_n X 3 dX11_isOrder_20 rfl rfl ?_
      refine v_callV X [.int (iz c)] hRm (c_X11_isActOrNone _ _ _ hS c ⟨by omega, by omega⟩ hO) (gV bw_43_3 bw_43_4 bw_43_5 bw_1_2 bw_43_6) rfl ddX11_isActOrNone (by decide) (Std.lt hS rfl) (Std.k hS rfl rfl) ⟨rfl, by decide⟩ (Nat.le_of_ble_eq_true rfl) dX11_isOrder_21 (k_pB (fun b6 => ?_) (fun b6 => ?_))
      · skip
        refine v_if_eq X 36 dX11_isOrder_24 (by decide) ⟨by decide, by decide⟩ (fun q => absurd q (by decide)) (fun _ => ?_)
        refine v_aload_n X 0 dX11_isOrder_27 rfl rfl ?_
        refine v_iload X 4 dX11_isOrder_28 rfl ?_
        refine v_callV X [.int (iz d)] hRm (c_X11_isActOrNone _ _ _ hS d ⟨by omega, by omega⟩ hO) (gV bw_43_3 bw_43_4 bw_43_5 bw_1_2 bw_43_6) rfl ddX11_isActOrNone (by decide) (Std.lt hS rfl) (Std.k hS rfl rfl) ⟨rfl, by decide⟩ (Nat.le_of_ble_eq_true rfl) dX11_isOrder_30 (k_pB (fun b7 => ?_) (fun b7 => ?_))
        · skip
          refine v_if_ne X 38 dX11_isOrder_33 (by decide) ⟨by decide, by decide⟩ (fun _ => ?_) (fun q => absurd (by decide) q)
          refine v_iload_n X 2 dX11_isOrder_38 rfl rfl ?_
          refine v_iconst X dX11_isOrder_39 ?_
          refine v_icmp_ne X 48 dX11_isOrder_40 (by decide) ⟨by omega, by omega⟩ ⟨by decide, by decide⟩ (fun u8 => ?_) (fun u8 => ?_)
          · skip
            refine v_iload_n X 3 dX11_isOrder_48 rfl rfl ?_
            refine v_iconst X dX11_isOrder_49 ?_
            refine v_icmp_ne X 61 dX11_isOrder_50 (by decide) ⟨by omega, by omega⟩ ⟨by decide, by decide⟩ (fun u9 => ?_) (fun u9 => ?_)
            · skip
              refine v_iload_n X 1 dX11_isOrder_61 rfl rfl ?_
              refine v_iload_n X 2 dX11_isOrder_62 rfl rfl ?_
              refine v_icmp_eq X 107 dX11_isOrder_63 (by decide) ⟨by omega, by omega⟩ ⟨by omega, by omega⟩ (fun u10 => ?_) (fun u10 => ?_)
              · skip
                refine v_iconst X dX11_isOrder_107 ?_
                refine hret _ _ _ _ _ _ _ _ _ _ _ (some (.int (iz 0))) dX11_isOrder_108 ⟨rfl, 0, ⟨by omega, by omega⟩, rfl⟩ (by decide) (by decide) (fun hmok => ?_)
                refine ⟨rfl, rfl, rfl, rfl, rfl, rfl, 0, rfl, Or.inr ⟨rfl, ?_⟩⟩
                omega
              · skip
                refine v_iload_n X 1 dX11_isOrder_66 rfl rfl ?_
                refine v_iload_n X 3 dX11_isOrder_67 rfl rfl ?_
                refine v_icmp_eq X 107 dX11_isOrder_68 (by decide) ⟨by omega, by omega⟩ ⟨by omega, by omega⟩ (fun u11 => ?_) (fun u11 => ?_)
                · skip
                  refine v_iconst X dX11_isOrder_107 ?_
                  refine hret _ _ _ _ _ _ _ _ _ _ _ (some (.int (iz 0))) dX11_isOrder_108 ⟨rfl, 0, ⟨by omega, by omega⟩, rfl⟩ (by decide) (by decide) (fun hmok => ?_)
                  refine ⟨rfl, rfl, rfl, rfl, rfl, rfl, 0, rfl, Or.inr ⟨rfl, ?_⟩⟩
                  omega
                · skip
                  refine v_iload_n X 1 dX11_isOrder_71 rfl rfl ?_
                  refine v_iload X 4 dX11_isOrder_72 rfl ?_
                  refine v_icmp_eq X 107 dX11_isOrder_74 (by decide) ⟨by omega, by omega⟩ ⟨by omega, by omega⟩ (fun u12 => ?_) (fun u12 => ?_)
                  · skip
                    refine v_iconst X dX11_isOrder_107 ?_
                    refine hret _ _ _ _ _ _ _ _ _ _ _ (some (.int (iz 0))) dX11_isOrder_108 ⟨rfl, 0, ⟨by omega, by omega⟩, rfl⟩ (by decide) (by decide) (fun hmok => ?_)
                    refine ⟨rfl, rfl, rfl, rfl, rfl, rfl, 0, rfl, Or.inr ⟨rfl, ?_⟩⟩
                    omega
                  · skip
                    refine v_iload_n X 2 dX11_isOrder_77 rfl rfl ?_
                    refine v_iload_n X 3 dX11_isOrder_78 rfl rfl ?_
                    refine v_callS X [.int (iz b), .int (iz c)] hRm (c_X11_isTwice _ _ _ b c ⟨by omega, by omega⟩ ⟨by omega, by omega⟩) (gS bw_43_7 bw_43_8 bw_1_2 bw_43_9) rfl ddX11_isTwice (by decide) (Nat.le_of_ble_eq_true rfl) dX11_isOrder_79 (k_pB (fun b13 => ?_) (fun b13 => ?_))
                    · skip
                      refine v_if_ne X 107 dX11_isOrder_82 (by decide) ⟨by decide, by decide⟩ (fun _ => ?_) (fun q => absurd (by decide) q)
                      refine v_iconst X dX11_isOrder_107 ?_
                      refine hret _ _ _ _ _ _ _ _ _ _ _ (some (.int (iz 0))) dX11_isOrder_108 ⟨rfl, 0, ⟨by omega, by omega⟩, rfl⟩ (by decide) (by decide) (fun hmok => ?_)
                      refine ⟨rfl, rfl, rfl, rfl, rfl, rfl, 0, rfl, Or.inr ⟨rfl, ?_⟩⟩
                      omega
                    · skip
                      refine v_if_ne X 107 dX11_isOrder_82 (by decide) ⟨by decide, by decide⟩ (fun q => absurd q (by decide)) (fun _ => ?_)
                      refine v_iload_n X 2 dX11_isOrder_85 rfl rfl ?_
                      refine v_iload X 4 dX11_isOrder_86 rfl ?_
                      refine v_callS X [.int (iz b), .int (iz d)] hRm (c_X11_isTwice _ _ _ b d ⟨by omega, by omega⟩ ⟨by omega, by omega⟩) (gS bw_43_7 bw_43_8 bw_1_2 bw_43_9) rfl ddX11_isTwice (by decide) (Nat.le_of_ble_eq_true rfl) dX11_isOrder_88 (k_pB (fun b14 => ?_) (fun b14 => ?_))
                      · skip
                        refine v_if_ne X 107 dX11_isOrder_91 (by decide) ⟨by decide, by decide⟩ (fun _ => ?_) (fun q => absurd (by decide) q)
                        refine v_iconst X dX11_isOrder_107 ?_
                        refine hret _ _ _ _ _ _ _ _ _ _ _ (some (.int (iz 0))) dX11_isOrder_108 ⟨rfl, 0, ⟨by omega, by omega⟩, rfl⟩ (by decide) (by decide) (fun hmok => ?_)
                        refine ⟨rfl, rfl, rfl, rfl, rfl, rfl, 0, rfl, Or.inr ⟨rfl, ?_⟩⟩
                        omega
                      · skip
                        refine v_if_ne X 107 dX11_isOrder_91 (by decide) ⟨by decide, by decide⟩ (fun q => absurd q (by decide)) (fun _ => ?_)
                        refine v_iload_n X 3 dX11_isOrder_94 rfl rfl ?_
                        refine v_iload X 4 dX11_isOrder_95 rfl ?_
                        refine v_callS X [.int (iz c), .int (iz d)] hRm (c_X11_isTwice _ _ _ c d ⟨by omega, by omega⟩ ⟨by omega, by omega⟩) (gS bw_43_7 bw_43_8 bw_1_2 bw_43_9) rfl ddX11_isTwice (by decide) (Nat.le_of_ble_eq_true rfl) dX11_isOrder_97 (k_pB (fun b15 => ?_) (fun b15 => ?_))
                        · skip
                          refine v_if_ne X 107 dX11_isOrder_100 (by decide) ⟨by decide, by decide⟩ (fun _ => ?_) (fun q => absurd (by decide) q)
                          refine v_iconst X dX11_isOrder_107 ?_
                          refine hret _ _ _ _ _ _ _ _ _ _ _ (some (.int (iz 0))) dX11_isOrder_108 ⟨rfl, 0, ⟨by omega, by omega⟩, rfl⟩ (by decide) (by decide) (fun hmok => ?_)
                          refine ⟨rfl, rfl, rfl, rfl, rfl, rfl, 0, rfl, Or.inr ⟨rfl, ?_⟩⟩
                          omega
                        · skip
                          refine v_if_ne X 107 dX11_isOrder_100 (by decide) ⟨by decide, by decide⟩ (fun q => absurd q (by decide)) (fun _ => ?_)
                          refine v_iconst X dX11_isOrder_103 ?_
                          refine v_goto X 108 dX11_isOrder_104 (by decide) ?_
                          refine hret _ _ _ _ _ _ _ _ _ _ _ (some (.int (iz 1))) dX11_isOrder_108 ⟨rfl, 1, ⟨by omega, by omega⟩, rfl⟩ (by decide) (by decide) (fun hmok => ?_)
                          refine ⟨rfl, rfl, rfl, rfl, rfl, rfl, 1, rfl, Or.inl ⟨rfl, ?_⟩⟩
                          omega
            · skip
              refine v_iload X 4 dX11_isOrder_53 rfl ?_
              refine v_iconst X dX11_isOrder_55 ?_
              refine v_icmp_eq X 61 dX11_isOrder_56 (by decide) ⟨by omega, by omega⟩ ⟨by decide, by decide⟩ (fun u16 => ?_) (fun u16 => ?_)
              · skip
                refine v_iload_n X 1 dX11_isOrder_61 rfl rfl ?_
                refine v_iload_n X 2 dX11_isOrder_62 rfl rfl ?_
                refine v_icmp_eq X 107 dX11_isOrder_63 (by decide) ⟨by omega, by omega⟩ ⟨by omega, by omega⟩ (fun u17 => ?_) (fun u17 => ?_)
                · skip
                  refine v_iconst X dX11_isOrder_107 ?_
                  refine hret _ _ _ _ _ _ _ _ _ _ _ (some (.int (iz 0))) dX11_isOrder_108 ⟨rfl, 0, ⟨by omega, by omega⟩, rfl⟩ (by decide) (by decide) (fun hmok => ?_)
                  refine ⟨rfl, rfl, rfl, rfl, rfl, rfl, 0, rfl, Or.inr ⟨rfl, ?_⟩⟩
                  omega
                · skip
                  refine v_iload_n X 1 dX11_isOrder_66 rfl rfl ?_
                  refine v_iload_n X 3 dX11_isOrder_67 rfl rfl ?_
                  refine v_icmp_eq X 107 dX11_isOrder_68 (by decide) ⟨by omega, by omega⟩ ⟨by omega, by omega⟩ (fun u18 => ?_) (fun u18 => ?_)
                  · skip
                    refine v_iconst X dX11_isOrder_107 ?_
                    refine hret _ _ _ _ _ _ _ _ _ _ _ (some (.int (iz 0))) dX11_isOrder_108 ⟨rfl, 0, ⟨by omega, by omega⟩, rfl⟩ (by decide) (by decide) (fun hmok => ?_)
                    refine ⟨rfl, rfl, rfl, rfl, rfl, rfl, 0, rfl, Or.inr ⟨rfl, ?_⟩⟩
                    omega
                  · skip
                    refine v_iload_n X 1 dX11_isOrder_71 rfl rfl ?_
                    refine v_iload X 4 dX11_isOrder_72 rfl ?_
                    refine v_icmp_eq X 107 dX11_isOrder_74 (by decide) ⟨by omega, by omega⟩ ⟨by omega, by omega⟩ (fun u19 => ?_) (fun u19 => ?_)
                    · skip
                      refine v_iconst X dX11_isOrder_107 ?_
                      refine hret _ _ _ _ _ _ _ _ _ _ _ (some (.int (iz 0))) dX11_isOrder_108 ⟨rfl, 0, ⟨by omega, by omega⟩, rfl⟩ (by decide) (by decide) (fun hmok => ?_)
                      refine ⟨rfl, rfl, rfl, rfl, rfl, rfl, 0, rfl, Or.inr ⟨rfl, ?_⟩⟩
                      omega
                    · skip
                      refine v_iload_n X 2 dX11_isOrder_77 rfl rfl ?_
                      refine v_iload_n X 3 dX11_isOrder_78 rfl rfl ?_
                      refine v_callS X [.int (iz b), .int (iz c)] hRm (c_X11_isTwice _ _ _ b c ⟨by omega, by omega⟩ ⟨by omega, by omega⟩) (gS bw_43_7 bw_43_8 bw_1_2 bw_43_9) rfl ddX11_isTwice (by decide) (Nat.le_of_ble_eq_true rfl) dX11_isOrder_79 (k_pB (fun b20 => ?_) (fun b20 => ?_))
                      · skip
                        refine v_if_ne X 107 dX11_isOrder_82 (by decide) ⟨by decide, by decide⟩ (fun _ => ?_) (fun q => absurd (by decide) q)
                        refine v_iconst X dX11_isOrder_107 ?_
                        refine hret _ _ _ _ _ _ _ _ _ _ _ (some (.int (iz 0))) dX11_isOrder_108 ⟨rfl, 0, ⟨by omega, by omega⟩, rfl⟩ (by decide) (by decide) (fun hmok => ?_)
                        refine ⟨rfl, rfl, rfl, rfl, rfl, rfl, 0, rfl, Or.inr ⟨rfl, ?_⟩⟩
                        omega
                      · skip
                        refine v_if_ne X 107 dX11_isOrder_82 (by decide) ⟨by decide, by decide⟩ (fun q => absurd q (by decide)) (fun _ => ?_)
                        refine v_iload_n X 2 dX11_isOrder_85 rfl rfl ?_
                        refine v_iload X 4 dX11_isOrder_86 rfl ?_
                        refine v_callS X [.int (iz b), .int (iz d)] hRm (c_X11_isTwice _ _ _ b d ⟨by omega, by omega⟩ ⟨by omega, by omega⟩) (gS bw_43_7 bw_43_8 bw_1_2 bw_43_9) rfl ddX11_isTwice (by decide) (Nat.le_of_ble_eq_true rfl) dX11_isOrder_88 (k_pB (fun b21 => ?_) (fun b21 => ?_))
                        · skip
                          refine v_if_ne X 107 dX11_isOrder_91 (by decide) ⟨by decide, by decide⟩ (fun _ => ?_) (fun q => absurd (by decide) q)
                          refine v_iconst X dX11_isOrder_107 ?_
                          refine hret _ _ _ _ _ _ _ _ _ _ _ (some (.int (iz 0))) dX11_isOrder_108 ⟨rfl, 0, ⟨by omega, by omega⟩, rfl⟩ (by decide) (by decide) (fun hmok => ?_)
                          refine ⟨rfl, rfl, rfl, rfl, rfl, rfl, 0, rfl, Or.inr ⟨rfl, ?_⟩⟩
                          omega
                        · skip
                          refine v_if_ne X 107 dX11_isOrder_91 (by decide) ⟨by decide, by decide⟩ (fun q => absurd q (by decide)) (fun _ => ?_)
                          refine v_iload_n X 3 dX11_isOrder_94 rfl rfl ?_
                          refine v_iload X 4 dX11_isOrder_95 rfl ?_
                          refine v_callS X [.int (iz c), .int (iz d)] hRm (c_X11_isTwice _ _ _ c d ⟨by omega, by omega⟩ ⟨by omega, by omega⟩) (gS bw_43_7 bw_43_8 bw_1_2 bw_43_9) rfl ddX11_isTwice (by decide) (Nat.le_of_ble_eq_true rfl) dX11_isOrder_97 (k_pB (fun b22 => ?_) (fun b22 => ?_))
                          · skip
                            refine v_if_ne X 107 dX11_isOrder_100 (by decide) ⟨by decide, by decide⟩ (fun _ => ?_) (fun q => absurd (by decide) q)
                            refine v_iconst X dX11_isOrder_107 ?_
                            refine hret _ _ _ _ _ _ _ _ _ _ _ (some (.int (iz 0))) dX11_isOrder_108 ⟨rfl, 0, ⟨by omega, by omega⟩, rfl⟩ (by decide) (by decide) (fun hmok => ?_)
                            refine ⟨rfl, rfl, rfl, rfl, rfl, rfl, 0, rfl, Or.inr ⟨rfl, ?_⟩⟩
                            omega
                          · skip
                            refine v_if_ne X 107 dX11_isOrder_100 (by decide) ⟨by decide, by decide⟩ (fun q => absurd q (by decide)) (fun _ => ?_)
                            refine v_iconst X dX11_isOrder_103 ?_
                            refine v_goto X 108 dX11_isOrder_104 (by decide) ?_
                            refine hret _ _ _ _ _ _ _ _ _ _ _ (some (.int (iz 1))) dX11_isOrder_108 ⟨rfl, 1, ⟨by omega, by omega⟩, rfl⟩ (by decide) (by decide) (fun hmok => ?_)
                            refine ⟨rfl, rfl, rfl, rfl, rfl, rfl, 1, rfl, Or.inl ⟨rfl, ?_⟩⟩
                            omega
              · skip
                refine v_iconst X dX11_isOrder_59 ?_
                refine hret _ _ _ _ _ _ _ _ _ _ _ (some (.int (iz 0))) dX11_isOrder_60 ⟨rfl, 0, ⟨by omega, by omega⟩, rfl⟩ (by decide) (by decide) (fun hmok => ?_)
                refine ⟨rfl, rfl, rfl, rfl, rfl, rfl, 0, rfl, Or.inr ⟨rfl, ?_⟩⟩
                omega
          · skip
            refine v_iload_n X 3 dX11_isOrder_43 rfl rfl ?_
            refine v_iconst X dX11_isOrder_44 ?_
            refine v_icmp_ne X 59 dX11_isOrder_45 (by decide) ⟨by omega, by omega⟩ ⟨by decide, by decide⟩ (fun u23 => ?_) (fun u23 => ?_)
            · skip
              refine v_iconst X dX11_isOrder_59 ?_
              refine hret _ _ _ _ _ _ _ _ _ _ _ (some (.int (iz 0))) dX11_isOrder_60 ⟨rfl, 0, ⟨by omega, by omega⟩, rfl⟩ (by decide) (by decide) (fun hmok => ?_)
              refine ⟨rfl, rfl, rfl, rfl, rfl, rfl, 0, rfl, Or.inr ⟨rfl, ?_⟩⟩
              omega
            · skip
              refine v_iload_n X 3 dX11_isOrder_48 rfl rfl ?_
              refine v_iconst X dX11_isOrder_49 ?_
              refine v_icmp_ne X 61 dX11_isOrder_50 (by decide) ⟨by omega, by omega⟩ ⟨by decide, by decide⟩ (fun u24 => ?_) (fun u24 => ?_)
              · skip
                refine v_iload_n X 1 dX11_isOrder_61 rfl rfl ?_
                refine v_iload_n X 2 dX11_isOrder_62 rfl rfl ?_
                refine v_icmp_eq X 107 dX11_isOrder_63 (by decide) ⟨by omega, by omega⟩ ⟨by omega, by omega⟩ (fun u25 => ?_) (fun u25 => ?_)
                · skip
                  refine v_iconst X dX11_isOrder_107 ?_
                  refine hret _ _ _ _ _ _ _ _ _ _ _ (some (.int (iz 0))) dX11_isOrder_108 ⟨rfl, 0, ⟨by omega, by omega⟩, rfl⟩ (by decide) (by decide) (fun hmok => ?_)
                  refine ⟨rfl, rfl, rfl, rfl, rfl, rfl, 0, rfl, Or.inr ⟨rfl, ?_⟩⟩
                  omega
                · skip
                  refine v_iload_n X 1 dX11_isOrder_66 rfl rfl ?_
                  refine v_iload_n X 3 dX11_isOrder_67 rfl rfl ?_
                  refine v_icmp_eq X 107 dX11_isOrder_68 (by decide) ⟨by omega, by omega⟩ ⟨by omega, by omega⟩ (fun u26 => ?_) (fun u26 => ?_)
                  · skip
                    refine v_iconst X dX11_isOrder_107 ?_
                    refine hret _ _ _ _ _ _ _ _ _ _ _ (some (.int (iz 0))) dX11_isOrder_108 ⟨rfl, 0, ⟨by omega, by omega⟩, rfl⟩ (by decide) (by decide) (fun hmok => ?_)
                    refine ⟨rfl, rfl, rfl, rfl, rfl, rfl, 0, rfl, Or.inr ⟨rfl, ?_⟩⟩
                    omega
                  · skip
                    refine v_iload_n X 1 dX11_isOrder_71 rfl rfl ?_
                    refine v_iload X 4 dX11_isOrder_72 rfl ?_
                    refine v_icmp_eq X 107 dX11_isOrder_74 (by decide) ⟨by omega, by omega⟩ ⟨by omega, by omega⟩ (fun u27 => ?_) (fun u27 => ?_)
                    · skip
                      refine v_iconst X dX11_isOrder_107 ?_
                      refine hret _ _ _ _ _ _ _ _ _ _ _ (some (.int (iz 0))) dX11_isOrder_108 ⟨rfl, 0, ⟨by omega, by omega⟩, rfl⟩ (by decide) (by decide) (fun hmok => ?_)
                      refine ⟨rfl, rfl, rfl, rfl, rfl, rfl, 0, rfl, Or.inr ⟨rfl, ?_⟩⟩
                      omega
                    · skip
                      refine v_iload_n X 2 dX11_isOrder_77 rfl rfl ?_
                      refine v_iload_n X 3 dX11_isOrder_78 rfl rfl ?_
                      refine v_callS X [.int (iz b), .int (iz c)] hRm (c_X11_isTwice _ _ _ b c ⟨by omega, by omega⟩ ⟨by omega, by omega⟩) (gS bw_43_7 bw_43_8 bw_1_2 bw_43_9) rfl ddX11_isTwice (by decide) (Nat.le_of_ble_eq_true rfl) dX11_isOrder_79 (k_pB (fun b28 => ?_) (fun b28 => ?_))
                      · skip
                        refine v_if_ne X 107 dX11_isOrder_82 (by decide) ⟨by decide, by decide⟩ (fun _ => ?_) (fun q => absurd (by decide) q)
                        refine v_iconst X dX11_isOrder_107 ?_
                        refine hret _ _ _ _ _ _ _ _ _ _ _ (some (.int (iz 0))) dX11_isOrder_108 ⟨rfl, 0, ⟨by omega, by omega⟩, rfl⟩ (by decide) (by decide) (fun hmok => ?_)
                        refine ⟨rfl, rfl, rfl, rfl, rfl, rfl, 0, rfl, Or.inr ⟨rfl, ?_⟩⟩
                        omega
                      · skip
                        refine v_if_ne X 107 dX11_isOrder_82 (by decide) ⟨by decide, by decide⟩ (fun q => absurd q (by decide)) (fun _ => ?_)
                        refine v_iload_n X 2 dX11_isOrder_85 rfl rfl ?_
                        refine v_iload X 4 dX11_isOrder_86 rfl ?_
                        refine v_callS X [.int (iz b), .int (iz d)] hRm (c_X11_isTwice _ _ _ b d ⟨by omega, by omega⟩ ⟨by omega, by omega⟩) (gS bw_43_7 bw_43_8 bw_1_2 bw_43_9) rfl ddX11_isTwice (by decide) (Nat.le_of_ble_eq_true rfl) dX11_isOrder_88 (k_pB (fun b29 => ?_) (fun b29 => ?_))
                        · skip
                          refine v_if_ne X 107 dX11_isOrder_91 (by decide) ⟨by decide, by decide⟩ (fun _ => ?_) (fun q => absurd (by decide) q)
                          refine v_iconst X dX11_isOrder_107 ?_
                          refine hret _ _ _ _ _ _ _ _ _ _ _ (some (.int (iz 0))) dX11_isOrder_108 ⟨rfl, 0, ⟨by omega, by omega⟩, rfl⟩ (by decide) (by decide) (fun hmok => ?_)
                          refine ⟨rfl, rfl, rfl, rfl, rfl, rfl, 0, rfl, Or.inr ⟨rfl, ?_⟩⟩
                          omega
                        · skip
                          refine v_if_ne X 107 dX11_isOrder_91 (by decide) ⟨by decide, by decide⟩ (fun q => absurd q (by decide)) (fun _ => ?_)
                          refine v_iload_n X 3 dX11_isOrder_94 rfl rfl ?_
                          refine v_iload X 4 dX11_isOrder_95 rfl ?_
                          refine v_callS X [.int (iz c), .int (iz d)] hRm (c_X11_isTwice _ _ _ c d ⟨by omega, by omega⟩ ⟨by omega, by omega⟩) (gS bw_43_7 bw_43_8 bw_1_2 bw_43_9) rfl ddX11_isTwice (by decide) (Nat.le_of_ble_eq_true rfl) dX11_isOrder_97 (k_pB (fun b30 => ?_) (fun b30 => ?_))
                          · skip
                            refine v_if_ne X 107 dX11_isOrder_100 (by decide) ⟨by decide, by decide⟩ (fun _ => ?_) (fun q => absurd (by decide) q)
                            refine v_iconst X dX11_isOrder_107 ?_
                            refine hret _ _ _ _ _ _ _ _ _ _ _ (some (.int (iz 0))) dX11_isOrder_108 ⟨rfl, 0, ⟨by omega, by omega⟩, rfl⟩ (by decide) (by decide) (fun hmok => ?_)
                            refine ⟨rfl, rfl, rfl, rfl, rfl, rfl, 0, rfl, Or.inr ⟨rfl, ?_⟩⟩
                            omega
                          · skip
                            refine v_if_ne X 107 dX11_isOrder_100 (by decide) ⟨by decide, by decide⟩ (fun q => absurd q (by decide)) (fun _ => ?_)
                            refine v_iconst X dX11_isOrder_103 ?_
                            refine v_goto X 108 dX11_isOrder_104 (by decide) ?_
                            refine hret _ _ _ _ _ _ _ _ _ _ _ (some (.int (iz 1))) dX11_isOrder_108 ⟨rfl, 1, ⟨by omega, by omega⟩, rfl⟩ (by decide) (by decide) (fun hmok => ?_)
                            refine ⟨rfl, rfl, rfl, rfl, rfl, rfl, 1, rfl, Or.inl ⟨rfl, ?_⟩⟩
                            omega
              · skip
                refine v_iload X 4 dX11_isOrder_53 rfl ?_
                refine v_iconst X dX11_isOrder_55 ?_
                refine v_icmp_eq X 61 dX11_isOrder_56 (by decide) ⟨by omega, by omega⟩ ⟨by decide, by decide⟩ (fun u31 => ?_) (fun u31 => ?_)
                · skip
                  refine v_iload_n X 1 dX11_isOrder_61 rfl rfl ?_
                  refine v_iload_n X 2 dX11_isOrder_62 rfl rfl ?_
                  refine v_icmp_eq X 107 dX11_isOrder_63 (by decide) ⟨by omega, by omega⟩ ⟨by omega, by omega⟩ (fun u32 => ?_) (fun u32 => ?_)
                  · skip
                    refine v_iconst X dX11_isOrder_107 ?_
                    refine hret _ _ _ _ _ _ _ _ _ _ _ (some (.int (iz 0))) dX11_isOrder_108 ⟨rfl, 0, ⟨by omega, by omega⟩, rfl⟩ (by decide) (by decide) (fun hmok => ?_)
                    refine ⟨rfl, rfl, rfl, rfl, rfl, rfl, 0, rfl, Or.inr ⟨rfl, ?_⟩⟩
                    omega
                  · skip
                    refine v_iload_n X 1 dX11_isOrder_66 rfl rfl ?_
                    refine v_iload_n X 3 dX11_isOrder_67 rfl rfl ?_
                    refine v_icmp_eq X 107 dX11_isOrder_68 (by decide) ⟨by omega, by omega⟩ ⟨by omega, by omega⟩ (fun u33 => ?_) (fun u33 => ?_)
                    · skip
                      refine v_iconst X dX11_isOrder_107 ?_
                      refine hret _ _ _ _ _ _ _ _ _ _ _ (some (.int (iz 0))) dX11_isOrder_108 ⟨rfl, 0, ⟨by omega, by omega⟩, rfl⟩ (by decide) (by decide) (fun hmok => ?_)
                      refine ⟨rfl, rfl, rfl, rfl, rfl, rfl, 0, rfl, Or.inr ⟨rfl, ?_⟩⟩
                      omega
                    · skip
                      refine v_iload_n X 1 dX11_isOrder_71 rfl rfl ?_
                      refine v_iload X 4 dX11_isOrder_72 rfl ?_
                      refine v_icmp_eq X 107 dX11_isOrder_74 (by decide) ⟨by omega, by omega⟩ ⟨by omega, by omega⟩ (fun u34 => ?_) (fun u34 => ?_)
                      · skip
                        refine v_iconst X dX11_isOrder_107 ?_
                        refine hret _ _ _ _ _ _ _ _ _ _ _ (some (.int (iz 0))) dX11_isOrder_108 ⟨rfl, 0, ⟨by omega, by omega⟩, rfl⟩ (by decide) (by decide) (fun hmok => ?_)
                        refine ⟨rfl, rfl, rfl, rfl, rfl, rfl, 0, rfl, Or.inr ⟨rfl, ?_⟩⟩
                        omega
                      · skip
                        refine v_iload_n X 2 dX11_isOrder_77 rfl rfl ?_
                        refine v_iload_n X 3 dX11_isOrder_78 rfl rfl ?_
                        refine v_callS X [.int (iz b), .int (iz c)] hRm (c_X11_isTwice _ _ _ b c ⟨by omega, by omega⟩ ⟨by omega, by omega⟩) (gS bw_43_7 bw_43_8 bw_1_2 bw_43_9) rfl ddX11_isTwice (by decide) (Nat.le_of_ble_eq_true rfl) dX11_isOrder_79 (k_pB (fun b35 => ?_) (fun b35 => ?_))
                        · skip
                          refine v_if_ne X 107 dX11_isOrder_82 (by decide) ⟨by decide, by decide⟩ (fun _ => ?_) (fun q => absurd (by decide) q)
                          refine v_iconst X dX11_isOrder_107 ?_
                          refine hret _ _ _ _ _ _ _ _ _ _ _ (some (.int (iz 0))) dX11_isOrder_108 ⟨rfl, 0, ⟨by omega, by omega⟩, rfl⟩ (by decide) (by decide) (fun hmok => ?_)
                          refine ⟨rfl, rfl, rfl, rfl, rfl, rfl, 0, rfl, Or.inr ⟨rfl, ?_⟩⟩
                          omega
                        · skip
                          refine v_if_ne X 107 dX11_isOrder_82 (by decide) ⟨by decide, by decide⟩ (fun q => absurd q (by decide)) (fun _ => ?_)
                          refine v_iload_n X 2 dX11_isOrder_85 rfl rfl ?_
                          refine v_iload X 4 dX11_isOrder_86 rfl ?_
                          refine v_callS X [.int (iz b), .int (iz d)] hRm (c_X11_isTwice _ _ _ b d ⟨by omega, by omega⟩ ⟨by omega, by omega⟩) (gS bw_43_7 bw_43_8 bw_1_2 bw_43_9) rfl ddX11_isTwice (by decide) (Nat.le_of_ble_eq_true rfl) dX11_isOrder_88 (k_pB (fun b36 => ?_) (fun b36 => ?_))
                          · skip
                            refine v_if_ne X 107 dX11_isOrder_91 (by decide) ⟨by decide, by decide⟩ (fun _ => ?_) (fun q => absurd (by decide) q)
                            refine v_iconst X dX11_isOrder_107 ?_
                            refine hret _ _ _ _ _ _ _ _ _ _ _ (some (.int (iz 0))) dX11_isOrder_108 ⟨rfl, 0, ⟨by omega, by omega⟩, rfl⟩ (by decide) (by decide) (fun hmok => ?_)
                            refine ⟨rfl, rfl, rfl, rfl, rfl, rfl, 0, rfl, Or.inr ⟨rfl, ?_⟩⟩
                            omega
                          · skip
                            refine v_if_ne X 107 dX11_isOrder_91 (by decide) ⟨by decide, by decide⟩ (fun q => absurd q (by decide)) (fun _ => ?_)
                            refine v_iload_n X 3 dX11_isOrder_94 rfl rfl ?_
                            refine v_iload X 4 dX11_isOrder_95 rfl ?_
                            refine v_callS X [.int (iz c), .int (iz d)] hRm (c_X11_isTwice _ _ _ c d ⟨by omega, by omega⟩ ⟨by omega, by omega⟩) (gS bw_43_7 bw_43_8 bw_1_2 bw_43_9) rfl ddX11_isTwice (by decide) (Nat.le_of_ble_eq_true rfl) dX11_isOrder_97 (k_pB (fun b37 => ?_) (fun b37 => ?_))
                            · skip
                              refine v_if_ne X 107 dX11_isOrder_100 (by decide) ⟨by decide, by decide⟩ (fun _ => ?_) (fun q => absurd (by decide) q)
                              refine v_iconst X dX11_isOrder_107 ?_
                              refine hret _ _ _ _ _ _ _ _ _ _ _ (some (.int (iz 0))) dX11_isOrder_108 ⟨rfl, 0, ⟨by omega, by omega⟩, rfl⟩ (by decide) (by decide) (fun hmok => ?_)
                              refine ⟨rfl, rfl, rfl, rfl, rfl, rfl, 0, rfl, Or.inr ⟨rfl, ?_⟩⟩
                              omega
                            · skip
                              refine v_if_ne X 107 dX11_isOrder_100 (by decide) ⟨by decide, by decide⟩ (fun q => absurd q (by decide)) (fun _ => ?_)
                              refine v_iconst X dX11_isOrder_103 ?_
                              refine v_goto X 108 dX11_isOrder_104 (by decide) ?_
                              refine hret _ _ _ _ _ _ _ _ _ _ _ (some (.int (iz 1))) dX11_isOrder_108 ⟨rfl, 1, ⟨by omega, by omega⟩, rfl⟩ (by decide) (by decide) (fun hmok => ?_)
                              refine ⟨rfl, rfl, rfl, rfl, rfl, rfl, 1, rfl, Or.inl ⟨rfl, ?_⟩⟩
                              omega
                · skip
                  refine v_iconst X dX11_isOrder_59 ?_
                  refine hret _ _ _ _ _ _ _ _ _ _ _ (some (.int (iz 0))) dX11_isOrder_60 ⟨rfl, 0, ⟨by omega, by omega⟩, rfl⟩ (by decide) (by decide) (fun hmok => ?_)
                  refine ⟨rfl, rfl, rfl, rfl, rfl, rfl, 0, rfl, Or.inr ⟨rfl, ?_⟩⟩
                  omega
        · skip
          refine v_if_ne X 38 dX11_isOrder_33 (by decide) ⟨by decide, by decide⟩ (fun q => absurd q (by decide)) (fun _ => ?_)
          refine v_iconst X dX11_isOrder_36 ?_
          refine hret _ _ _ _ _ _ _ _ _ _ _ (some (.int (iz 0))) dX11_isOrder_37 ⟨rfl, 0, ⟨by omega, by omega⟩, rfl⟩ (by decide) (by decide) (fun hmok => ?_)
          refine ⟨rfl, rfl, rfl, rfl, rfl, rfl, 0, rfl, Or.inr ⟨rfl, ?_⟩⟩
          omega
      · skip
        refine v_if_eq X 36 dX11_isOrder_24 (by decide) ⟨by decide, by decide⟩ (fun _ => ?_) (fun q => absurd (by decide) q)
        refine v_iconst X dX11_isOrder_36 ?_
        refine hret _ _ _ _ _ _ _ _ _ _ _ (some (.int (iz 0))) dX11_isOrder_37 ⟨rfl, 0, ⟨by omega, by omega⟩, rfl⟩ (by decide) (by decide) (fun hmok => ?_)
        refine ⟨rfl, rfl, rfl, rfl, rfl, rfl, 0, rfl, Or.inr ⟨rfl, ?_⟩⟩
        omega
    · skip
      refine v_if_eq X 36 dX11_isOrder_16 (by decide) ⟨by decide, by decide⟩ (fun _ => ?_) (fun q => absurd (by decide) q)
      refine v_iconst X dX11_isOrder_36 ?_
      refine hret _ _ _ _ _ _ _ _ _ _ _ (some (.int (iz 0))) dX11_isOrder_37 ⟨rfl, 0, ⟨by omega, by omega⟩, rfl⟩ (by decide) (by decide) (fun hmok => ?_)
      refine ⟨rfl, rfl, rfl, rfl, rfl, rfl, 0, rfl, Or.inr ⟨rfl, ?_⟩⟩
      omega

