/-! THE MODEL'S READER: its leaves -/
def mFail (M : MI) (a : Int) : MI := if 0 < M 53 13 then M else mu (mu M 53 13 a) 53 14 (M 57 (M 53 11))
def mNext (M : MI) : MI := if M 53 11 = 400 then mFail M 2 else mu M 53 11 (M 53 11 + 1)
theorem mFail_y {M : MI} {a : Int} (h : 0 < M 53 13) : mFail M a = M := if_pos h
theorem mFail_n {M : MI} {a : Int} (h : ¬ 0 < M 53 13) : mFail M a = mu (mu M 53 13 a) 53 14 (M 57 (M 53 11)) := if_neg h
theorem mNext_go {M : MI} (h : M 53 11 ≠ 400) : mNext M = mu M 53 11 (M 53 11 + 1) := if_neg h
theorem mNext_full {M : MI} (h : M 53 11 = 400) (h2 : ¬ 0 < M 53 13) : mNext M = mu (mu M 53 13 2) 53 14 (M 57 (M 53 11)) := (if_pos h).trans (if_neg h2)
theorem mNext_f {M : MI} (h : M 53 11 = 400) (h2 : 0 < M 53 13) : mNext M = M := (if_pos h).trans (if_pos h2)
def coP (tm : Int) (w : List Int) (M M' : MI) : Prop := M' 53 36 = ((mpW tm w).length : Int) ∧ M' 53 32 = mpZ tm w (M 53 32) ∧ M' 73 = mpC tm w (M 53 32) (M 73) ∧ M' 74 = mpI tm w (M 53 32) (M 74) ∧ (∀ i : Nat, i ≠ 53 → i ≠ 73 → i ≠ 74 → M' i = M i) ∧ ∀ z : Int, z ≠ 32 → z ≠ 36 → M' 53 z = M 53 z
theorem coP_fr {tm lo hi : Int} {w : List Int} {M M' : MI} (h : coP tm w M M') (a : lo ≤ M 53 32) (b : M 53 32 + (w.length : Int) ≤ hi) : frE lo hi M M' := by
  refine ⟨fun i i1 i2 i3 _ => h.2.2.2.2.1 i i1 i2 i3, fun z _ _ _ _ z5 z6 => h.2.2.2.2.2 z z5 z6, fun z hz => ?_⟩
  rw [h.2.2.1, h.2.2.2.1]
  exact mp_out (by omega)

-- next
set_option maxHeartbeats 4000000 in
set_option maxRecDepth 100000 in
theorem c_X12_next (l : Launch) (D : va_G) (cy : Nat → ClassId) {N : Nat} {sh : MS} {ad : Nat → Nat} {M L : MI} {R : MR} (hS : Std N sh R) (ht : 0 ≤ M 53 11 ∧ M 53 11 ≤ 400) : Ctr l D cy yX12_next wsX12_next ({ frames := 1, cells := 0, slots := 0, locals := 21 } : Room) N sh ad M L R [.ref (ad 53)] (eV N sh ad L R (fun M' => M' = mNext M)) := by
  refine Ctr.ofV (by decide) rfl (Nat.le_of_ble_eq_true rfl) ?_
  intro K hKl hKd hRm hnm X hret
  have X : VX K cX12_next 1 wsX12_next RX12 := X
  show V K 1 0 0 N sh ad M L R [(0, .ref (ad 53))] [] 0
  refine v_aload_n X 0 dX12_next_0 rfl rfl ?_
  refine gt_X12_t X iwX12 (Std.lt hS rfl) (Std.k hS rfl rfl) (List.mem_cons_of_mem _ bw_19_11) dX12_next_1 (M 53 11) rfl (fun hr1 => ?_)
  refine v_sipush X dX12_next_4 (by decide) ?_
  refine v_icmp_ne X 18 dX12_next_7 (by decide) ⟨by omega, by omega⟩ ⟨by decide, by decide⟩ (fun u2 => ?_) (fun u2 => ?_)
  · skip
    refine v_aload_n X 0 dX12_next_18 rfl rfl ?_
    refine v_dup X dX12_next_19 rfl ?_
    refine gt_X12_t X iwX12 (Std.lt hS rfl) (Std.k hS rfl rfl) (List.mem_cons_of_mem _ bw_19_11) dX12_next_20 (M 53 11) rfl (fun hr3 => ?_)
    refine v_iconst X dX12_next_23 ?_
    refine v_iadd X dX12_next_24 ?_
    refine pt_X12_t X iwX12 (Std.lt hS rfl) (Std.k hS rfl rfl) (List.mem_cons_of_mem _ bw_19_11) ⟨by omega, by omega⟩ dX12_next_25 ?_
    refine hret _ _ _ _ _ _ _ _ _ _ _ none dX12_next_28 ⟨rfl, rfl⟩ (by decide) (by decide) (fun hmok => ?_)
    exact ⟨rfl, rfl, rfl, rfl, rfl, rfl, (mNext_go (by omega)).symm⟩
  · skip
    refine v_aload_n X 0 dX12_next_10 rfl rfl ?_
    refine v_iconst X dX12_next_11 ?_
    refine v_callV X [.int (iz 2)] hRm (c_X12_fail _ _ _ hS 2 ⟨by decide, by decide⟩ (show 0 ≤ (M 53 11) ∧ (M 53 11) < 403 by omega)) (gV bw_21_2 bw_21_3 bw_21_4 bw_1_5 bw_21_5) rfl ddX12_fail (by decide) (Std.lt hS rfl) (Std.k hS rfl rfl) ⟨rfl, by decide⟩ (Nat.le_of_ble_eq_true rfl) dX12_next_12 (k_eV (fun M5 e4 => ?_))
    refine v_goto X 28 dX12_next_15 (by decide) ?_
    refine hret _ _ _ _ _ _ _ _ _ _ _ none dX12_next_28 ⟨rfl, rfl⟩ (by decide) (by decide) (fun hmok => ?_)
    exact ⟨rfl, rfl, rfl, rfl, rfl, rfl, e4.trans (if_pos (by omega)).symm⟩

-- must
set_option maxHeartbeats 4000000 in
set_option maxRecDepth 100000 in
theorem c_X12_must (l : Launch) (D : va_G) (cy : Nat → ClassId) {N : Nat} {sh : MS} {ad : Nat → Nat} {M L : MI} {R : MR} (hS : Std N sh R) (a : Int) (ha : inR a) (ht : 0 ≤ M 53 11 ∧ M 53 11 ≤ 400) : Ctr l D cy yX12_must wsX12_must ({ frames := 2, cells := 0, slots := 0, locals := 41 } : Room) N sh ad M L R [.ref (ad 53), .int (iz a)] (eV N sh ad L R (fun M' => M' = if M 53 13 = 0 ∧ M 56 (M 53 11) = a then mNext M else mFail M 1)) := by
  refine Ctr.ofV (by decide) rfl (Nat.le_of_ble_eq_true rfl) ?_
  intro K hKl hKd hRm hnm X hret
  have X : VX K cX12_must 2 wsX12_must RX12 := X
  show V K 2 0 0 N sh ad M L R [(0, .ref (ad 53)), (1, .int (iz a))] [] 0
  refine v_aload_n X 0 dX12_must_0 rfl rfl ?_
  refine v_iload_n X 1 dX12_must_1 rfl rfl ?_
  refine v_callV X [.int (iz a)] hRm (c_X12_is _ _ _ hS a ha (by omega)) (gV bw_20_18 bw_20_19 bw_20_20 bw_1_5 bw_20_21) rfl ddX12_is (by decide) (Std.lt hS rfl) (Std.k hS rfl rfl) ⟨rfl, by decide⟩ (Nat.le_of_ble_eq_true rfl) dX12_must_2 (k_pB (fun b1 => ?_) (fun b1 => ?_))
  · skip
    refine v_if_eq X 15 dX12_must_5 (by decide) ⟨by decide, by decide⟩ (fun q => absurd q (by decide)) (fun _ => ?_)
    refine v_aload_n X 0 dX12_must_8 rfl rfl ?_
    refine v_callV X [] hRm (c_X12_next _ _ _ hS (show 0 ≤ (M 53 11) ∧ (M 53 11) ≤ 400 by omega)) (gV bw_21_6 bw_21_7 bw_21_8 bw_1_5 bw_21_9) rfl ddX12_next (by decide) (Std.lt hS rfl) (Std.k hS rfl rfl) ⟨rfl, by decide⟩ (Nat.le_of_ble_eq_true rfl) dX12_must_9 (k_eV (fun M3 e2 => ?_))
    refine v_goto X 20 dX12_must_12 (by decide) ?_
    refine hret _ _ _ _ _ _ _ _ _ _ _ none dX12_must_20 ⟨rfl, rfl⟩ (by decide) (by decide) (fun hmok => ?_)
    refine ⟨rfl, rfl, rfl, rfl, rfl, rfl, ?_⟩
    first | rw [if_pos (by assumption)]; assumption | rw [if_neg (by assumption)]; assumption
  · skip
    refine v_if_eq X 15 dX12_must_5 (by decide) ⟨by decide, by decide⟩ (fun _ => ?_) (fun q => absurd (by decide) q)
    refine v_aload_n X 0 dX12_must_15 rfl rfl ?_
    refine v_iconst X dX12_must_16 ?_
    refine v_callV X [.int (iz 1)] hRm (c_X12_fail _ _ _ hS 1 ⟨by decide, by decide⟩ (show 0 ≤ (M 53 11) ∧ (M 53 11) < 403 by omega)) (gV bw_21_2 bw_21_3 bw_21_4 bw_1_5 bw_21_5) rfl ddX12_fail (by decide) (Std.lt hS rfl) (Std.k hS rfl rfl) ⟨rfl, by decide⟩ (Nat.le_of_ble_eq_true rfl) dX12_must_17 (k_eV (fun M5 e4 => ?_))
    refine hret _ _ _ _ _ _ _ _ _ _ _ none dX12_must_20 ⟨rfl, rfl⟩ (by decide) (by decide) (fun hmok => ?_)
    refine ⟨rfl, rfl, rfl, rfl, rfl, rfl, ?_⟩
    first | rw [if_pos (by assumption)]; assumption | rw [if_neg (by assumption)]; assumption

-- emit
set_option maxHeartbeats 4000000 in
set_option maxRecDepth 100000 in
theorem c_X12_emit (l : Launch) (D : va_G) (cy : Nat → ClassId) {N : Nat} {sh : MS} {ad : Nat → Nat} {M L : MI} {R : MR} (hS : Std N sh R) (a b : Int) (ha : inR a) (hb : inR b) (hc : 0 ≤ M 53 32 ∧ M 53 32 < 1000) : Ctr l D cy yX12_emit wsX12_emit ({ frames := 0, cells := 0, slots := 0, locals := 0 } : Room) N sh ad M L R [.ref (ad 53), .int (iz a), .int (iz b)] (eV N sh ad L R (fun M' => M' = (mu (mu (mu M 73 (M 53 32) a) 74 (M 53 32) b) 53 32 ((M 53 32) + 1)))) := by
  refine Ctr.ofV (by decide) rfl (Nat.le_of_ble_eq_true rfl) ?_
  intro K hKl hKd hRm hnm X hret
  have X : VX K cX12_emit 3 wsX12_emit RX12 := X
  show V K 3 0 0 N sh ad M L R [(0, .ref (ad 53)), (1, .int (iz a)), (2, .int (iz b))] [] 0
  refine v_aload_n X 0 dX12_emit_0 rfl rfl ?_
  refine gt_X12_code X iwX12 (Std.lt hS rfl) (Std.k hS rfl rfl) (List.mem_cons_of_mem _ bw_8_11) dX12_emit_1 73 (Std.r hS 33 rfl) ?_
  refine v_aload_n X 0 dX12_emit_4 rfl rfl ?_
  refine gt_X12_codes X iwX12 (Std.lt hS rfl) (Std.k hS rfl rfl) (List.mem_cons_of_mem _ bw_19_17) dX12_emit_5 (M 53 32) rfl (fun hr1 => ?_)
  refine v_iload_n X 1 dX12_emit_8 rfl rfl ?_
  refine v_iast X (Std.lt hS rfl) (Std.at hS rfl rfl) (by omega) (by omega) ⟨by omega, by omega⟩ dX12_emit_9 ?_
  refine v_aload_n X 0 dX12_emit_10 rfl rfl ?_
  refine gt_X12_codeInt X iwX12 (Std.lt hS rfl) (Std.k hS rfl rfl) (List.mem_cons_of_mem _ bw_8_12) dX12_emit_11 74 (Std.r hS 34 rfl) ?_
  refine v_aload_n X 0 dX12_emit_14 rfl rfl ?_
  refine gt_X12_codes X iwX12 (Std.lt hS rfl) (Std.k hS rfl rfl) (List.mem_cons_of_mem _ bw_19_17) dX12_emit_15 (M 53 32) rfl (fun hr2 => ?_)
  refine v_iload_n X 2 dX12_emit_18 rfl rfl ?_
  refine v_iast X (Std.lt hS rfl) (Std.at hS rfl rfl) (by omega) (by omega) ⟨by omega, by omega⟩ dX12_emit_19 ?_
  refine v_aload_n X 0 dX12_emit_20 rfl rfl ?_
  refine v_dup X dX12_emit_21 rfl ?_
  refine gt_X12_codes X iwX12 (Std.lt hS rfl) (Std.k hS rfl rfl) (List.mem_cons_of_mem _ bw_19_17) dX12_emit_22 (M 53 32) rfl (fun hr3 => ?_)
  refine v_iconst X dX12_emit_25 ?_
  refine v_iadd X dX12_emit_26 ?_
  refine pt_X12_codes X iwX12 (Std.lt hS rfl) (Std.k hS rfl rfl) (List.mem_cons_of_mem _ bw_19_17) ⟨by omega, by omega⟩ dX12_emit_27 ?_
  refine hret _ _ _ _ _ _ _ _ _ _ _ none dX12_emit_30 ⟨rfl, rfl⟩ (by decide) (by decide) (fun hmok => ?_)
  refine ⟨rfl, rfl, rfl, rfl, rfl, rfl, ?_⟩
  try dsimp only
  all_goals rfl

-- comesOut
set_option maxHeartbeats 4000000 in
set_option maxRecDepth 100000 in
theorem c_X12_comesOut (l : Launch) (D : va_G) (cy : Nat → ClassId) {N : Nat} {sh : MS} {ad : Nat → Nat} {M L : MI} {R : MR} (hS : Std N sh R) (tm : Int) (htm : 0 ≤ tm ∧ tm < 2) (w1 : List Int) (hw : rep (M 75) w1) (hl : M 53 36 = (w1.length : Int)) (h48 : (w1.length : Int) ≤ 48) (hc : 0 ≤ M 53 32 ∧ M 53 32 + (w1.length : Int) ≤ 1000) : Ctr l D cy yX12_comesOut wsX12_comesOut ({ frames := 1, cells := 0, slots := 0, locals := 22 } : Room) N sh ad M L R [.ref (ad 53), .int (iz tm)] (eV N sh ad L R (fun M' => coP tm w1 M M')) := by
  refine Ctr.ofV (by decide) rfl (Nat.le_of_ble_eq_true rfl) ?_
  intro K hKl hKd hRm hnm X hret
  have X : VX K cX12_comesOut 3 wsX12_comesOut RX12 := X
  show V K 3 0 0 N sh ad M L R [(0, .ref (ad 53)), (1, .int (iz tm))] [] 0
  have hl1 : ∀ (n3 : Nat) (Mx : MI) (w2 : List Int), (rep (Mx 75) w2) → (Mx 53 36 = (w2.length : Int)) → (0 ≤ Mx 53 32 ∧ Mx 53 32 + (w2.length : Int) ≤ 1000 ∧ (w2.length : Int) ≤ 48) → (mpW tm w2 = mpW tm w1) → (mpZ tm w2 (Mx 53 32) = mpZ tm w1 (M 53 32)) → (mpC tm w2 (Mx 53 32) (Mx 73) = mpC tm w1 (M 53 32) (M 73)) → (mpI tm w2 (Mx 53 32) (Mx 74) = mpI tm w1 (M 53 32) (M 74)) → ((∀ i : Nat, i ≠ 53 → i ≠ 73 → i ≠ 74 → Mx i = M i) ∧ ∀ z : Int, z ≠ 32 → z ≠ 36 → Mx 53 z = M 53 z) → w2.length < n3 → V K 3 0 0 N sh ad Mx L R [(0, .ref (ad 53)), (1, .int (iz tm))] [] 0 := by
    intro n3
    induction n3 with
    | zero => intro Mx w2 hr h2 hb hW hZ hC hI hf hn4; exact absurd hn4 (Nat.not_lt_zero _)
    | succ n3 ih2 =>
      intro Mx w2 hr h2 hb hW hZ hC hI hf hn4
      refine v_aload_n X 0 dX12_comesOut_0 rfl rfl ?_
      refine gt_X12_waiting X iwX12 (Std.lt hS rfl) (Std.k hS rfl rfl) (List.mem_cons_of_mem _ bw_21_14) dX12_comesOut_1 (Mx 53 36) rfl (fun hr5 => ?_)
      refine v_if_le X 92 dX12_comesOut_4 (by decide) ⟨by omega, by omega⟩ (fun u6 => ?_) (fun u6 => ?_)
      · skip
        refine hret _ _ _ _ _ _ _ _ _ _ _ none dX12_comesOut_92 ⟨rfl, rfl⟩ (by decide) (by decide) (fun hmok => ?_)
        have s9 := mp_stop (tm := tm) (z := Mx 53 32) (w := w2) (c := Mx 73) (ci := Mx 74) (Or.inl (List.eq_nil_of_length_eq_zero (by omega)))
        exact ⟨rfl, rfl, rfl, rfl, rfl, rfl, by rw [← hW, s9.1]; exact h2, by rw [← hZ, s9.2.1], by rw [← hC, s9.2.2.1], by rw [← hI, s9.2.2.2], hf.1, hf.2⟩
      · skip
        obtain ⟨y, w3, hw3, hw4⟩ := li_cons (w := w2) (by omega)
        have hr3 : rep (Mx 75) w3 := by have q := hr; rw [hw3] at q; exact q.2
        have g3 : Mx 75 (Mx 53 36 - 1) = y := by have q := hr; rw [hw3] at q; rw [h2, hw4, show (w3.length : Int) + 1 - 1 = (w3.length : Int) by omega]; exact q.1
        refine v_aload_n X 0 dX12_comesOut_7 rfl rfl ?_
        refine gt_X12_waits X iwX12 (Std.lt hS rfl) (Std.k hS rfl rfl) (List.mem_cons_of_mem _ bw_8_13) dX12_comesOut_8 75 (Std.r hS 35 rfl) ?_
        refine v_aload_n X 0 dX12_comesOut_11 rfl rfl ?_
        refine gt_X12_waiting X iwX12 (Std.lt hS rfl) (Std.k hS rfl rfl) (List.mem_cons_of_mem _ bw_21_14) dX12_comesOut_12 (Mx 53 36) rfl (fun hr7 => ?_)
        refine v_iconst X dX12_comesOut_15 ?_
        refine v_isub X dX12_comesOut_16 ?_
        refine v_iald X (Mx 75 ((Mx 53 36) - 1)) (Std.lt hS rfl) (Std.at hS rfl rfl) (by omega) (by omega) dX12_comesOut_17 rfl (fun hr8 => ?_)
        refine v_bipush X dX12_comesOut_18 (by decide) ?_
        refine v_icmp_eq X 92 dX12_comesOut_20 (by decide) ⟨by omega, by omega⟩ ⟨by decide, by decide⟩ (fun u9 => ?_) (fun u9 => ?_)
        · skip
          refine hret _ _ _ _ _ _ _ _ _ _ _ none dX12_comesOut_92 ⟨rfl, rfl⟩ (by decide) (by decide) (fun hmok => ?_)
          have s9 := mp_stop (tm := tm) (z := Mx 53 32) (w := w2) (c := Mx 73) (ci := Mx 74) (Or.inr ⟨y, w3, hw3, fun z => by omega⟩)
          exact ⟨rfl, rfl, rfl, rfl, rfl, rfl, by rw [← hW, s9.1]; exact h2, by rw [← hZ, s9.2.1], by rw [← hC, s9.2.2.1], by rw [← hI, s9.2.2.2], hf.1, hf.2⟩
        · skip
          refine v_iload_n X 1 dX12_comesOut_23 rfl rfl ?_
          refine v_if_eq X 43 dX12_comesOut_24 (by decide) ⟨by omega, by omega⟩ (fun u10 => ?_) (fun u10 => ?_)
          · skip
            have hq6 : y ≠ 6 ∧ (tm = 0 ∨ y = 10) := by omega
            have hgo := mp_go (tm := tm) (x := y) (z := Mx 53 32) (t := w3) (c := Mx 73) (ci := Mx 74) hq6
            refine v_aload_n X 0 dX12_comesOut_43 rfl rfl ?_
            refine v_dup X dX12_comesOut_44 rfl ?_
            refine gt_X12_waiting X iwX12 (Std.lt hS rfl) (Std.k hS rfl rfl) (List.mem_cons_of_mem _ bw_21_14) dX12_comesOut_45 (Mx 53 36) rfl (fun hr11 => ?_)
            refine v_iconst X dX12_comesOut_48 ?_
            refine v_isub X dX12_comesOut_49 ?_
            refine pt_X12_waiting X iwX12 (Std.lt hS rfl) (Std.k hS rfl rfl) (List.mem_cons_of_mem _ bw_21_14) ⟨by omega, by omega⟩ dX12_comesOut_50 ?_
            refine v_aload_n X 0 dX12_comesOut_53 rfl rfl ?_
            refine gt_X12_waits X iwX12 (Std.lt hS rfl) (Std.k hS rfl rfl) (List.mem_cons_of_mem _ bw_8_13) dX12_comesOut_54 75 (Std.r hS 35 rfl) ?_
            refine v_aload_n X 0 dX12_comesOut_57 rfl rfl ?_
            refine gt_X12_waiting X iwX12 (Std.lt hS rfl) (Std.k hS rfl rfl) (List.mem_cons_of_mem _ bw_21_14) dX12_comesOut_58 ((Mx 53 36) - 1) rfl (fun hr12 => ?_)
            refine v_iald X (Mx 75 ((Mx 53 36) - 1)) (Std.lt hS rfl) (Std.at hS rfl rfl) (by omega) (by omega) dX12_comesOut_61 rfl (fun hr13 => ?_)
            refine v_istore_n X [(2, .int (iz (Mx 75 ((Mx 53 36) - 1)))), (0, .ref (ad 53)), (1, .int (iz tm))] dX12_comesOut_62 rfl (by decide) rfl ?_
            refine v_aload_n X 1 dX12_comesOut_63 rfl rfl ?_
            refine v_iload_n X 0 dX12_comesOut_64 rfl rfl ?_
            refine v_bipush X dX12_comesOut_65 (by decide) ?_
            refine v_icmp_ne X 74 dX12_comesOut_67 (by decide) ⟨by omega, by omega⟩ ⟨by decide, by decide⟩ (fun u14 => ?_) (fun u14 => ?_)
            · skip
              refine v_iload_n X 0 dX12_comesOut_74 rfl rfl ?_
              refine v_bipush X dX12_comesOut_75 (by decide) ?_
              refine v_icmp_ne X 84 dX12_comesOut_77 (by decide) ⟨by omega, by omega⟩ ⟨by decide, by decide⟩ (fun u15 => ?_) (fun u15 => ?_)
              · skip
                have hop : opm y = 4 := by unfold opm; rw [if_neg (by omega), if_neg (by omega)]
                refine v_iconst X dX12_comesOut_84 ?_
                refine v_iconst X dX12_comesOut_85 ?_
                refine v_callV X [.int (iz 4), .int (iz 0)] hRm (c_X12_emit _ _ _ hS 4 0 ⟨by decide, by decide⟩ ⟨by decide, by decide⟩ (show 0 ≤ (Mx 53 32) ∧ (Mx 53 32) < 1000 by omega)) (gV bw_21_15 bw_21_16 bw_21_17 bw_1_5 bw_21_18) rfl ddX12_emit (by decide) (Std.lt hS rfl) (Std.k hS rfl rfl) ⟨rfl, by decide⟩ (Nat.le_of_ble_eq_true rfl) dX12_comesOut_86 (k_eV (fun M17 e16 => ?_))
                replace e16 : M17 = (mu (mu (mu (mu Mx 53 36 ((Mx 53 36) - 1)) 73 (Mx 53 32) 4) 74 (Mx 53 32) 0) 53 32 ((Mx 53 32) + 1)) := e16
                subst e16
                refine v_goto X 0 dX12_comesOut_89 (by decide) ?_
                refine v_lv [1, 2] rfl ?_
                exact ih2 (mu (mu (mu (mu Mx 53 36 ((Mx 53 36) - 1)) 73 (Mx 53 32) 4) 74 (Mx 53 32) 0) 53 32 ((Mx 53 32) + 1)) w3 (hr3) (show Mx 53 36 - 1 = (w3.length : Int) by omega) (show 0 ≤ Mx 53 32 + 1 ∧ Mx 53 32 + 1 + (w3.length : Int) ≤ 1000 ∧ (w3.length : Int) ≤ 48 by omega) (by rw [← hW, hw3]; exact hgo.1.symm) (by rw [← hZ, hw3]; exact hgo.2.1.symm) (by rw [← hC, hw3, hgo.2.2.1, hop]; rfl) (by rw [← hI, hw3, hgo.2.2.2]; rfl) (⟨fun i i1 i2 i3 => by rw [mu_i _ _ _ i1, mu_i _ _ _ i3, mu_i _ _ _ i2, mu_i _ _ _ i1]; exact hf.1 i i1 i2 i3, fun z z1 z2 => by rw [mu_z _ _ _ z1, mu_i _ _ _ (by decide), mu_i _ _ _ (by decide), mu_z _ _ _ z2]; exact hf.2 z z1 z2⟩) (by have h9 := hn4; rw [hw3, List.length_cons] at h9; omega)
              · skip
                have hop : opm y = 3 := by unfold opm; rw [if_neg (by omega), if_pos (by omega)]
                refine v_iconst X dX12_comesOut_80 ?_
                refine v_goto X 85 dX12_comesOut_81 (by decide) ?_
                refine v_iconst X dX12_comesOut_85 ?_
                refine v_callV X [.int (iz 3), .int (iz 0)] hRm (c_X12_emit _ _ _ hS 3 0 ⟨by decide, by decide⟩ ⟨by decide, by decide⟩ (show 0 ≤ (Mx 53 32) ∧ (Mx 53 32) < 1000 by omega)) (gV bw_21_15 bw_21_16 bw_21_17 bw_1_5 bw_21_18) rfl ddX12_emit (by decide) (Std.lt hS rfl) (Std.k hS rfl rfl) ⟨rfl, by decide⟩ (Nat.le_of_ble_eq_true rfl) dX12_comesOut_86 (k_eV (fun M19 e18 => ?_))
                replace e18 : M19 = (mu (mu (mu (mu Mx 53 36 ((Mx 53 36) - 1)) 73 (Mx 53 32) 3) 74 (Mx 53 32) 0) 53 32 ((Mx 53 32) + 1)) := e18
                subst e18
                refine v_goto X 0 dX12_comesOut_89 (by decide) ?_
                refine v_lv [1, 2] rfl ?_
                exact ih2 (mu (mu (mu (mu Mx 53 36 ((Mx 53 36) - 1)) 73 (Mx 53 32) 3) 74 (Mx 53 32) 0) 53 32 ((Mx 53 32) + 1)) w3 (hr3) (show Mx 53 36 - 1 = (w3.length : Int) by omega) (show 0 ≤ Mx 53 32 + 1 ∧ Mx 53 32 + 1 + (w3.length : Int) ≤ 1000 ∧ (w3.length : Int) ≤ 48 by omega) (by rw [← hW, hw3]; exact hgo.1.symm) (by rw [← hZ, hw3]; exact hgo.2.1.symm) (by rw [← hC, hw3, hgo.2.2.1, hop]; rfl) (by rw [← hI, hw3, hgo.2.2.2]; rfl) (⟨fun i i1 i2 i3 => by rw [mu_i _ _ _ i1, mu_i _ _ _ i3, mu_i _ _ _ i2, mu_i _ _ _ i1]; exact hf.1 i i1 i2 i3, fun z z1 z2 => by rw [mu_z _ _ _ z1, mu_i _ _ _ (by decide), mu_i _ _ _ (by decide), mu_z _ _ _ z2]; exact hf.2 z z1 z2⟩) (by have h9 := hn4; rw [hw3, List.length_cons] at h9; omega)
            · skip
              have hop : opm y = 2 := by unfold opm; rw [if_pos (by omega)]
              refine v_iconst X dX12_comesOut_70 ?_
              refine v_goto X 85 dX12_comesOut_71 (by decide) ?_
              refine v_iconst X dX12_comesOut_85 ?_
              refine v_callV X [.int (iz 2), .int (iz 0)] hRm (c_X12_emit _ _ _ hS 2 0 ⟨by decide, by decide⟩ ⟨by decide, by decide⟩ (show 0 ≤ (Mx 53 32) ∧ (Mx 53 32) < 1000 by omega)) (gV bw_21_15 bw_21_16 bw_21_17 bw_1_5 bw_21_18) rfl ddX12_emit (by decide) (Std.lt hS rfl) (Std.k hS rfl rfl) ⟨rfl, by decide⟩ (Nat.le_of_ble_eq_true rfl) dX12_comesOut_86 (k_eV (fun M21 e20 => ?_))
              replace e20 : M21 = (mu (mu (mu (mu Mx 53 36 ((Mx 53 36) - 1)) 73 (Mx 53 32) 2) 74 (Mx 53 32) 0) 53 32 ((Mx 53 32) + 1)) := e20
              subst e20
              refine v_goto X 0 dX12_comesOut_89 (by decide) ?_
              refine v_lv [1, 2] rfl ?_
              exact ih2 (mu (mu (mu (mu Mx 53 36 ((Mx 53 36) - 1)) 73 (Mx 53 32) 2) 74 (Mx 53 32) 0) 53 32 ((Mx 53 32) + 1)) w3 (hr3) (show Mx 53 36 - 1 = (w3.length : Int) by omega) (show 0 ≤ Mx 53 32 + 1 ∧ Mx 53 32 + 1 + (w3.length : Int) ≤ 1000 ∧ (w3.length : Int) ≤ 48 by omega) (by rw [← hW, hw3]; exact hgo.1.symm) (by rw [← hZ, hw3]; exact hgo.2.1.symm) (by rw [← hC, hw3, hgo.2.2.1, hop]; rfl) (by rw [← hI, hw3, hgo.2.2.2]; rfl) (⟨fun i i1 i2 i3 => by rw [mu_i _ _ _ i1, mu_i _ _ _ i3, mu_i _ _ _ i2, mu_i _ _ _ i1]; exact hf.1 i i1 i2 i3, fun z z1 z2 => by rw [mu_z _ _ _ z1, mu_i _ _ _ (by decide), mu_i _ _ _ (by decide), mu_z _ _ _ z2]; exact hf.2 z z1 z2⟩) (by have h9 := hn4; rw [hw3, List.length_cons] at h9; omega)
          · skip
            refine v_aload_n X 0 dX12_comesOut_27 rfl rfl ?_
            refine gt_X12_waits X iwX12 (Std.lt hS rfl) (Std.k hS rfl rfl) (List.mem_cons_of_mem _ bw_8_13) dX12_comesOut_28 75 (Std.r hS 35 rfl) ?_
            refine v_aload_n X 0 dX12_comesOut_31 rfl rfl ?_
            refine gt_X12_waiting X iwX12 (Std.lt hS rfl) (Std.k hS rfl rfl) (List.mem_cons_of_mem _ bw_21_14) dX12_comesOut_32 (Mx 53 36) rfl (fun hr22 => ?_)
            refine v_iconst X dX12_comesOut_35 ?_
            refine v_isub X dX12_comesOut_36 ?_
            refine v_iald X (Mx 75 ((Mx 53 36) - 1)) (Std.lt hS rfl) (Std.at hS rfl rfl) (by omega) (by omega) dX12_comesOut_37 rfl (fun hr23 => ?_)
            refine v_bipush X dX12_comesOut_38 (by decide) ?_
            refine v_icmp_ne X 92 dX12_comesOut_40 (by decide) ⟨by omega, by omega⟩ ⟨by decide, by decide⟩ (fun u24 => ?_) (fun u24 => ?_)
            · skip
              refine hret _ _ _ _ _ _ _ _ _ _ _ none dX12_comesOut_92 ⟨rfl, rfl⟩ (by decide) (by decide) (fun hmok => ?_)
              have s9 := mp_stop (tm := tm) (z := Mx 53 32) (w := w2) (c := Mx 73) (ci := Mx 74) (Or.inr ⟨y, w3, hw3, fun z => by omega⟩)
              exact ⟨rfl, rfl, rfl, rfl, rfl, rfl, by rw [← hW, s9.1]; exact h2, by rw [← hZ, s9.2.1], by rw [← hC, s9.2.2.1], by rw [← hI, s9.2.2.2], hf.1, hf.2⟩
            · skip
              have hq6 : y ≠ 6 ∧ (tm = 0 ∨ y = 10) := by omega
              have hgo := mp_go (tm := tm) (x := y) (z := Mx 53 32) (t := w3) (c := Mx 73) (ci := Mx 74) hq6
              refine v_aload_n X 0 dX12_comesOut_43 rfl rfl ?_
              refine v_dup X dX12_comesOut_44 rfl ?_
              refine gt_X12_waiting X iwX12 (Std.lt hS rfl) (Std.k hS rfl rfl) (List.mem_cons_of_mem _ bw_21_14) dX12_comesOut_45 (Mx 53 36) rfl (fun hr25 => ?_)
              refine v_iconst X dX12_comesOut_48 ?_
              refine v_isub X dX12_comesOut_49 ?_
              refine pt_X12_waiting X iwX12 (Std.lt hS rfl) (Std.k hS rfl rfl) (List.mem_cons_of_mem _ bw_21_14) ⟨by omega, by omega⟩ dX12_comesOut_50 ?_
              refine v_aload_n X 0 dX12_comesOut_53 rfl rfl ?_
              refine gt_X12_waits X iwX12 (Std.lt hS rfl) (Std.k hS rfl rfl) (List.mem_cons_of_mem _ bw_8_13) dX12_comesOut_54 75 (Std.r hS 35 rfl) ?_
              refine v_aload_n X 0 dX12_comesOut_57 rfl rfl ?_
              refine gt_X12_waiting X iwX12 (Std.lt hS rfl) (Std.k hS rfl rfl) (List.mem_cons_of_mem _ bw_21_14) dX12_comesOut_58 ((Mx 53 36) - 1) rfl (fun hr26 => ?_)
              refine v_iald X (Mx 75 ((Mx 53 36) - 1)) (Std.lt hS rfl) (Std.at hS rfl rfl) (by omega) (by omega) dX12_comesOut_61 rfl (fun hr27 => ?_)
              refine v_istore_n X [(2, .int (iz (Mx 75 ((Mx 53 36) - 1)))), (0, .ref (ad 53)), (1, .int (iz tm))] dX12_comesOut_62 rfl (by decide) rfl ?_
              refine v_aload_n X 1 dX12_comesOut_63 rfl rfl ?_
              refine v_iload_n X 0 dX12_comesOut_64 rfl rfl ?_
              refine v_bipush X dX12_comesOut_65 (by decide) ?_
              refine v_icmp_ne X 74 dX12_comesOut_67 (by decide) ⟨by omega, by omega⟩ ⟨by decide, by decide⟩ (fun u28 => ?_) (fun u28 => ?_)
              · skip
                refine v_iload_n X 0 dX12_comesOut_74 rfl rfl ?_
                refine v_bipush X dX12_comesOut_75 (by decide) ?_
                refine v_icmp_ne X 84 dX12_comesOut_77 (by decide) ⟨by omega, by omega⟩ ⟨by decide, by decide⟩ (fun u29 => ?_) (fun u29 => ?_)
                · skip
                  have hop : opm y = 4 := by unfold opm; rw [if_neg (by omega), if_neg (by omega)]
                  refine v_iconst X dX12_comesOut_84 ?_
                  refine v_iconst X dX12_comesOut_85 ?_
                  refine v_callV X [.int (iz 4), .int (iz 0)] hRm (c_X12_emit _ _ _ hS 4 0 ⟨by decide, by decide⟩ ⟨by decide, by decide⟩ (show 0 ≤ (Mx 53 32) ∧ (Mx 53 32) < 1000 by omega)) (gV bw_21_15 bw_21_16 bw_21_17 bw_1_5 bw_21_18) rfl ddX12_emit (by decide) (Std.lt hS rfl) (Std.k hS rfl rfl) ⟨rfl, by decide⟩ (Nat.le_of_ble_eq_true rfl) dX12_comesOut_86 (k_eV (fun M31 e30 => ?_))
                  replace e30 : M31 = (mu (mu (mu (mu Mx 53 36 ((Mx 53 36) - 1)) 73 (Mx 53 32) 4) 74 (Mx 53 32) 0) 53 32 ((Mx 53 32) + 1)) := e30
                  subst e30
                  refine v_goto X 0 dX12_comesOut_89 (by decide) ?_
                  refine v_lv [1, 2] rfl ?_
                  exact ih2 (mu (mu (mu (mu Mx 53 36 ((Mx 53 36) - 1)) 73 (Mx 53 32) 4) 74 (Mx 53 32) 0) 53 32 ((Mx 53 32) + 1)) w3 (hr3) (show Mx 53 36 - 1 = (w3.length : Int) by omega) (show 0 ≤ Mx 53 32 + 1 ∧ Mx 53 32 + 1 + (w3.length : Int) ≤ 1000 ∧ (w3.length : Int) ≤ 48 by omega) (by rw [← hW, hw3]; exact hgo.1.symm) (by rw [← hZ, hw3]; exact hgo.2.1.symm) (by rw [← hC, hw3, hgo.2.2.1, hop]; rfl) (by rw [← hI, hw3, hgo.2.2.2]; rfl) (⟨fun i i1 i2 i3 => by rw [mu_i _ _ _ i1, mu_i _ _ _ i3, mu_i _ _ _ i2, mu_i _ _ _ i1]; exact hf.1 i i1 i2 i3, fun z z1 z2 => by rw [mu_z _ _ _ z1, mu_i _ _ _ (by decide), mu_i _ _ _ (by decide), mu_z _ _ _ z2]; exact hf.2 z z1 z2⟩) (by have h9 := hn4; rw [hw3, List.length_cons] at h9; omega)
                · skip
                  have hop : opm y = 3 := by unfold opm; rw [if_neg (by omega), if_pos (by omega)]
                  refine v_iconst X dX12_comesOut_80 ?_
                  refine v_goto X 85 dX12_comesOut_81 (by decide) ?_
                  refine v_iconst X dX12_comesOut_85 ?_
                  refine v_callV X [.int (iz 3), .int (iz 0)] hRm (c_X12_emit _ _ _ hS 3 0 ⟨by decide, by decide⟩ ⟨by decide, by decide⟩ (show 0 ≤ (Mx 53 32) ∧ (Mx 53 32) < 1000 by omega)) (gV bw_21_15 bw_21_16 bw_21_17 bw_1_5 bw_21_18) rfl ddX12_emit (by decide) (Std.lt hS rfl) (Std.k hS rfl rfl) ⟨rfl, by decide⟩ (Nat.le_of_ble_eq_true rfl) dX12_comesOut_86 (k_eV (fun M33 e32 => ?_))
                  replace e32 : M33 = (mu (mu (mu (mu Mx 53 36 ((Mx 53 36) - 1)) 73 (Mx 53 32) 3) 74 (Mx 53 32) 0) 53 32 ((Mx 53 32) + 1)) := e32
                  subst e32
                  refine v_goto X 0 dX12_comesOut_89 (by decide) ?_
                  refine v_lv [1, 2] rfl ?_
                  exact ih2 (mu (mu (mu (mu Mx 53 36 ((Mx 53 36) - 1)) 73 (Mx 53 32) 3) 74 (Mx 53 32) 0) 53 32 ((Mx 53 32) + 1)) w3 (hr3) (show Mx 53 36 - 1 = (w3.length : Int) by omega) (show 0 ≤ Mx 53 32 + 1 ∧ Mx 53 32 + 1 + (w3.length : Int) ≤ 1000 ∧ (w3.length : Int) ≤ 48 by omega) (by rw [← hW, hw3]; exact hgo.1.symm) (by rw [← hZ, hw3]; exact hgo.2.1.symm) (by rw [← hC, hw3, hgo.2.2.1, hop]; rfl) (by rw [← hI, hw3, hgo.2.2.2]; rfl) (⟨fun i i1 i2 i3 => by rw [mu_i _ _ _ i1, mu_i _ _ _ i3, mu_i _ _ _ i2, mu_i _ _ _ i1]; exact hf.1 i i1 i2 i3, fun z z1 z2 => by rw [mu_z _ _ _ z1, mu_i _ _ _ (by decide), mu_i _ _ _ (by decide), mu_z _ _ _ z2]; exact hf.2 z z1 z2⟩) (by have h9 := hn4; rw [hw3, List.length_cons] at h9; omega)
              · skip
                have hop : opm y = 2 := by unfold opm; rw [if_pos (by omega)]
                refine v_iconst X dX12_comesOut_70 ?_
                refine v_goto X 85 dX12_comesOut_71 (by decide) ?_
                refine v_iconst X dX12_comesOut_85 ?_
                refine v_callV X [.int (iz 2), .int (iz 0)] hRm (c_X12_emit _ _ _ hS 2 0 ⟨by decide, by decide⟩ ⟨by decide, by decide⟩ (show 0 ≤ (Mx 53 32) ∧ (Mx 53 32) < 1000 by omega)) (gV bw_21_15 bw_21_16 bw_21_17 bw_1_5 bw_21_18) rfl ddX12_emit (by decide) (Std.lt hS rfl) (Std.k hS rfl rfl) ⟨rfl, by decide⟩ (Nat.le_of_ble_eq_true rfl) dX12_comesOut_86 (k_eV (fun M35 e34 => ?_))
                replace e34 : M35 = (mu (mu (mu (mu Mx 53 36 ((Mx 53 36) - 1)) 73 (Mx 53 32) 2) 74 (Mx 53 32) 0) 53 32 ((Mx 53 32) + 1)) := e34
                subst e34
                refine v_goto X 0 dX12_comesOut_89 (by decide) ?_
                refine v_lv [1, 2] rfl ?_
                exact ih2 (mu (mu (mu (mu Mx 53 36 ((Mx 53 36) - 1)) 73 (Mx 53 32) 2) 74 (Mx 53 32) 0) 53 32 ((Mx 53 32) + 1)) w3 (hr3) (show Mx 53 36 - 1 = (w3.length : Int) by omega) (show 0 ≤ Mx 53 32 + 1 ∧ Mx 53 32 + 1 + (w3.length : Int) ≤ 1000 ∧ (w3.length : Int) ≤ 48 by omega) (by rw [← hW, hw3]; exact hgo.1.symm) (by rw [← hZ, hw3]; exact hgo.2.1.symm) (by rw [← hC, hw3, hgo.2.2.1, hop]; rfl) (by rw [← hI, hw3, hgo.2.2.2]; rfl) (⟨fun i i1 i2 i3 => by rw [mu_i _ _ _ i1, mu_i _ _ _ i3, mu_i _ _ _ i2, mu_i _ _ _ i1]; exact hf.1 i i1 i2 i3, fun z z1 z2 => by rw [mu_z _ _ _ z1, mu_i _ _ _ (by decide), mu_i _ _ _ (by decide), mu_z _ _ _ z2]; exact hf.2 z z1 z2⟩) (by have h9 := hn4; rw [hw3, List.length_cons] at h9; omega)
  exact hl1 _ M w1 (hw) (hl) (by omega) (rfl) (rfl) (rfl) (rfl) (⟨fun _ _ _ _ => rfl, fun _ _ _ => rfl⟩) (Nat.lt_succ_self _)

