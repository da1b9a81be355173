/-! READ, of the class: text A, draft B -/
/-- what a reading does: it ends at token j with F -/
def rdC (M : MI) (R : MR) (A B : Nat) (F : Int) (M' : MI) (R' : MR) : Prop := ∃ j : Nat, (j ≤ 400 ∧ ∀ i : Nat, i < j → gkT (cm (bt (M 2) (M 1 1)) (M 1 1) (c00 (M (B + 5)) (M (B + 1)) (M (B + 2)) (M (B + 3)) (M (B + 4))) i) i (kdT (bt (M 2) (M 1 1)) (M 1 1) i)) ∧ vdT (cm (bt (M 2) (M 1 1)) (M 1 1) (c00 (M (B + 5)) (M (B + 1)) (M (B + 2)) (M (B + 3)) (M (B + 4))) j) j (kdT (bt (M 2) (M 1 1)) (M 1 1) j) F ∧ RC M' B (cm (bt (M 2) (M 1 1)) (M 1 1) (c00 (M (B + 5)) (M (B + 1)) (M (B + 2)) (M (B + 3)) (M (B + 4))) j) ∧ M' 0 10 = (if F = 0 then -1 else plT (bt (M 2) (M 1 1)) (M 1 1) j) ∧ M' 1 1 = 0 ∧ (∀ i : Nat, i ≠ 0 → i ≠ 1 → i ≠ 3 → i ≠ 4 → i ≠ 5 → ¬ (B ≤ i ∧ i ≤ B + 5) → M' i = M i) ∧ (∀ z : Int, z ≠ 10 → M' 0 z = M 0 z) ∧ (∀ z : Int, z ≠ 1 → M' 1 z = M 1 z) ∧ R' = if F = 0 then mu (mu R 0 8 (some B)) 0 9 (some A) else R
theorem RC_fr2 {M M' : MI} {t : Nat} {c : CSt} (ht : isT t) (h : RC M t c) (e : ∀ i : Nat, i ≠ 0 → i ≠ 1 → M' i = M i) : RC M' t c := by
  obtain ⟨st, sd, dp, wt, cz, cd, rz, rk, rs, rc, re⟩ := c
  have e3 := e 3 (by decide) (by decide)
  have e4 := e 4 (by decide) (by decide)
  have a0 := e t (by rcases ht with rfl | rfl <;> decide) (by rcases ht with rfl | rfl <;> decide)
  have a1 := e (t + 1) (by omega) (by rcases ht with rfl | rfl <;> decide)
  have a2 := e (t + 2) (by omega) (by omega)
  have a3 := e (t + 3) (by omega) (by omega)
  have a4 := e (t + 4) (by omega) (by omega)
  have a5 := e (t + 5) (by omega) (by omega)
  unfold RC at h ⊢
  dsimp only at h ⊢
  rw [e3, e4, a0, a1, a2, a3, a4, a5]
  exact h

-- read
set_option maxHeartbeats 4000000 in
set_option maxRecDepth 100000 in
theorem c_X11_read_24 (l : Launch) (D : va_G) (cy : Nat → ClassId) {N : Nat} {sh : MS} {ad : Nat → Nat} {M L : MI} {R : MR} (hS : Std N sh R) (hn : 0 ≤ M 1 1 ∧ M 1 1 ≤ 2000) (h8 : R 0 8 = some 17) (h9 : R 0 9 = some 24) : Ctr l D cy yX11_read wsX11_read ({ frames := 8, cells := 0, slots := 0, locals := 173 } : Room) N sh ad M L R [.ref (ad 0)] (eJ N sh ad L (fun r M' R' => rdC M R 17 24 r M' R')) := by
  refine Ctr.ofI (by decide) rfl (Nat.le_of_ble_eq_true rfl) ?_
  intro K hKl hKd hRm hnm X hret
  have X : VX K cX11_read 3 wsX11_read RX11 := X
  show V K 3 0 0 N sh ad M L R [(0, .ref (ad 0))] [] 0
  refine v_aload_n X 0 dX11_read_0 rfl rfl ?_
  refine gt_X11_reader X iwX11 (Std.lt hS rfl) (Std.k hS rfl rfl) (List.mem_cons_of_mem _ bw_1_19) dX11_read_1 3 (Std.r hS 1 rfl) ?_
  refine v_aload_n X 0 dX11_read_4 rfl rfl ?_
  refine gt_X11_draft X iwX11 (Std.lt hS rfl) (Std.k hS rfl rfl) (List.mem_cons_of_mem _ bw_2_12) dX11_read_5 24 h9 ?_
  refine v_callV X [.ref (ad 24)] hRm (c_X5_compile_24 _ _ _ hS hn) (gV bw_12_0 bw_12_1 bw_12_2 bw_1_18 bw_12_3) rfl ddX5_compile (by decide) (Std.lt hS rfl) (Std.k hS rfl rfl) ⟨rfl, by decide⟩ (Nat.le_of_ble_eq_true rfl) dX11_read_8 (k_eI (fun r M1 hr e1 => ?_))
  obtain ⟨j, hj, hv, h5, hx, hf⟩ := e1
  have hpl : inR (M1 5 4) → inR (M1 5 4) := id
  refine v_istore_n X [(1, .int (iz r)), (0, .ref (ad 0))] dX11_read_11 rfl (by decide) rfl ?_
  refine v_aload_n X 1 dX11_read_12 rfl rfl ?_
  refine v_iload_n X 0 dX11_read_13 rfl rfl ?_
  refine v_if_ne X 21 dX11_read_14 (by decide) ⟨by omega, by omega⟩ (fun u1 => ?_) (fun u1 => ?_)
  · skip
    refine v_aload_n X 1 dX11_read_21 rfl rfl ?_
    refine gt_X11_reader X iwX11 (Std.lt hS rfl) (Std.k hS rfl rfl) (List.mem_cons_of_mem _ bw_1_19) dX11_read_22 3 (Std.r hS 1 rfl) ?_
    refine v_callV X [] hRm (c_X5_placeReached _ _ _ hS) (gV bw_19_1 bw_19_2 bw_19_3 bw_1_18 bw_19_4) rfl ddX5_placeReached (by decide) (Std.lt hS rfl) (Std.k hS rfl rfl) ⟨rfl, by decide⟩ (Nat.le_of_ble_eq_true rfl) dX11_read_25 (k_pI (fun r2 hr3 hpr => ?_))
    refine pt_X11_faultPlace X iwX11 (Std.lt hS rfl) (Std.k hS rfl rfl) (List.mem_cons_of_mem _ bw_2_22) ⟨by omega, by omega⟩ dX11_read_28 ?_
    refine v_aload_n X 1 dX11_read_31 rfl rfl ?_
    refine gt_X11_tape X iwX11 (Std.lt hS rfl) (Std.k hS rfl rfl) (List.mem_cons_of_mem _ bw_1_15) dX11_read_32 1 (Std.r hS 0 rfl) ?_
    refine v_iconst X dX11_read_35 ?_
    refine pt_X9_size X iwX9 (Std.lt hS rfl) (Std.k hS rfl rfl) (List.mem_cons_of_mem _ bw_10_15) ⟨by decide, by decide⟩ dX11_read_36 ?_
    refine v_iload_n X 0 dX11_read_39 rfl rfl ?_
    refine v_if_ne X 61 dX11_read_40 (by decide) ⟨by omega, by omega⟩ (fun u4 => ?_) (fun u4 => ?_)
    · skip
      refine v_iload_n X 0 dX11_read_61 rfl rfl ?_
      refine hret _ _ _ _ _ _ _ _ _ _ _ (some (.int (iz r))) dX11_read_62 ⟨rfl, _, rfl⟩ (by decide) (by decide) (fun hmok => ?_)
      refine ⟨rfl, rfl, rfl, rfl, r, rfl, hr, j, hj, hv, RC_fr2 (Or.inr rfl : isT 24) hx (fun i i0 i1 => by rw [mu_i _ _ _ i1, mu_i _ _ _ i0]), ?_, rfl, fun i i0 i1 i3 i4 i5 i6 => by rw [mu_i _ _ _ i1, mu_i _ _ _ i0]; exact hf i i3 i4 i5 i6, fun z hz => ?_, fun z hz => ?_, ?_⟩
      · rw [if_neg (by omega)]; exact hpr.trans h5
      · rw [mu_i _ _ _ (by decide), mu_z _ _ _ hz, hf 0 (by decide) (by decide) (by decide) (by decide)]
      · rw [mu_z _ _ _ hz, mu_i _ _ _ (by decide), hf 1 (by decide) (by decide) (by decide) (by decide)]
      · rw [if_neg (by omega)]
    · skip
      refine v_aload_n X 1 dX11_read_43 rfl rfl ?_
      refine gt_X11_text X iwX11 (Std.lt hS rfl) (Std.k hS rfl rfl) (List.mem_cons_of_mem _ bw_2_11) dX11_read_44 17 h8 ?_
      refine v_astore_n X [(2, .ref (ad 17)), (1, .int (iz r)), (0, .ref (ad 0))] dX11_read_47 rfl (by decide) rfl ?_
      refine v_aload_n X 2 dX11_read_48 rfl rfl ?_
      refine v_aload_n X 2 dX11_read_49 rfl rfl ?_
      refine gt_X11_draft X iwX11 (Std.lt hS rfl) (Std.k hS rfl rfl) (List.mem_cons_of_mem _ bw_2_12) dX11_read_50 24 h9 ?_
      refine pt_X11_text X iwX11 (Std.lt hS rfl) (Std.k hS rfl rfl) (List.mem_cons_of_mem _ bw_2_11) 24 (Std.lt hS rfl) dX11_read_53 ?_
      refine v_aload_n X 2 dX11_read_56 rfl rfl ?_
      refine v_aload_n X 0 dX11_read_57 rfl rfl ?_
      refine pt_X11_draft X iwX11 (Std.lt hS rfl) (Std.k hS rfl rfl) (List.mem_cons_of_mem _ bw_2_12) 17 (Std.lt hS rfl) dX11_read_58 ?_
      refine v_iload_n X 1 dX11_read_61 rfl rfl ?_
      refine hret _ _ _ _ _ _ _ _ _ _ _ (some (.int (iz r))) dX11_read_62 ⟨rfl, _, rfl⟩ (by decide) (by decide) (fun hmok => ?_)
      exfalso
      omega
  · skip
    refine v_iconst X dX11_read_17 ?_
    refine v_goto X 28 dX11_read_18 (by decide) ?_
    refine pt_X11_faultPlace X iwX11 (Std.lt hS rfl) (Std.k hS rfl rfl) (List.mem_cons_of_mem _ bw_2_22) ⟨by decide, by decide⟩ dX11_read_28 ?_
    refine v_aload_n X 1 dX11_read_31 rfl rfl ?_
    refine gt_X11_tape X iwX11 (Std.lt hS rfl) (Std.k hS rfl rfl) (List.mem_cons_of_mem _ bw_1_15) dX11_read_32 1 (Std.r hS 0 rfl) ?_
    refine v_iconst X dX11_read_35 ?_
    refine pt_X9_size X iwX9 (Std.lt hS rfl) (Std.k hS rfl rfl) (List.mem_cons_of_mem _ bw_10_15) ⟨by decide, by decide⟩ dX11_read_36 ?_
    refine v_iload_n X 0 dX11_read_39 rfl rfl ?_
    refine v_if_ne X 61 dX11_read_40 (by decide) ⟨by omega, by omega⟩ (fun u5 => ?_) (fun u5 => ?_)
    · skip
      refine v_iload_n X 0 dX11_read_61 rfl rfl ?_
      refine hret _ _ _ _ _ _ _ _ _ _ _ (some (.int (iz r))) dX11_read_62 ⟨rfl, _, rfl⟩ (by decide) (by decide) (fun hmok => ?_)
      exfalso
      omega
    · skip
      refine v_aload_n X 1 dX11_read_43 rfl rfl ?_
      refine gt_X11_text X iwX11 (Std.lt hS rfl) (Std.k hS rfl rfl) (List.mem_cons_of_mem _ bw_2_11) dX11_read_44 17 h8 ?_
      refine v_astore_n X [(2, .ref (ad 17)), (1, .int (iz r)), (0, .ref (ad 0))] dX11_read_47 rfl (by decide) rfl ?_
      refine v_aload_n X 2 dX11_read_48 rfl rfl ?_
      refine v_aload_n X 2 dX11_read_49 rfl rfl ?_
      refine gt_X11_draft X iwX11 (Std.lt hS rfl) (Std.k hS rfl rfl) (List.mem_cons_of_mem _ bw_2_12) dX11_read_50 24 h9 ?_
      refine pt_X11_text X iwX11 (Std.lt hS rfl) (Std.k hS rfl rfl) (List.mem_cons_of_mem _ bw_2_11) 24 (Std.lt hS rfl) dX11_read_53 ?_
      refine v_aload_n X 2 dX11_read_56 rfl rfl ?_
      refine v_aload_n X 0 dX11_read_57 rfl rfl ?_
      refine pt_X11_draft X iwX11 (Std.lt hS rfl) (Std.k hS rfl rfl) (List.mem_cons_of_mem _ bw_2_12) 17 (Std.lt hS rfl) dX11_read_58 ?_
      refine v_iload_n X 1 dX11_read_61 rfl rfl ?_
      refine hret _ _ _ _ _ _ _ _ _ _ _ (some (.int (iz r))) dX11_read_62 ⟨rfl, _, rfl⟩ (by decide) (by decide) (fun hmok => ?_)
      refine ⟨rfl, rfl, rfl, rfl, r, rfl, hr, j, hj, hv, RC_fr2 (Or.inr rfl : isT 24) hx (fun i i0 i1 => by rw [mu_i _ _ _ i1, mu_i _ _ _ i0]), ?_, rfl, fun i i0 i1 i3 i4 i5 i6 => by rw [mu_i _ _ _ i1, mu_i _ _ _ i0]; exact hf i i3 i4 i5 i6, fun z hz => ?_, fun z hz => ?_, ?_⟩
      · rw [if_pos (by omega)]; rfl
      · rw [mu_i _ _ _ (by decide), mu_z _ _ _ hz, hf 0 (by decide) (by decide) (by decide) (by decide)]
      · rw [mu_z _ _ _ hz, mu_i _ _ _ (by decide), hf 1 (by decide) (by decide) (by decide) (by decide)]
      · rw [if_pos (by omega)]

-- read
set_option maxHeartbeats 4000000 in
set_option maxRecDepth 100000 in
theorem c_X11_read_17 (l : Launch) (D : va_G) (cy : Nat → ClassId) {N : Nat} {sh : MS} {ad : Nat → Nat} {M L : MI} {R : MR} (hS : Std N sh R) (hn : 0 ≤ M 1 1 ∧ M 1 1 ≤ 2000) (h8 : R 0 8 = some 24) (h9 : R 0 9 = some 17) : Ctr l D cy yX11_read wsX11_read ({ frames := 8, cells := 0, slots := 0, locals := 173 } : Room) N sh ad M L R [.ref (ad 0)] (eJ N sh ad L (fun r M' R' => rdC M R 24 17 r M' R')) := by
  refine Ctr.ofI (by decide) rfl (Nat.le_of_ble_eq_true rfl) ?_
  intro K hKl hKd hRm hnm X hret
  have X : VX K cX11_read 3 wsX11_read RX11 := X
  show V K 3 0 0 N sh ad M L R [(0, .ref (ad 0))] [] 0
  refine v_aload_n X 0 dX11_read_0 rfl rfl ?_
  refine gt_X11_reader X iwX11 (Std.lt hS rfl) (Std.k hS rfl rfl) (List.mem_cons_of_mem _ bw_1_19) dX11_read_1 3 (Std.r hS 1 rfl) ?_
  refine v_aload_n X 0 dX11_read_4 rfl rfl ?_
  refine gt_X11_draft X iwX11 (Std.lt hS rfl) (Std.k hS rfl rfl) (List.mem_cons_of_mem _ bw_2_12) dX11_read_5 17 h9 ?_
  refine v_callV X [.ref (ad 17)] hRm (c_X5_compile_17 _ _ _ hS hn) (gV bw_12_0 bw_12_1 bw_12_2 bw_1_18 bw_12_3) rfl ddX5_compile (by decide) (Std.lt hS rfl) (Std.k hS rfl rfl) ⟨rfl, by decide⟩ (Nat.le_of_ble_eq_true rfl) dX11_read_8 (k_eI (fun r M1 hr e1 => ?_))
  obtain ⟨j, hj, hv, h5, hx, hf⟩ := e1
  have hpl : inR (M1 5 4) → inR (M1 5 4) := id
  refine v_istore_n X [(1, .int (iz r)), (0, .ref (ad 0))] dX11_read_11 rfl (by decide) rfl ?_
  refine v_aload_n X 1 dX11_read_12 rfl rfl ?_
  refine v_iload_n X 0 dX11_read_13 rfl rfl ?_
  refine v_if_ne X 21 dX11_read_14 (by decide) ⟨by omega, by omega⟩ (fun u1 => ?_) (fun u1 => ?_)
  · skip
    refine v_aload_n X 1 dX11_read_21 rfl rfl ?_
    refine gt_X11_reader X iwX11 (Std.lt hS rfl) (Std.k hS rfl rfl) (List.mem_cons_of_mem _ bw_1_19) dX11_read_22 3 (Std.r hS 1 rfl) ?_
    refine v_callV X [] hRm (c_X5_placeReached _ _ _ hS) (gV bw_19_1 bw_19_2 bw_19_3 bw_1_18 bw_19_4) rfl ddX5_placeReached (by decide) (Std.lt hS rfl) (Std.k hS rfl rfl) ⟨rfl, by decide⟩ (Nat.le_of_ble_eq_true rfl) dX11_read_25 (k_pI (fun r2 hr3 hpr => ?_))
    refine pt_X11_faultPlace X iwX11 (Std.lt hS rfl) (Std.k hS rfl rfl) (List.mem_cons_of_mem _ bw_2_22) ⟨by omega, by omega⟩ dX11_read_28 ?_
    refine v_aload_n X 1 dX11_read_31 rfl rfl ?_
    refine gt_X11_tape X iwX11 (Std.lt hS rfl) (Std.k hS rfl rfl) (List.mem_cons_of_mem _ bw_1_15) dX11_read_32 1 (Std.r hS 0 rfl) ?_
    refine v_iconst X dX11_read_35 ?_
    refine pt_X9_size X iwX9 (Std.lt hS rfl) (Std.k hS rfl rfl) (List.mem_cons_of_mem _ bw_10_15) ⟨by decide, by decide⟩ dX11_read_36 ?_
    refine v_iload_n X 0 dX11_read_39 rfl rfl ?_
    refine v_if_ne X 61 dX11_read_40 (by decide) ⟨by omega, by omega⟩ (fun u4 => ?_) (fun u4 => ?_)
    · skip
      refine v_iload_n X 0 dX11_read_61 rfl rfl ?_
      refine hret _ _ _ _ _ _ _ _ _ _ _ (some (.int (iz r))) dX11_read_62 ⟨rfl, _, rfl⟩ (by decide) (by decide) (fun hmok => ?_)
      refine ⟨rfl, rfl, rfl, rfl, r, rfl, hr, j, hj, hv, RC_fr2 (Or.inl rfl : isT 17) hx (fun i i0 i1 => by rw [mu_i _ _ _ i1, mu_i _ _ _ i0]), ?_, rfl, fun i i0 i1 i3 i4 i5 i6 => by rw [mu_i _ _ _ i1, mu_i _ _ _ i0]; exact hf i i3 i4 i5 i6, fun z hz => ?_, fun z hz => ?_, ?_⟩
      · rw [if_neg (by omega)]; exact hpr.trans h5
      · rw [mu_i _ _ _ (by decide), mu_z _ _ _ hz, hf 0 (by decide) (by decide) (by decide) (by decide)]
      · rw [mu_z _ _ _ hz, mu_i _ _ _ (by decide), hf 1 (by decide) (by decide) (by decide) (by decide)]
      · rw [if_neg (by omega)]
    · skip
      refine v_aload_n X 1 dX11_read_43 rfl rfl ?_
      refine gt_X11_text X iwX11 (Std.lt hS rfl) (Std.k hS rfl rfl) (List.mem_cons_of_mem _ bw_2_11) dX11_read_44 24 h8 ?_
      refine v_astore_n X [(2, .ref (ad 24)), (1, .int (iz r)), (0, .ref (ad 0))] dX11_read_47 rfl (by decide) rfl ?_
      refine v_aload_n X 2 dX11_read_48 rfl rfl ?_
      refine v_aload_n X 2 dX11_read_49 rfl rfl ?_
      refine gt_X11_draft X iwX11 (Std.lt hS rfl) (Std.k hS rfl rfl) (List.mem_cons_of_mem _ bw_2_12) dX11_read_50 17 h9 ?_
      refine pt_X11_text X iwX11 (Std.lt hS rfl) (Std.k hS rfl rfl) (List.mem_cons_of_mem _ bw_2_11) 17 (Std.lt hS rfl) dX11_read_53 ?_
      refine v_aload_n X 2 dX11_read_56 rfl rfl ?_
      refine v_aload_n X 0 dX11_read_57 rfl rfl ?_
      refine pt_X11_draft X iwX11 (Std.lt hS rfl) (Std.k hS rfl rfl) (List.mem_cons_of_mem _ bw_2_12) 24 (Std.lt hS rfl) dX11_read_58 ?_
      refine v_iload_n X 1 dX11_read_61 rfl rfl ?_
      refine hret _ _ _ _ _ _ _ _ _ _ _ (some (.int (iz r))) dX11_read_62 ⟨rfl, _, rfl⟩ (by decide) (by decide) (fun hmok => ?_)
      exfalso
      omega
  · skip
    refine v_iconst X dX11_read_17 ?_
    refine v_goto X 28 dX11_read_18 (by decide) ?_
    refine pt_X11_faultPlace X iwX11 (Std.lt hS rfl) (Std.k hS rfl rfl) (List.mem_cons_of_mem _ bw_2_22) ⟨by decide, by decide⟩ dX11_read_28 ?_
    refine v_aload_n X 1 dX11_read_31 rfl rfl ?_
    refine gt_X11_tape X iwX11 (Std.lt hS rfl) (Std.k hS rfl rfl) (List.mem_cons_of_mem _ bw_1_15) dX11_read_32 1 (Std.r hS 0 rfl) ?_
    refine v_iconst X dX11_read_35 ?_
    refine pt_X9_size X iwX9 (Std.lt hS rfl) (Std.k hS rfl rfl) (List.mem_cons_of_mem _ bw_10_15) ⟨by decide, by decide⟩ dX11_read_36 ?_
    refine v_iload_n X 0 dX11_read_39 rfl rfl ?_
    refine v_if_ne X 61 dX11_read_40 (by decide) ⟨by omega, by omega⟩ (fun u5 => ?_) (fun u5 => ?_)
    · skip
      refine v_iload_n X 0 dX11_read_61 rfl rfl ?_
      refine hret _ _ _ _ _ _ _ _ _ _ _ (some (.int (iz r))) dX11_read_62 ⟨rfl, _, rfl⟩ (by decide) (by decide) (fun hmok => ?_)
      exfalso
      omega
    · skip
      refine v_aload_n X 1 dX11_read_43 rfl rfl ?_
      refine gt_X11_text X iwX11 (Std.lt hS rfl) (Std.k hS rfl rfl) (List.mem_cons_of_mem _ bw_2_11) dX11_read_44 24 h8 ?_
      refine v_astore_n X [(2, .ref (ad 24)), (1, .int (iz r)), (0, .ref (ad 0))] dX11_read_47 rfl (by decide) rfl ?_
      refine v_aload_n X 2 dX11_read_48 rfl rfl ?_
      refine v_aload_n X 2 dX11_read_49 rfl rfl ?_
      refine gt_X11_draft X iwX11 (Std.lt hS rfl) (Std.k hS rfl rfl) (List.mem_cons_of_mem _ bw_2_12) dX11_read_50 17 h9 ?_
      refine pt_X11_text X iwX11 (Std.lt hS rfl) (Std.k hS rfl rfl) (List.mem_cons_of_mem _ bw_2_11) 17 (Std.lt hS rfl) dX11_read_53 ?_
      refine v_aload_n X 2 dX11_read_56 rfl rfl ?_
      refine v_aload_n X 0 dX11_read_57 rfl rfl ?_
      refine pt_X11_draft X iwX11 (Std.lt hS rfl) (Std.k hS rfl rfl) (List.mem_cons_of_mem _ bw_2_12) 24 (Std.lt hS rfl) dX11_read_58 ?_
      refine v_iload_n X 1 dX11_read_61 rfl rfl ?_
      refine hret _ _ _ _ _ _ _ _ _ _ _ (some (.int (iz r))) dX11_read_62 ⟨rfl, _, rfl⟩ (by decide) (by decide) (fun hmok => ?_)
      refine ⟨rfl, rfl, rfl, rfl, r, rfl, hr, j, hj, hv, RC_fr2 (Or.inl rfl : isT 17) hx (fun i i0 i1 => by rw [mu_i _ _ _ i1, mu_i _ _ _ i0]), ?_, rfl, fun i i0 i1 i3 i4 i5 i6 => by rw [mu_i _ _ _ i1, mu_i _ _ _ i0]; exact hf i i3 i4 i5 i6, fun z hz => ?_, fun z hz => ?_, ?_⟩
      · rw [if_pos (by omega)]; rfl
      · rw [mu_i _ _ _ (by decide), mu_z _ _ _ hz, hf 0 (by decide) (by decide) (by decide) (by decide)]
      · rw [mu_z _ _ _ hz, mu_i _ _ _ (by decide), hf 1 (by decide) (by decide) (by decide) (by decide)]
      · rw [if_pos (by omega)]

