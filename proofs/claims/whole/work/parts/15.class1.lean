/-! THE CLASS: acts and figures, its plain methods -/
def FigOk (M : MI) (sh : MS) (N g : Nat) : Prop := 112 ≤ g ∧ g < N ∧ (sh g).1 = 2 ∧ (0 ≤ M g 0 ∧ M g 0 ≤ 9) ∧ (0 ≤ M g 1 ∧ M g 1 ≤ 20) ∧ (0 ≤ M g 2 ∧ M g 2 ≤ 9) ∧ (0 ≤ M g 3 ∧ M g 3 ≤ 1)
def ActOk (M : MI) (R : MR) (sh : MS) (N a : Nat) : Prop := 112 ≤ a ∧ a < N ∧ (sh a).1 = 0 ∧ (0 ≤ M a 7 ∧ M a 7 ≤ 6) ∧ ((0 ≤ M a 0 ∧ M a 0 ≤ 3) ∧ (0 ≤ M a 1 ∧ M a 1 ≤ 7) ∧ (0 ≤ M a 2 ∧ M a 2 ≤ 100) ∧ (1 ≤ M a 3 ∧ M a 3 ≤ 20) ∧ (1 ≤ M a 4 ∧ M a 4 ≤ 20) ∧ (1 ≤ M a 5 ∧ M a 5 ≤ 120)) ∧ ∃ f : Nat, R a 6 = some f ∧ 112 ≤ f ∧ f < N ∧ sh f = (18, 6) ∧ ∀ j : Int, 0 ≤ j → j < M a 7 → ∃ g : Nat, R f j = some g ∧ FigOk M sh N g
def ShowOk (M : MI) (R : MR) (sh : MS) (N : Nat) : Prop := (0 ≤ M 6 1 ∧ M 6 1 ≤ 6) ∧ (M 6 3 = 0 ∨ M 6 3 = 1) ∧ (0 ≤ M 6 4 ∧ M 6 4 ≤ 50) ∧ (0 ≤ M 6 5 ∧ M 6 5 ≤ 300) ∧ (∀ k, 0 ≤ M 8 k ∧ M 8 k ≤ 99) ∧ ∀ k : Int, 0 ≤ k → k < M 6 1 → ∃ a : Nat, R 7 k = some a ∧ ActOk M R sh N a
def cFar (M : MI) (g : Nat) : Int := M g 1 * (if M 6 3 = 0 then M 8 (M g 2) else 20) / 10 + M 6 4

-- resetFalls
set_option maxHeartbeats 4000000 in
set_option maxRecDepth 100000 in
theorem c_X7_resetFalls (l : Launch) (D : va_G) (cy : Nat → ClassId) {N : Nat} {sh : MS} {ad : Nat → Nat} {M L : MI} {R : MR} (hS : Std N sh R) (e : Int) (he : 0 ≤ e ∧ e < 2) : Ctr l D cy yX7_resetFalls wsX7_resetFalls ({ frames := 1, cells := 0, slots := 0, locals := 23 } : Room) N sh ad M L R [.ref (ad 6), .int (iz e)] (eV N sh ad L R (fun M' => M' = (mrow (mu M 6 3 e) 8 (filz (M 8) 10 0)))) := by
  refine Ctr.ofV (by decide) rfl (Nat.le_of_ble_eq_true rfl) ?_
  intro K hKl hKd hRm hnm X hret
  have X : VX K cX7_resetFalls 2 wsX7_resetFalls RX7 := X
  show V K 2 0 0 N sh ad M L R [(0, .ref (ad 6)), (1, .int (iz e))] [] 0
  refine v_aload_n X 0 dX7_resetFalls_0 rfl rfl ?_
  refine v_iload_n X 1 dX7_resetFalls_1 rfl rfl ?_
  refine pt_X7_fallsMissing X iwX7 (Std.lt hS rfl) (Std.k hS rfl rfl) (List.mem_cons_of_mem _ bw_4_17) ⟨by omega, by omega⟩ dX7_resetFalls_2 ?_
  refine v_aload_n X 0 dX7_resetFalls_5 rfl rfl ?_
  refine gt_X7_falls X iwX7 (Std.lt hS rfl) (Std.k hS rfl rfl) (List.mem_cons_of_mem _ bw_4_15) dX7_resetFalls_6 8 (Std.r hS 2 rfl) ?_
  refine v_iconst X dX7_resetFalls_9 ?_
  refine v_callSO X [.ref (ad 8), .int (iz 0)] hRm (c_J7_fill_53178 _ _ _ 8 10 0 (Std.lt hS rfl) (Std.at hS rfl rfl) ⟨by decide, by decide⟩ (by decide)) (gSO bw_25_13 bw_5_12 bw_5_13 bw_5_14) rfl ddJ7_fill_53178.2 (by decide) (Nat.le_of_ble_eq_true rfl) dX7_resetFalls_10 (k_eV (fun M2 e1 => ?_))
  replace e1 : M2 = (mrow (mu M 6 3 e) 8 (filz (M 8) 10 0)) := e1
  subst e1
  refine hret _ _ _ _ _ _ _ _ _ _ _ none dX7_resetFalls_13 ⟨rfl, rfl⟩ (by decide) (by decide) (fun hmok => ?_)
  refine ⟨rfl, rfl, rfl, rfl, rfl, rfl, ?_⟩
  try dsimp only
  all_goals rfl

-- place
set_option maxHeartbeats 4000000 in
set_option maxRecDepth 100000 in
theorem c_X11_place (l : Launch) (D : va_G) (cy : Nat → ClassId) {N : Nat} {sh : MS} {ad : Nat → Nat} {M L : MI} {R : MR} (hS : Std N sh R) : Ctr l D cy yX11_place wsX11_place ({ frames := 0, cells := 0, slots := 0, locals := 0 } : Room) N sh ad M L R [.ref (ad 0)] (pI N sh ad M L R (fun r => r = M 0 10)) := by
  refine Ctr.ofI (by decide) rfl (Nat.le_of_ble_eq_true rfl) ?_
  intro K hKl hKd hRm hnm X hret
  have X : VX K cX11_place 1 wsX11_place RX11 := X
  show V K 1 0 0 N sh ad M L R [(0, .ref (ad 0))] [] 0
  refine v_aload_n X 0 dX11_place_0 rfl rfl ?_
  refine gt_X11_faultPlace X iwX11 (Std.lt hS rfl) (Std.k hS rfl rfl) (List.mem_cons_of_mem _ bw_2_22) dX11_place_1 (M 0 10) rfl (fun hr1 => ?_)
  refine hret _ _ _ _ _ _ _ _ _ _ _ (some (.int (iz (M 0 10)))) dX11_place_4 ⟨rfl, _, rfl⟩ (by decide) (by decide) (fun hmok => ?_)
  refine ⟨rfl, rfl, rfl, rfl, rfl, rfl, (M 0 10), rfl, ⟨by omega, by omega⟩, ?_⟩
  try dsimp only
  all_goals rfl

-- falls
set_option maxHeartbeats 4000000 in
set_option maxRecDepth 100000 in
theorem c_X11_falls (l : Launch) (D : va_G) (cy : Nat → ClassId) {N : Nat} {sh : MS} {ad : Nat → Nat} {M L : MI} {R : MR} (hS : Std N sh R) (a : Int) (ha : inR a) : Ctr l D cy yX11_falls wsX11_falls ({ frames := 2, cells := 0, slots := 0, locals := 44 } : Room) N sh ad M L R [.ref (ad 0), .int (iz a)] (eI N sh ad L R (fun r M' => if a = 10 ∨ a = -1 then r = 1 ∧ M' = mrow (mu M 6 3 (if a = -1 then 1 else 0)) 8 (filz (M 8) 10 0) else r = 0 ∧ M' = M)) := by
  refine Ctr.ofZ (by decide) rfl (Nat.le_of_ble_eq_true rfl) ?_
  intro K hKl hKd hRm hnm X hret
  have X : VX K cX11_falls 2 wsX11_falls RX11 := X
  show V K 2 0 0 N sh ad M L R [(0, .ref (ad 0)), (1, .int (iz a))] [] 0
  refine v_iload_n X 1 dX11_falls_0 rfl rfl ?_
  refine v_bipush X dX11_falls_1 (by decide) ?_
  refine v_icmp_eq X 13 dX11_falls_3 (by decide) ⟨by omega, by omega⟩ ⟨by decide, by decide⟩ (fun u1 => ?_) (fun u1 => ?_)
  · skip
    refine v_aload_n X 0 dX11_falls_13 rfl rfl ?_
    refine gt_X11_show X iwX11 (Std.lt hS rfl) (Std.k hS rfl rfl) (List.mem_cons_of_mem _ bw_1_23) dX11_falls_14 6 (Std.r hS 2 rfl) ?_
    refine v_iload_n X 1 dX11_falls_17 rfl rfl ?_
    refine v_iconst X dX11_falls_18 ?_
    refine v_icmp_ne X 26 dX11_falls_19 (by decide) ⟨by omega, by omega⟩ ⟨by decide, by decide⟩ (fun u2 => ?_) (fun u2 => ?_)
    · skip
      refine v_iconst X dX11_falls_26 ?_
      refine v_callV X [.int (iz 0)] hRm (c_X7_resetFalls _ _ _ hS 0 ⟨by omega, by omega⟩) (gV bw_25_9 bw_25_10 bw_25_11 bw_1_22 bw_25_12) rfl ddX7_resetFalls (by decide) (Std.lt hS rfl) (Std.k hS rfl rfl) ⟨rfl, by decide⟩ (Nat.le_of_ble_eq_true rfl) dX11_falls_27 (k_eV (fun M4 e3 => ?_))
      replace e3 : M4 = (mrow (mu M 6 3 0) 8 (filz (M 8) 10 0)) := e3
      subst e3
      refine v_iconst X dX11_falls_30 ?_
      refine hret _ _ _ _ _ _ _ _ _ _ _ (some (.int (iz 1))) dX11_falls_31 ⟨rfl, 1, ⟨by omega, by omega⟩, rfl⟩ (by decide) (by decide) (fun hmok => ?_)
      refine ⟨rfl, rfl, rfl, rfl, rfl, 1, rfl, ⟨by decide, by decide⟩, ?_⟩
      try dsimp only
      rw [if_pos (by omega)]
      refine ⟨rfl, ?_⟩
      (first | (exfalso; omega) | rw [if_pos (by omega)] | rw [if_neg (by omega)])
    · skip
      refine v_iconst X dX11_falls_22 ?_
      refine v_goto X 27 dX11_falls_23 (by decide) ?_
      refine v_callV X [.int (iz 1)] hRm (c_X7_resetFalls _ _ _ hS 1 ⟨by omega, by omega⟩) (gV bw_25_9 bw_25_10 bw_25_11 bw_1_22 bw_25_12) rfl ddX7_resetFalls (by decide) (Std.lt hS rfl) (Std.k hS rfl rfl) ⟨rfl, by decide⟩ (Nat.le_of_ble_eq_true rfl) dX11_falls_27 (k_eV (fun M6 e5 => ?_))
      replace e5 : M6 = (mrow (mu M 6 3 1) 8 (filz (M 8) 10 0)) := e5
      subst e5
      refine v_iconst X dX11_falls_30 ?_
      refine hret _ _ _ _ _ _ _ _ _ _ _ (some (.int (iz 1))) dX11_falls_31 ⟨rfl, 1, ⟨by omega, by omega⟩, rfl⟩ (by decide) (by decide) (fun hmok => ?_)
      refine ⟨rfl, rfl, rfl, rfl, rfl, 1, rfl, ⟨by decide, by decide⟩, ?_⟩
      try dsimp only
      rw [if_pos (by omega)]
      refine ⟨rfl, ?_⟩
      (first | (exfalso; omega) | rw [if_pos (by omega)] | rw [if_neg (by omega)])
  · skip
    refine v_iload_n X 1 dX11_falls_6 rfl rfl ?_
    refine v_iconst X dX11_falls_7 ?_
    refine v_icmp_eq X 13 dX11_falls_8 (by decide) ⟨by omega, by omega⟩ ⟨by decide, by decide⟩ (fun u7 => ?_) (fun u7 => ?_)
    · skip
      refine v_aload_n X 0 dX11_falls_13 rfl rfl ?_
      refine gt_X11_show X iwX11 (Std.lt hS rfl) (Std.k hS rfl rfl) (List.mem_cons_of_mem _ bw_1_23) dX11_falls_14 6 (Std.r hS 2 rfl) ?_
      refine v_iload_n X 1 dX11_falls_17 rfl rfl ?_
      refine v_iconst X dX11_falls_18 ?_
      refine v_icmp_ne X 26 dX11_falls_19 (by decide) ⟨by omega, by omega⟩ ⟨by decide, by decide⟩ (fun u8 => ?_) (fun u8 => ?_)
      · skip
        refine v_iconst X dX11_falls_26 ?_
        refine v_callV X [.int (iz 0)] hRm (c_X7_resetFalls _ _ _ hS 0 ⟨by omega, by omega⟩) (gV bw_25_9 bw_25_10 bw_25_11 bw_1_22 bw_25_12) rfl ddX7_resetFalls (by decide) (Std.lt hS rfl) (Std.k hS rfl rfl) ⟨rfl, by decide⟩ (Nat.le_of_ble_eq_true rfl) dX11_falls_27 (k_eV (fun M10 e9 => ?_))
        replace e9 : M10 = (mrow (mu M 6 3 0) 8 (filz (M 8) 10 0)) := e9
        subst e9
        refine v_iconst X dX11_falls_30 ?_
        refine hret _ _ _ _ _ _ _ _ _ _ _ (some (.int (iz 1))) dX11_falls_31 ⟨rfl, 1, ⟨by omega, by omega⟩, rfl⟩ (by decide) (by decide) (fun hmok => ?_)
        refine ⟨rfl, rfl, rfl, rfl, rfl, 1, rfl, ⟨by decide, by decide⟩, ?_⟩
        try dsimp only
        rw [if_pos (by omega)]
        refine ⟨rfl, ?_⟩
        (first | (exfalso; omega) | rw [if_pos (by omega)] | rw [if_neg (by omega)])
      · skip
        refine v_iconst X dX11_falls_22 ?_
        refine v_goto X 27 dX11_falls_23 (by decide) ?_
        refine v_callV X [.int (iz 1)] hRm (c_X7_resetFalls _ _ _ hS 1 ⟨by omega, by omega⟩) (gV bw_25_9 bw_25_10 bw_25_11 bw_1_22 bw_25_12) rfl ddX7_resetFalls (by decide) (Std.lt hS rfl) (Std.k hS rfl rfl) ⟨rfl, by decide⟩ (Nat.le_of_ble_eq_true rfl) dX11_falls_27 (k_eV (fun M12 e11 => ?_))
        replace e11 : M12 = (mrow (mu M 6 3 1) 8 (filz (M 8) 10 0)) := e11
        subst e11
        refine v_iconst X dX11_falls_30 ?_
        refine hret _ _ _ _ _ _ _ _ _ _ _ (some (.int (iz 1))) dX11_falls_31 ⟨rfl, 1, ⟨by omega, by omega⟩, rfl⟩ (by decide) (by decide) (fun hmok => ?_)
        refine ⟨rfl, rfl, rfl, rfl, rfl, 1, rfl, ⟨by decide, by decide⟩, ?_⟩
        try dsimp only
        rw [if_pos (by omega)]
        refine ⟨rfl, ?_⟩
        (first | (exfalso; omega) | rw [if_pos (by omega)] | rw [if_neg (by omega)])
    · skip
      refine v_iconst X dX11_falls_11 ?_
      refine hret _ _ _ _ _ _ _ _ _ _ _ (some (.int (iz 0))) dX11_falls_12 ⟨rfl, 0, ⟨by omega, by omega⟩, rfl⟩ (by decide) (by decide) (fun hmok => ?_)
      refine ⟨rfl, rfl, rfl, rfl, rfl, 0, rfl, ⟨by decide, by decide⟩, ?_⟩
      try dsimp only
      rw [if_neg (by omega)]
      exact ⟨rfl, rfl⟩

-- cell
set_option maxHeartbeats 4000000 in
set_option maxRecDepth 100000 in
theorem c_X11_cell (l : Launch) (D : va_G) (cy : Nat → ClassId) {N : Nat} {sh : MS} {ad : Nat → Nat} {M L : MI} {R : MR} (hS : Std N sh R) (a : Int) (b : Int) (ha : inR a) (hb : inR b) : Ctr l D cy yX11_cell wsX11_cell ({ frames := 1, cells := 0, slots := 0, locals := 22 } : Room) N sh ad M L R [.ref (ad 0), .int (iz a), .int (iz b)] (eI N sh ad L R (fun r M' => if M 6 3 = 0 ∧ 0 ≤ a ∧ a ≤ 9 ∧ 0 ≤ b ∧ b ≤ 99 then r = 1 ∧ M' = mu M 8 a b else r = 0 ∧ M' = M)) := by
  refine Ctr.ofZ (by decide) rfl (Nat.le_of_ble_eq_true rfl) ?_
  intro K hKl hKd hRm hnm X hret
  have X : VX K cX11_cell 3 wsX11_cell RX11 := X
  show V K 3 0 0 N sh ad M L R [(0, .ref (ad 0)), (1, .int (iz a)), (2, .int (iz b))] [] 0
  refine v_aload_n X 0 dX11_cell_0 rfl rfl ?_
  refine gt_X11_show X iwX11 (Std.lt hS rfl) (Std.k hS rfl rfl) (List.mem_cons_of_mem _ bw_1_23) dX11_cell_1 6 (Std.r hS 2 rfl) ?_
  refine gt_X7_fallsMissing X iwX7 (Std.lt hS rfl) (Std.k hS rfl rfl) (List.mem_cons_of_mem _ bw_25_22) dX11_cell_4 (M 6 3) rfl (fun hr1 => ?_)
  refine v_if_ne X 30 dX11_cell_7 (by decide) ⟨by omega, by omega⟩ (fun u2 => ?_) (fun u2 => ?_)
  · skip
    refine v_iconst X dX11_cell_30 ?_
    refine hret _ _ _ _ _ _ _ _ _ _ _ (some (.int (iz 0))) dX11_cell_31 ⟨rfl, 0, ⟨by omega, by omega⟩, rfl⟩ (by decide) (by decide) (fun hmok => ?_)
    refine ⟨rfl, rfl, rfl, rfl, rfl, 0, rfl, ⟨by decide, by decide⟩, ?_⟩
    try dsimp only
    first | (rw [if_neg (by omega)]; exact ⟨rfl, rfl⟩) | (rw [if_pos (by omega)]; exact ⟨rfl, rfl⟩)
  · skip
    refine v_iload_n X 1 dX11_cell_10 rfl rfl ?_
    refine v_iconst X dX11_cell_11 ?_
    refine v_bipush X dX11_cell_12 (by decide) ?_
    refine v_callS X [.int (iz a), .int (iz 0), .int (iz 9)] hRm (c_X11_isWithin _ _ _ a 0 9 ⟨by omega, by omega⟩ ⟨by omega, by omega⟩ ⟨by omega, by omega⟩) (gS bw_11_13 bw_11_14 bw_1_2 bw_11_15) rfl ddX11_isWithin (by decide) (Nat.le_of_ble_eq_true rfl) dX11_cell_14 (k_pB (fun b3 => ?_) (fun b3 => ?_))
    · skip
      refine v_if_eq X 30 dX11_cell_17 (by decide) ⟨by decide, by decide⟩ (fun q => absurd q (by decide)) (fun _ => ?_)
      refine v_iload_n X 2 dX11_cell_20 rfl rfl ?_
      refine v_iconst X dX11_cell_21 ?_
      refine v_bipush X dX11_cell_22 (by decide) ?_
      refine v_callS X [.int (iz b), .int (iz 0), .int (iz 99)] hRm (c_X11_isWithin _ _ _ b 0 99 ⟨by omega, by omega⟩ ⟨by omega, by omega⟩ ⟨by omega, by omega⟩) (gS bw_11_13 bw_11_14 bw_1_2 bw_11_15) rfl ddX11_isWithin (by decide) (Nat.le_of_ble_eq_true rfl) dX11_cell_24 (k_pB (fun b4 => ?_) (fun b4 => ?_))
      · skip
        refine v_if_ne X 32 dX11_cell_27 (by decide) ⟨by decide, by decide⟩ (fun _ => ?_) (fun q => absurd (by decide) q)
        refine v_aload_n X 0 dX11_cell_32 rfl rfl ?_
        refine gt_X11_show X iwX11 (Std.lt hS rfl) (Std.k hS rfl rfl) (List.mem_cons_of_mem _ bw_1_23) dX11_cell_33 6 (Std.r hS 2 rfl) ?_
        refine gt_X7_falls X iwX7 (Std.lt hS rfl) (Std.k hS rfl rfl) (List.mem_cons_of_mem _ bw_25_23) dX11_cell_36 8 (Std.r hS 2 rfl) ?_
        refine v_iload_n X 1 dX11_cell_39 rfl rfl ?_
        refine v_iload_n X 2 dX11_cell_40 rfl rfl ?_
        refine v_iast X (Std.lt hS rfl) (Std.at hS rfl rfl) (by omega) (by omega) ⟨by omega, by omega⟩ dX11_cell_41 ?_
        refine v_iconst X dX11_cell_42 ?_
        refine hret _ _ _ _ _ _ _ _ _ _ _ (some (.int (iz 1))) dX11_cell_43 ⟨rfl, 1, ⟨by omega, by omega⟩, rfl⟩ (by decide) (by decide) (fun hmok => ?_)
        refine ⟨rfl, rfl, rfl, rfl, rfl, 1, rfl, ⟨by decide, by decide⟩, ?_⟩
        try dsimp only
        first | (rw [if_neg (by omega)]; exact ⟨rfl, rfl⟩) | (rw [if_pos (by omega)]; exact ⟨rfl, rfl⟩)
      · skip
        refine v_if_ne X 32 dX11_cell_27 (by decide) ⟨by decide, by decide⟩ (fun q => absurd q (by decide)) (fun _ => ?_)
        refine v_iconst X dX11_cell_30 ?_
        refine hret _ _ _ _ _ _ _ _ _ _ _ (some (.int (iz 0))) dX11_cell_31 ⟨rfl, 0, ⟨by omega, by omega⟩, rfl⟩ (by decide) (by decide) (fun hmok => ?_)
        refine ⟨rfl, rfl, rfl, rfl, rfl, 0, rfl, ⟨by decide, by decide⟩, ?_⟩
        try dsimp only
        first | (rw [if_neg (by omega)]; exact ⟨rfl, rfl⟩) | (rw [if_pos (by omega)]; exact ⟨rfl, rfl⟩)
    · skip
      refine v_if_eq X 30 dX11_cell_17 (by decide) ⟨by decide, by decide⟩ (fun _ => ?_) (fun q => absurd (by decide) q)
      refine v_iconst X dX11_cell_30 ?_
      refine hret _ _ _ _ _ _ _ _ _ _ _ (some (.int (iz 0))) dX11_cell_31 ⟨rfl, 0, ⟨by omega, by omega⟩, rfl⟩ (by decide) (by decide) (fun hmok => ?_)
      refine ⟨rfl, rfl, rfl, rfl, rfl, 0, rfl, ⟨by decide, by decide⟩, ?_⟩
      try dsimp only
      first | (rw [if_neg (by omega)]; exact ⟨rfl, rfl⟩) | (rw [if_pos (by omega)]; exact ⟨rfl, rfl⟩)

-- ground
set_option maxHeartbeats 4000000 in
set_option maxRecDepth 100000 in
theorem c_X11_ground (l : Launch) (D : va_G) (cy : Nat → ClassId) {N : Nat} {sh : MS} {ad : Nat → Nat} {M L : MI} {R : MR} (hS : Std N sh R) (a : Int) (b : Int) (ha : inR a) (hb : inR b) : Ctr l D cy yX11_ground wsX11_ground ({ frames := 1, cells := 0, slots := 0, locals := 22 } : Room) N sh ad M L R [.ref (ad 0), .int (iz a), .int (iz b)] (eI N sh ad L R (fun r M' => if 0 ≤ a ∧ a ≤ 50 ∧ 0 ≤ b ∧ b ≤ 300 then r = 1 ∧ M' = mu (mu M 6 4 a) 6 5 b else r = 0 ∧ M' = M)) := by
  refine Ctr.ofZ (by decide) rfl (Nat.le_of_ble_eq_true rfl) ?_
  intro K hKl hKd hRm hnm X hret
  have X : VX K cX11_ground 3 wsX11_ground RX11 := X
  show V K 3 0 0 N sh ad M L R [(0, .ref (ad 0)), (1, .int (iz a)), (2, .int (iz b))] [] 0
  refine v_iload_n X 1 dX11_ground_0 rfl rfl ?_
  refine v_iconst X dX11_ground_1 ?_
  refine v_bipush X dX11_ground_2 (by decide) ?_
  refine v_callS X [.int (iz a), .int (iz 0), .int (iz 50)] hRm (c_X11_isWithin _ _ _ a 0 50 ⟨by omega, by omega⟩ ⟨by omega, by omega⟩ ⟨by omega, by omega⟩) (gS bw_11_13 bw_11_14 bw_1_2 bw_11_15) rfl ddX11_isWithin (by decide) (Nat.le_of_ble_eq_true rfl) dX11_ground_4 (k_pB (fun b1 => ?_) (fun b1 => ?_))
  · skip
    refine v_if_eq X 21 dX11_ground_7 (by decide) ⟨by decide, by decide⟩ (fun q => absurd q (by decide)) (fun _ => ?_)
    refine v_iload_n X 2 dX11_ground_10 rfl rfl ?_
    refine v_iconst X dX11_ground_11 ?_
    refine v_sipush X dX11_ground_12 (by decide) ?_
    refine v_callS X [.int (iz b), .int (iz 0), .int (iz 300)] hRm (c_X11_isWithin _ _ _ b 0 300 ⟨by omega, by omega⟩ ⟨by omega, by omega⟩ ⟨by omega, by omega⟩) (gS bw_11_13 bw_11_14 bw_1_2 bw_11_15) rfl ddX11_isWithin (by decide) (Nat.le_of_ble_eq_true rfl) dX11_ground_15 (k_pB (fun b2 => ?_) (fun b2 => ?_))
    · skip
      refine v_if_ne X 23 dX11_ground_18 (by decide) ⟨by decide, by decide⟩ (fun _ => ?_) (fun q => absurd (by decide) q)
      refine v_aload_n X 0 dX11_ground_23 rfl rfl ?_
      refine gt_X11_show X iwX11 (Std.lt hS rfl) (Std.k hS rfl rfl) (List.mem_cons_of_mem _ bw_1_23) dX11_ground_24 6 (Std.r hS 2 rfl) ?_
      refine v_iload_n X 1 dX11_ground_27 rfl rfl ?_
      refine pt_X7_wind X iwX7 (Std.lt hS rfl) (Std.k hS rfl rfl) (List.mem_cons_of_mem _ bw_26_8) ⟨by omega, by omega⟩ dX11_ground_28 ?_
      refine v_aload_n X 0 dX11_ground_31 rfl rfl ?_
      refine gt_X11_show X iwX11 (Std.lt hS rfl) (Std.k hS rfl rfl) (List.mem_cons_of_mem _ bw_1_23) dX11_ground_32 6 (Std.r hS 2 rfl) ?_
      refine v_iload_n X 2 dX11_ground_35 rfl rfl ?_
      refine pt_X7_line X iwX7 (Std.lt hS rfl) (Std.k hS rfl rfl) (List.mem_cons_of_mem _ bw_26_9) ⟨by omega, by omega⟩ dX11_ground_36 ?_
      refine v_iconst X dX11_ground_39 ?_
      refine hret _ _ _ _ _ _ _ _ _ _ _ (some (.int (iz 1))) dX11_ground_40 ⟨rfl, 1, ⟨by omega, by omega⟩, rfl⟩ (by decide) (by decide) (fun hmok => ?_)
      refine ⟨rfl, rfl, rfl, rfl, rfl, 1, rfl, ⟨by decide, by decide⟩, ?_⟩
      try dsimp only
      first | (rw [if_neg (by omega)]; exact ⟨rfl, rfl⟩) | (rw [if_pos (by omega)]; exact ⟨rfl, rfl⟩)
    · skip
      refine v_if_ne X 23 dX11_ground_18 (by decide) ⟨by decide, by decide⟩ (fun q => absurd q (by decide)) (fun _ => ?_)
      refine v_iconst X dX11_ground_21 ?_
      refine hret _ _ _ _ _ _ _ _ _ _ _ (some (.int (iz 0))) dX11_ground_22 ⟨rfl, 0, ⟨by omega, by omega⟩, rfl⟩ (by decide) (by decide) (fun hmok => ?_)
      refine ⟨rfl, rfl, rfl, rfl, rfl, 0, rfl, ⟨by decide, by decide⟩, ?_⟩
      try dsimp only
      first | (rw [if_neg (by omega)]; exact ⟨rfl, rfl⟩) | (rw [if_pos (by omega)]; exact ⟨rfl, rfl⟩)
  · skip
    refine v_if_eq X 21 dX11_ground_7 (by decide) ⟨by decide, by decide⟩ (fun _ => ?_) (fun q => absurd (by decide) q)
    refine v_iconst X dX11_ground_21 ?_
    refine hret _ _ _ _ _ _ _ _ _ _ _ (some (.int (iz 0))) dX11_ground_22 ⟨rfl, 0, ⟨by omega, by omega⟩, rfl⟩ (by decide) (by decide) (fun hmok => ?_)
    refine ⟨rfl, rfl, rfl, rfl, rfl, 0, rfl, ⟨by decide, by decide⟩, ?_⟩
    try dsimp only
    first | (rw [if_neg (by omega)]; exact ⟨rfl, rfl⟩) | (rw [if_pos (by omega)]; exact ⟨rfl, rfl⟩)

-- base
set_option maxHeartbeats 4000000 in
set_option maxRecDepth 100000 in
theorem c_X11_base (l : Launch) (D : va_G) (cy : Nat → ClassId) {N : Nat} {sh : MS} {ad : Nat → Nat} {M L : MI} {R : MR} (hS : Std N sh R) (a : Int) (b : Int) (ha : inR a) (hb : inR b) (hz : 0 ≤ M 9 3 ∧ M 9 3 ≤ 100) : Ctr l D cy yX11_base wsX11_base ({ frames := 2, cells := 0, slots := 0, locals := 42 } : Room) N sh ad M L R [.ref (ad 0), .int (iz a), .int (iz b)] (eI N sh ad L R (fun r M' => if M 9 3 < 100 ∧ 0 ≤ a ∧ a < 240 ∧ 0 ≤ b ∧ b ≤ 9 then r = M 9 3 ∧ M' = mu (mu (mu (mu M 10 (M 9 3) 0) 11 (M 9 3) a) 12 (M 9 3) b) 9 3 ((M 9 3) + 1) else r = -1 ∧ M' = M)) := by
  refine Ctr.ofI (by decide) rfl (Nat.le_of_ble_eq_true rfl) ?_
  intro K hKl hKd hRm hnm X hret
  have X : VX K cX11_base 3 wsX11_base RX11 := X
  show V K 3 0 0 N sh ad M L R [(0, .ref (ad 0)), (1, .int (iz a)), (2, .int (iz b))] [] 0
  refine v_iload_n X 1 dX11_base_0 rfl rfl ?_
  refine v_callS X [.int (iz a)] hRm (c_X11_isMinute _ _ _ a ⟨by omega, by omega⟩) (gS bw_26_19 bw_26_20 bw_1_2 bw_26_21) rfl ddX11_isMinute (by decide) (Nat.le_of_ble_eq_true rfl) dX11_base_1 (k_pB (fun b1 => ?_) (fun b1 => ?_))
  · skip
    refine v_if_eq X 14 dX11_base_4 (by decide) ⟨by decide, by decide⟩ (fun q => absurd q (by decide)) (fun _ => ?_)
    refine v_iload_n X 2 dX11_base_7 rfl rfl ?_
    refine v_callS X [.int (iz b)] hRm (c_X11_isBase _ _ _ b ⟨by omega, by omega⟩) (gS bw_26_22 bw_26_23 bw_1_2 bw_27_0) rfl ddX11_isBase (by decide) (Nat.le_of_ble_eq_true rfl) dX11_base_8 (k_pB (fun b2 => ?_) (fun b2 => ?_))
    · skip
      refine v_if_ne X 16 dX11_base_11 (by decide) ⟨by decide, by decide⟩ (fun _ => ?_) (fun q => absurd (by decide) q)
      refine v_aload_n X 0 dX11_base_16 rfl rfl ?_
      refine gt_X11_facts X iwX11 (Std.lt hS rfl) (Std.k hS rfl rfl) (List.mem_cons_of_mem _ bw_2_3) dX11_base_17 9 (Std.r hS 3 rfl) ?_
      refine v_iconst X dX11_base_20 ?_
      refine v_iload_n X 1 dX11_base_21 rfl rfl ?_
      refine v_iload_n X 2 dX11_base_22 rfl rfl ?_
      refine v_callV X [.int (iz 0), .int (iz a), .int (iz b)] hRm (c_X1_add _ _ _ hS 0 a b ⟨by omega, by omega⟩ ⟨by omega, by omega⟩ ⟨by omega, by omega⟩ (by omega)) (gV bw_27_1 bw_27_2 bw_27_3 bw_2_2 bw_27_4) rfl ddX1_add (by decide) (Std.lt hS rfl) (Std.k hS rfl rfl) ⟨rfl, by decide⟩ (Nat.le_of_ble_eq_true rfl) dX11_base_23 (k_eI (fun r3 M4 hr5 e6 => ?_))
      refine hret _ _ _ _ _ _ _ _ _ _ _ (some (.int (iz r3))) dX11_base_26 ⟨rfl, _, rfl⟩ (by decide) (by decide) (fun hmok => ?_)
      refine ⟨rfl, rfl, rfl, rfl, rfl, r3, rfl, ⟨by omega, by omega⟩, ?_⟩
      try dsimp only
      by_cases c9 : M 9 3 < 100
      · rw [if_pos c9] at e6
        rw [if_pos (by omega)]
        exact e6
      · rw [if_neg c9] at e6
        rw [if_neg (by omega)]
        exact e6
    · skip
      refine v_if_ne X 16 dX11_base_11 (by decide) ⟨by decide, by decide⟩ (fun q => absurd q (by decide)) (fun _ => ?_)
      refine v_iconst X dX11_base_14 ?_
      refine hret _ _ _ _ _ _ _ _ _ _ _ (some (.int (iz (-1)))) dX11_base_15 ⟨rfl, _, rfl⟩ (by decide) (by decide) (fun hmok => ?_)
      refine ⟨rfl, rfl, rfl, rfl, rfl, (-1), rfl, ⟨by decide, by decide⟩, ?_⟩
      try dsimp only
      rw [if_neg (by omega)]
      exact ⟨rfl, rfl⟩
  · skip
    refine v_if_eq X 14 dX11_base_4 (by decide) ⟨by decide, by decide⟩ (fun _ => ?_) (fun q => absurd (by decide) q)
    refine v_iconst X dX11_base_14 ?_
    refine hret _ _ _ _ _ _ _ _ _ _ _ (some (.int (iz (-1)))) dX11_base_15 ⟨rfl, _, rfl⟩ (by decide) (by decide) (fun hmok => ?_)
    refine ⟨rfl, rfl, rfl, rfl, rfl, (-1), rfl, ⟨by decide, by decide⟩, ?_⟩
    try dsimp only
    rw [if_neg (by omega)]
    exact ⟨rfl, rfl⟩

-- closeBox
set_option maxHeartbeats 4000000 in
set_option maxRecDepth 100000 in
theorem c_X11_closeBox (l : Launch) (D : va_G) (cy : Nat → ClassId) {N : Nat} {sh : MS} {ad : Nat → Nat} {M L : MI} {R : MR} (hS : Std N sh R) (a : Int) (b : Int) (ha : inR a) (hb : inR b) (hz : 0 ≤ M 9 3 ∧ M 9 3 ≤ 100) : Ctr l D cy yX11_closeBox wsX11_closeBox ({ frames := 1, cells := 0, slots := 0, locals := 23 } : Room) N sh ad M L R [.ref (ad 0), .int (iz a), .int (iz b)] (eI N sh ad L R (fun r M' => if M 9 3 < 100 ∧ 0 ≤ a ∧ a < b ∧ b ≤ 240 then r = M 9 3 ∧ M' = mu (mu (mu (mu M 10 (M 9 3) 1) 11 (M 9 3) a) 12 (M 9 3) b) 9 3 ((M 9 3) + 1) else r = -1 ∧ M' = M)) := by
  refine Ctr.ofI (by decide) rfl (Nat.le_of_ble_eq_true rfl) ?_
  intro K hKl hKd hRm hnm X hret
  have X : VX K cX11_closeBox 3 wsX11_closeBox RX11 := X
  show V K 3 0 0 N sh ad M L R [(0, .ref (ad 0)), (1, .int (iz a)), (2, .int (iz b))] [] 0
  refine v_iload_n X 1 dX11_closeBox_0 rfl rfl ?_
  refine v_if_lt X 16 dX11_closeBox_1 (by decide) ⟨by omega, by omega⟩ (fun u1 => ?_) (fun u1 => ?_)
  · skip
    refine v_iconst X dX11_closeBox_16 ?_
    refine hret _ _ _ _ _ _ _ _ _ _ _ (some (.int (iz (-1)))) dX11_closeBox_17 ⟨rfl, _, rfl⟩ (by decide) (by decide) (fun hmok => ?_)
    refine ⟨rfl, rfl, rfl, rfl, rfl, (-1), rfl, ⟨by decide, by decide⟩, ?_⟩
    try dsimp only
    rw [if_neg (by omega)]
    exact ⟨rfl, rfl⟩
  · skip
    refine v_iload_n X 1 dX11_closeBox_4 rfl rfl ?_
    refine v_iload_n X 2 dX11_closeBox_5 rfl rfl ?_
    refine v_icmp_ge X 16 dX11_closeBox_6 (by decide) ⟨by omega, by omega⟩ ⟨by omega, by omega⟩ (fun u2 => ?_) (fun u2 => ?_)
    · skip
      refine v_iconst X dX11_closeBox_16 ?_
      refine hret _ _ _ _ _ _ _ _ _ _ _ (some (.int (iz (-1)))) dX11_closeBox_17 ⟨rfl, _, rfl⟩ (by decide) (by decide) (fun hmok => ?_)
      refine ⟨rfl, rfl, rfl, rfl, rfl, (-1), rfl, ⟨by decide, by decide⟩, ?_⟩
      try dsimp only
      rw [if_neg (by omega)]
      exact ⟨rfl, rfl⟩
    · skip
      refine v_iload_n X 2 dX11_closeBox_9 rfl rfl ?_
      refine v_sipush X dX11_closeBox_10 (by decide) ?_
      refine v_icmp_le X 18 dX11_closeBox_13 (by decide) ⟨by omega, by omega⟩ ⟨by decide, by decide⟩ (fun u3 => ?_) (fun u3 => ?_)
      · skip
        refine v_aload_n X 0 dX11_closeBox_18 rfl rfl ?_
        refine gt_X11_facts X iwX11 (Std.lt hS rfl) (Std.k hS rfl rfl) (List.mem_cons_of_mem _ bw_2_3) dX11_closeBox_19 9 (Std.r hS 3 rfl) ?_
        refine v_iconst X dX11_closeBox_22 ?_
        refine v_iload_n X 1 dX11_closeBox_23 rfl rfl ?_
        refine v_iload_n X 2 dX11_closeBox_24 rfl rfl ?_
        refine v_callV X [.int (iz 1), .int (iz a), .int (iz b)] hRm (c_X1_add _ _ _ hS 1 a b ⟨by omega, by omega⟩ ⟨by omega, by omega⟩ ⟨by omega, by omega⟩ (by omega)) (gV bw_27_1 bw_27_2 bw_27_3 bw_2_2 bw_27_4) rfl ddX1_add (by decide) (Std.lt hS rfl) (Std.k hS rfl rfl) ⟨rfl, by decide⟩ (Nat.le_of_ble_eq_true rfl) dX11_closeBox_25 (k_eI (fun r4 M5 hr6 e7 => ?_))
        refine hret _ _ _ _ _ _ _ _ _ _ _ (some (.int (iz r4))) dX11_closeBox_28 ⟨rfl, _, rfl⟩ (by decide) (by decide) (fun hmok => ?_)
        refine ⟨rfl, rfl, rfl, rfl, rfl, r4, rfl, ⟨by omega, by omega⟩, ?_⟩
        try dsimp only
        by_cases c9 : M 9 3 < 100
        · rw [if_pos c9] at e7
          rw [if_pos (by omega)]
          exact e7
        · rw [if_neg c9] at e7
          rw [if_neg (by omega)]
          exact e7
      · skip
        refine v_iconst X dX11_closeBox_16 ?_
        refine hret _ _ _ _ _ _ _ _ _ _ _ (some (.int (iz (-1)))) dX11_closeBox_17 ⟨rfl, _, rfl⟩ (by decide) (by decide) (fun hmok => ?_)
        refine ⟨rfl, rfl, rfl, rfl, rfl, (-1), rfl, ⟨by decide, by decide⟩, ?_⟩
        try dsimp only
        rw [if_neg (by omega)]
        exact ⟨rfl, rfl⟩

-- birds
set_option maxHeartbeats 4000000 in
set_option maxRecDepth 100000 in
theorem c_X11_birds (l : Launch) (D : va_G) (cy : Nat → ClassId) {N : Nat} {sh : MS} {ad : Nat → Nat} {M L : MI} {R : MR} (hS : Std N sh R) (a : Int) (b : Int) (ha : inR a) (hb : inR b) (hz : 0 ≤ M 9 3 ∧ M 9 3 ≤ 100) : Ctr l D cy yX11_birds wsX11_birds ({ frames := 2, cells := 0, slots := 0, locals := 45 } : Room) N sh ad M L R [.ref (ad 0), .int (iz a), .int (iz b)] (eI N sh ad L R (fun r M' => if M 9 3 < 100 ∧ 0 ≤ a ∧ a < b ∧ b ≤ 240 then r = M 9 3 ∧ M' = mu (mu (mu (mu M 10 (M 9 3) 1) 11 (M 9 3) a) 12 (M 9 3) b) 9 3 ((M 9 3) + 1) else r = -1 ∧ M' = M)) := by
  refine Ctr.ofI (by decide) rfl (Nat.le_of_ble_eq_true rfl) ?_
  intro K hKl hKd hRm hnm X hret
  have X : VX K cX11_birds 3 wsX11_birds RX11 := X
  show V K 3 0 0 N sh ad M L R [(0, .ref (ad 0)), (1, .int (iz a)), (2, .int (iz b))] [] 0
  refine v_aload_n X 0 dX11_birds_0 rfl rfl ?_
  refine v_iload_n X 1 dX11_birds_1 rfl rfl ?_
  refine v_iload_n X 2 dX11_birds_2 rfl rfl ?_
  refine v_callV X [.int (iz a), .int (iz b)] hRm (c_X11_closeBox _ _ _ hS a b ⟨by omega, by omega⟩ ⟨by omega, by omega⟩ hz) (gV bw_27_21 bw_27_22 bw_27_23 bw_1_2 bw_28_0) rfl ddX11_closeBox (by decide) (Std.lt hS rfl) (Std.k hS rfl rfl) ⟨rfl, by decide⟩ (Nat.le_of_ble_eq_true rfl) dX11_birds_3 (k_eI (fun r1 M2 hr3 e4 => ?_))
  refine hret _ _ _ _ _ _ _ _ _ _ _ (some (.int (iz r1))) dX11_birds_6 ⟨rfl, _, rfl⟩ (by decide) (by decide) (fun hmok => ?_)
  refine ⟨rfl, rfl, rfl, rfl, rfl, r1, rfl, ⟨by omega, by omega⟩, ?_⟩
  try dsimp only
  exact e4

-- away
set_option maxHeartbeats 4000000 in
set_option maxRecDepth 100000 in
theorem c_X11_away (l : Launch) (D : va_G) (cy : Nat → ClassId) {N : Nat} {sh : MS} {ad : Nat → Nat} {M L : MI} {R : MR} (hS : Std N sh R) (a : Int) (b : Int) (ha : inR a) (hb : inR b) (hz : 0 ≤ M 9 3 ∧ M 9 3 ≤ 100) : Ctr l D cy yX11_away wsX11_away ({ frames := 2, cells := 0, slots := 0, locals := 45 } : Room) N sh ad M L R [.ref (ad 0), .int (iz a), .int (iz b)] (eI N sh ad L R (fun r M' => if M 9 3 < 100 ∧ 0 ≤ a ∧ a < b ∧ b ≤ 240 then r = M 9 3 ∧ M' = mu (mu (mu (mu M 10 (M 9 3) 1) 11 (M 9 3) a) 12 (M 9 3) b) 9 3 ((M 9 3) + 1) else r = -1 ∧ M' = M)) := by
  refine Ctr.ofI (by decide) rfl (Nat.le_of_ble_eq_true rfl) ?_
  intro K hKl hKd hRm hnm X hret
  have X : VX K cX11_away 3 wsX11_away RX11 := X
  show V K 3 0 0 N sh ad M L R [(0, .ref (ad 0)), (1, .int (iz a)), (2, .int (iz b))] [] 0
  refine v_aload_n X 0 dX11_away_0 rfl rfl ?_
  refine v_iload_n X 1 dX11_away_1 rfl rfl ?_
  refine v_iload_n X 2 dX11_away_2 rfl rfl ?_
  refine v_callV X [.int (iz a), .int (iz b)] hRm (c_X11_closeBox _ _ _ hS a b ⟨by omega, by omega⟩ ⟨by omega, by omega⟩ hz) (gV bw_27_21 bw_27_22 bw_27_23 bw_1_2 bw_28_0) rfl ddX11_closeBox (by decide) (Std.lt hS rfl) (Std.k hS rfl rfl) ⟨rfl, by decide⟩ (Nat.le_of_ble_eq_true rfl) dX11_away_3 (k_eI (fun r1 M2 hr3 e4 => ?_))
  refine hret _ _ _ _ _ _ _ _ _ _ _ (some (.int (iz r1))) dX11_away_6 ⟨rfl, _, rfl⟩ (by decide) (by decide) (fun hmok => ?_)
  refine ⟨rfl, rfl, rfl, rfl, rfl, r1, rfl, ⟨by omega, by omega⟩, ?_⟩
  try dsimp only
  exact e4

-- order
set_option maxHeartbeats 4000000 in
set_option maxRecDepth 100000 in
theorem c_X11_order (l : Launch) (D : va_G) (cy : Nat → ClassId) {N : Nat} {sh : MS} {ad : Nat → Nat} {M L : MI} {R : MR} (hS : Std N sh R) (a : Int) (ha : inR a) (hz : 0 ≤ M 47 5 ∧ M 47 5 ≤ 6) : Ctr l D cy yX11_order wsX11_order ({ frames := 1, cells := 0, slots := 0, locals := 22 } : Room) N sh ad M L R [.ref (ad 0), .int (iz a)] (pI N sh ad M L R (fun r => r = if 0 ≤ a ∧ a < M 47 5 then M 48 a else -1)) := by
  refine Ctr.ofI (by decide) rfl (Nat.le_of_ble_eq_true rfl) ?_
  intro K hKl hKd hRm hnm X hret
  have X : VX K cX11_order 2 wsX11_order RX11 := X
  show V K 2 0 0 N sh ad M L R [(0, .ref (ad 0)), (1, .int (iz a))] [] 0
  refine v_iload_n X 1 dX11_order_0 rfl rfl ?_
  refine v_iconst X dX11_order_1 ?_
  refine v_aload_n X 0 dX11_order_2 rfl rfl ?_
  refine gt_X11_planned X iwX11 (Std.lt hS rfl) (Std.k hS rfl rfl) (List.mem_cons_of_mem _ bw_2_20) dX11_order_3 47 (Std.r hS 6 rfl) ?_
  refine gt_X3_size X iwX3 (Std.lt hS rfl) (Std.k hS rfl rfl) (List.mem_cons_of_mem _ bw_41_6) dX11_order_6 (M 47 5) rfl (fun hr1 => ?_)
  refine v_iconst X dX11_order_9 ?_
  refine v_isub X dX11_order_10 ?_
  refine v_callS X [.int (iz a), .int (iz 0), .int (iz ((M 47 5) - 1))] hRm (c_X11_isWithin _ _ _ a 0 ((M 47 5) - 1) ⟨by omega, by omega⟩ ⟨by omega, by omega⟩ ⟨by omega, by omega⟩) (gS bw_11_13 bw_11_14 bw_1_2 bw_11_15) rfl ddX11_isWithin (by decide) (Nat.le_of_ble_eq_true rfl) dX11_order_11 (k_pB (fun b2 => ?_) (fun b2 => ?_))
  · skip
    refine v_if_eq X 29 dX11_order_14 (by decide) ⟨by decide, by decide⟩ (fun q => absurd q (by decide)) (fun _ => ?_)
    refine v_aload_n X 0 dX11_order_17 rfl rfl ?_
    refine gt_X11_planned X iwX11 (Std.lt hS rfl) (Std.k hS rfl rfl) (List.mem_cons_of_mem _ bw_2_20) dX11_order_18 47 (Std.r hS 6 rfl) ?_
    refine gt_X3_order X iwX3 (Std.lt hS rfl) (Std.k hS rfl rfl) (List.mem_cons_of_mem _ bw_41_7) dX11_order_21 48 (Std.r hS 0 rfl) ?_
    refine v_iload_n X 1 dX11_order_24 rfl rfl ?_
    refine v_iald X (M 48 a) (Std.lt hS rfl) (Std.at hS rfl rfl) (by omega) (by omega) dX11_order_25 rfl (fun hr3 => ?_)
    refine v_goto X 30 dX11_order_26 (by decide) ?_
    refine hret _ _ _ _ _ _ _ _ _ _ _ (some (.int (iz (M 48 a)))) dX11_order_30 ⟨rfl, _, rfl⟩ (by decide) (by decide) (fun hmok => ?_)
    refine ⟨rfl, rfl, rfl, rfl, rfl, rfl, (M 48 a), rfl, ⟨by omega, by omega⟩, ?_⟩
    try dsimp only
    split <;> omega
  · skip
    refine v_if_eq X 29 dX11_order_14 (by decide) ⟨by decide, by decide⟩ (fun _ => ?_) (fun q => absurd (by decide) q)
    refine v_iconst X dX11_order_29 ?_
    refine hret _ _ _ _ _ _ _ _ _ _ _ (some (.int (iz (-1)))) dX11_order_30 ⟨rfl, _, rfl⟩ (by decide) (by decide) (fun hmok => ?_)
    refine ⟨rfl, rfl, rfl, rfl, rfl, rfl, (-1), rfl, ⟨by decide, by decide⟩, ?_⟩
    try dsimp only
    split <;> omega

-- told
set_option maxHeartbeats 4000000 in
set_option maxRecDepth 100000 in
theorem c_X11_told (l : Launch) (D : va_G) (cy : Nat → ClassId) {N : Nat} {sh : MS} {ad : Nat → Nat} {M L : MI} {R : MR} (hS : Std N sh R) (a : Int) (b : Int) (ha : inR a) (hb : inR b) (hd : ∀ k : Int, 0 ≤ k → k < 6 → inR (M 50 k + M 51 k)) : Ctr l D cy yX11_told wsX11_told ({ frames := 1, cells := 0, slots := 0, locals := 21 } : Room) N sh ad M L R [.ref (ad 0), .int (iz a), .int (iz b)] (pI N sh ad M L R (fun r => r = if 0 ≤ a ∧ a < 6 ∧ M 50 a ≠ -1 then (if b = 0 then M 49 a else if b = 1 then M 50 a else if b = 2 then M 50 a + M 51 a else if b = 3 then M 52 a else if b = 4 then M 51 a else -1) else -1)) := by
  refine Ctr.ofI (by decide) rfl (Nat.le_of_ble_eq_true rfl) ?_
  intro K hKl hKd hRm hnm X hret
  have X : VX K cX11_told 3 wsX11_told RX11 := X
  show V K 3 0 0 N sh ad M L R [(0, .ref (ad 0)), (1, .int (iz a)), (2, .int (iz b))] [] 0
  have b2 := hd a
  refine v_aload_n X 0 dX11_told_0 rfl rfl ?_
  refine gt_X11_planned X iwX11 (Std.lt hS rfl) (Std.k hS rfl rfl) (List.mem_cons_of_mem _ bw_2_20) dX11_told_1 47 (Std.r hS 6 rfl) ?_
  refine v_iload_n X 1 dX11_told_4 rfl rfl ?_
  refine v_callV X [.int (iz a)] hRm (c_X3_has_47 _ _ _ hS a ⟨by omega, by omega⟩) (gV bw_41_20 bw_34_23 bw_35_0 bw_2_19 bw_35_1) rfl ddX3_has (by decide) (Std.lt hS rfl) (Std.k hS rfl rfl) ⟨rfl, by decide⟩ (Nat.le_of_ble_eq_true rfl) dX11_told_5 (k_pB (fun b1 => ?_) (fun b1 => ?_))
  · skip
    refine v_if_ne X 13 dX11_told_8 (by decide) ⟨by decide, by decide⟩ (fun _ => ?_) (fun q => absurd (by decide) q)
    refine v_iload_n X 2 dX11_told_13 rfl rfl ?_
    by_cases u2 : b = 0
    · skip
      refine v_tabIn X 48 dX11_told_14 ⟨by omega, by omega⟩ (by omega) (by omega) (by rw [u2]; rfl) (by decide) ?_
      refine v_aload_n X 0 dX11_told_48 rfl rfl ?_
      refine gt_X11_planned X iwX11 (Std.lt hS rfl) (Std.k hS rfl rfl) (List.mem_cons_of_mem _ bw_2_20) dX11_told_49 47 (Std.r hS 6 rfl) ?_
      refine gt_X3_takeOff X iwX3 (Std.lt hS rfl) (Std.k hS rfl rfl) (List.mem_cons_of_mem _ bw_41_16) dX11_told_52 49 (Std.r hS 1 rfl) ?_
      refine v_iload_n X 1 dX11_told_55 rfl rfl ?_
      refine v_iald X (M 49 a) (Std.lt hS rfl) (Std.at hS rfl rfl) (by omega) (by omega) dX11_told_56 rfl (fun hr3 => ?_)
      refine hret _ _ _ _ _ _ _ _ _ _ _ (some (.int (iz (M 49 a)))) dX11_told_57 ⟨rfl, _, rfl⟩ (by decide) (by decide) (fun hmok => ?_)
      refine ⟨rfl, rfl, rfl, rfl, rfl, rfl, (M 49 a), rfl, ⟨by omega, by omega⟩, ?_⟩
      try dsimp only
      repeat' split
      all_goals omega
    by_cases u4 : b = 1
    · skip
      refine v_tabIn X 58 dX11_told_14 ⟨by omega, by omega⟩ (by omega) (by omega) (by rw [u4]; rfl) (by decide) ?_
      refine v_aload_n X 0 dX11_told_58 rfl rfl ?_
      refine gt_X11_planned X iwX11 (Std.lt hS rfl) (Std.k hS rfl rfl) (List.mem_cons_of_mem _ bw_2_20) dX11_told_59 47 (Std.r hS 6 rfl) ?_
      refine gt_X3_begin X iwX3 (Std.lt hS rfl) (Std.k hS rfl rfl) (List.mem_cons_of_mem _ bw_41_17) dX11_told_62 50 (Std.r hS 2 rfl) ?_
      refine v_iload_n X 1 dX11_told_65 rfl rfl ?_
      refine v_iald X (M 50 a) (Std.lt hS rfl) (Std.at hS rfl rfl) (by omega) (by omega) dX11_told_66 rfl (fun hr5 => ?_)
      refine hret _ _ _ _ _ _ _ _ _ _ _ (some (.int (iz (M 50 a)))) dX11_told_67 ⟨rfl, _, rfl⟩ (by decide) (by decide) (fun hmok => ?_)
      refine ⟨rfl, rfl, rfl, rfl, rfl, rfl, (M 50 a), rfl, ⟨by omega, by omega⟩, ?_⟩
      try dsimp only
      repeat' split
      all_goals omega
    by_cases u6 : b = 2
    · skip
      refine v_tabIn X 68 dX11_told_14 ⟨by omega, by omega⟩ (by omega) (by omega) (by rw [u6]; rfl) (by decide) ?_
      refine v_aload_n X 0 dX11_told_68 rfl rfl ?_
      refine gt_X11_planned X iwX11 (Std.lt hS rfl) (Std.k hS rfl rfl) (List.mem_cons_of_mem _ bw_2_20) dX11_told_69 47 (Std.r hS 6 rfl) ?_
      refine gt_X3_begin X iwX3 (Std.lt hS rfl) (Std.k hS rfl rfl) (List.mem_cons_of_mem _ bw_41_17) dX11_told_72 50 (Std.r hS 2 rfl) ?_
      refine v_iload_n X 1 dX11_told_75 rfl rfl ?_
      refine v_iald X (M 50 a) (Std.lt hS rfl) (Std.at hS rfl rfl) (by omega) (by omega) dX11_told_76 rfl (fun hr7 => ?_)
      refine v_aload_n X 0 dX11_told_77 rfl rfl ?_
      refine gt_X11_planned X iwX11 (Std.lt hS rfl) (Std.k hS rfl rfl) (List.mem_cons_of_mem _ bw_2_20) dX11_told_78 47 (Std.r hS 6 rfl) ?_
      refine gt_X3_minutes X iwX3 (Std.lt hS rfl) (Std.k hS rfl rfl) (List.mem_cons_of_mem _ bw_41_18) dX11_told_81 51 (Std.r hS 3 rfl) ?_
      refine v_iload_n X 1 dX11_told_84 rfl rfl ?_
      refine v_iald X (M 51 a) (Std.lt hS rfl) (Std.at hS rfl rfl) (by omega) (by omega) dX11_told_85 rfl (fun hr8 => ?_)
      refine v_iadd X dX11_told_86 ?_
      refine hret _ _ _ _ _ _ _ _ _ _ _ (some (.int (iz ((M 50 a) + (M 51 a))))) dX11_told_87 ⟨rfl, _, rfl⟩ (by decide) (by decide) (fun hmok => ?_)
      refine ⟨rfl, rfl, rfl, rfl, rfl, rfl, ((M 50 a) + (M 51 a)), rfl, ⟨by omega, by omega⟩, ?_⟩
      try dsimp only
      repeat' split
      all_goals omega
    by_cases u9 : b = 3
    · skip
      refine v_tabIn X 88 dX11_told_14 ⟨by omega, by omega⟩ (by omega) (by omega) (by rw [u9]; rfl) (by decide) ?_
      refine v_aload_n X 0 dX11_told_88 rfl rfl ?_
      refine gt_X11_planned X iwX11 (Std.lt hS rfl) (Std.k hS rfl rfl) (List.mem_cons_of_mem _ bw_2_20) dX11_told_89 47 (Std.r hS 6 rfl) ?_
      refine gt_X3_landing X iwX3 (Std.lt hS rfl) (Std.k hS rfl rfl) (List.mem_cons_of_mem _ bw_41_19) dX11_told_92 52 (Std.r hS 4 rfl) ?_
      refine v_iload_n X 1 dX11_told_95 rfl rfl ?_
      refine v_iald X (M 52 a) (Std.lt hS rfl) (Std.at hS rfl rfl) (by omega) (by omega) dX11_told_96 rfl (fun hr10 => ?_)
      refine hret _ _ _ _ _ _ _ _ _ _ _ (some (.int (iz (M 52 a)))) dX11_told_97 ⟨rfl, _, rfl⟩ (by decide) (by decide) (fun hmok => ?_)
      refine ⟨rfl, rfl, rfl, rfl, rfl, rfl, (M 52 a), rfl, ⟨by omega, by omega⟩, ?_⟩
      try dsimp only
      repeat' split
      all_goals omega
    by_cases u11 : b = 4
    · skip
      refine v_tabIn X 98 dX11_told_14 ⟨by omega, by omega⟩ (by omega) (by omega) (by rw [u11]; rfl) (by decide) ?_
      refine v_aload_n X 0 dX11_told_98 rfl rfl ?_
      refine gt_X11_planned X iwX11 (Std.lt hS rfl) (Std.k hS rfl rfl) (List.mem_cons_of_mem _ bw_2_20) dX11_told_99 47 (Std.r hS 6 rfl) ?_
      refine gt_X3_minutes X iwX3 (Std.lt hS rfl) (Std.k hS rfl rfl) (List.mem_cons_of_mem _ bw_41_18) dX11_told_102 51 (Std.r hS 3 rfl) ?_
      refine v_iload_n X 1 dX11_told_105 rfl rfl ?_
      refine v_iald X (M 51 a) (Std.lt hS rfl) (Std.at hS rfl rfl) (by omega) (by omega) dX11_told_106 rfl (fun hr12 => ?_)
      refine hret _ _ _ _ _ _ _ _ _ _ _ (some (.int (iz (M 51 a)))) dX11_told_107 ⟨rfl, _, rfl⟩ (by decide) (by decide) (fun hmok => ?_)
      refine ⟨rfl, rfl, rfl, rfl, rfl, rfl, (M 51 a), rfl, ⟨by omega, by omega⟩, ?_⟩
      try dsimp only
      repeat' split
      all_goals omega
    refine v_tabOut X 108 dX11_told_14 ⟨by omega, by omega⟩ (by omega) (by decide) ?_
    refine v_iconst X dX11_told_108 ?_
    refine hret _ _ _ _ _ _ _ _ _ _ _ (some (.int (iz (-1)))) dX11_told_109 ⟨rfl, _, rfl⟩ (by decide) (by decide) (fun hmok => ?_)
    refine ⟨rfl, rfl, rfl, rfl, rfl, rfl, (-1), rfl, ⟨by decide, by decide⟩, ?_⟩
    try dsimp only
    repeat' split
    all_goals omega
  · skip
    refine v_if_ne X 13 dX11_told_8 (by decide) ⟨by decide, by decide⟩ (fun q => absurd q (by decide)) (fun _ => ?_)
    refine v_iconst X dX11_told_11 ?_
    refine hret _ _ _ _ _ _ _ _ _ _ _ (some (.int (iz (-1)))) dX11_told_12 ⟨rfl, _, rfl⟩ (by decide) (by decide) (fun hmok => ?_)
    refine ⟨rfl, rfl, rfl, rfl, rfl, rfl, (-1), rfl, ⟨by decide, by decide⟩, ?_⟩
    try dsimp only
    repeat' split
    all_goals omega

-- runway
set_option maxHeartbeats 4000000 in
set_option maxRecDepth 100000 in
theorem c_X11_runway (l : Launch) (D : va_G) (cy : Nat → ClassId) {N : Nat} {sh : MS} {ad : Nat → Nat} {M L : MI} {R : MR} (hS : Std N sh R) (a : Int) (ha : inR a) : Ctr l D cy yX11_runway wsX11_runway ({ frames := 2, cells := 0, slots := 0, locals := 42 } : Room) N sh ad M L R [.ref (ad 0), .int (iz a)] (pI N sh ad M L R (fun r => r = if 0 ≤ a ∧ a < 240 then (if M 49 0 = a then 0 else if M 52 0 = a then 100 else if M 49 1 = a then 1 else if M 52 1 = a then 101 else if M 49 2 = a then 2 else if M 52 2 = a then 102 else if M 49 3 = a then 3 else if M 52 3 = a then 103 else if M 49 4 = a then 4 else if M 52 4 = a then 104 else if M 49 5 = a then 5 else if M 52 5 = a then 105 else -1) else -1)) := by
  refine Ctr.ofI (by decide) rfl (Nat.le_of_ble_eq_true rfl) ?_
  intro K hKl hKd hRm hnm X hret
  have X : VX K cX11_runway 3 wsX11_runway RX11 := X
  show V K 3 0 0 N sh ad M L R [(0, .ref (ad 0)), (1, .int (iz a))] [] 0
  refine v_iload_n X 1 dX11_runway_0 rfl rfl ?_
  refine v_callS X [.int (iz a)] hRm (c_X11_isMinute _ _ _ a ⟨by omega, by omega⟩) (gS bw_26_19 bw_26_20 bw_1_2 bw_26_21) rfl ddX11_isMinute (by decide) (Nat.le_of_ble_eq_true rfl) dX11_runway_1 (k_pB (fun b1 => ?_) (fun b1 => ?_))
  · skip
    refine v_if_ne X 9 dX11_runway_4 (by decide) ⟨by decide, by decide⟩ (fun _ => ?_) (fun q => absurd (by decide) q)
    refine v_iconst X dX11_runway_9 ?_
    refine v_istore_n X [(2, .int (iz 0)), (0, .ref (ad 0)), (1, .int (iz a))] dX11_runway_10 rfl (by decide) rfl ?_
    refine v_iload_n X 0 dX11_runway_11 rfl rfl ?_
    refine v_bipush X dX11_runway_12 (by decide) ?_
    refine v_icmp_ge X 56 dX11_runway_14 (by decide) ⟨by decide, by decide⟩ ⟨by decide, by decide⟩ (fun q => absurd q (by decide)) (fun _ => ?_)
    refine v_aload_n X 1 dX11_runway_17 rfl rfl ?_
    refine gt_X11_planned X iwX11 (Std.lt hS rfl) (Std.k hS rfl rfl) (List.mem_cons_of_mem _ bw_2_20) dX11_runway_18 47 (Std.r hS 6 rfl) ?_
    refine gt_X3_takeOff X iwX3 (Std.lt hS rfl) (Std.k hS rfl rfl) (List.mem_cons_of_mem _ bw_41_16) dX11_runway_21 49 (Std.r hS 1 rfl) ?_
    refine v_iload_n X 0 dX11_runway_24 rfl rfl ?_
    refine v_iald X (M 49 0) (Std.lt hS rfl) (Std.at hS rfl rfl) (by omega) (by omega) dX11_runway_25 rfl (fun hr2 => ?_)
    refine v_iload_n X 2 dX11_runway_26 rfl rfl ?_
    refine v_icmp_ne X 32 dX11_runway_27 (by decide) ⟨by omega, by omega⟩ ⟨by omega, by omega⟩ (fun u3 => ?_) (fun u3 => ?_)
    · skip
      refine v_aload_n X 1 dX11_runway_32 rfl rfl ?_
      refine gt_X11_planned X iwX11 (Std.lt hS rfl) (Std.k hS rfl rfl) (List.mem_cons_of_mem _ bw_2_20) dX11_runway_33 47 (Std.r hS 6 rfl) ?_
      refine gt_X3_landing X iwX3 (Std.lt hS rfl) (Std.k hS rfl rfl) (List.mem_cons_of_mem _ bw_41_19) dX11_runway_36 52 (Std.r hS 4 rfl) ?_
      refine v_iload_n X 0 dX11_runway_39 rfl rfl ?_
      refine v_iald X (M 52 0) (Std.lt hS rfl) (Std.at hS rfl rfl) (by omega) (by omega) dX11_runway_40 rfl (fun hr4 => ?_)
      refine v_iload_n X 2 dX11_runway_41 rfl rfl ?_
      refine v_icmp_ne X 50 dX11_runway_42 (by decide) ⟨by omega, by omega⟩ ⟨by omega, by omega⟩ (fun u5 => ?_) (fun u5 => ?_)
      · skip
        refine v_iinc X 0 [(2, .int (iz 1)), (0, .ref (ad 0)), (1, .int (iz a))] dX11_runway_50 rfl (by decide) rfl ?_
        refine v_goto X 11 dX11_runway_53 (by decide) ?_
        refine v_iload_n X 0 dX11_runway_11 rfl rfl ?_
        refine v_bipush X dX11_runway_12 (by decide) ?_
        refine v_icmp_ge X 56 dX11_runway_14 (by decide) ⟨by decide, by decide⟩ ⟨by decide, by decide⟩ (fun q => absurd q (by decide)) (fun _ => ?_)
        refine v_aload_n X 1 dX11_runway_17 rfl rfl ?_
        refine gt_X11_planned X iwX11 (Std.lt hS rfl) (Std.k hS rfl rfl) (List.mem_cons_of_mem _ bw_2_20) dX11_runway_18 47 (Std.r hS 6 rfl) ?_
        refine gt_X3_takeOff X iwX3 (Std.lt hS rfl) (Std.k hS rfl rfl) (List.mem_cons_of_mem _ bw_41_16) dX11_runway_21 49 (Std.r hS 1 rfl) ?_
        refine v_iload_n X 0 dX11_runway_24 rfl rfl ?_
        refine v_iald X (M 49 1) (Std.lt hS rfl) (Std.at hS rfl rfl) (by omega) (by omega) dX11_runway_25 rfl (fun hr6 => ?_)
        refine v_iload_n X 2 dX11_runway_26 rfl rfl ?_
        refine v_icmp_ne X 32 dX11_runway_27 (by decide) ⟨by omega, by omega⟩ ⟨by omega, by omega⟩ (fun u7 => ?_) (fun u7 => ?_)
        · skip
          refine v_aload_n X 1 dX11_runway_32 rfl rfl ?_
          refine gt_X11_planned X iwX11 (Std.lt hS rfl) (Std.k hS rfl rfl) (List.mem_cons_of_mem _ bw_2_20) dX11_runway_33 47 (Std.r hS 6 rfl) ?_
          refine gt_X3_landing X iwX3 (Std.lt hS rfl) (Std.k hS rfl rfl) (List.mem_cons_of_mem _ bw_41_19) dX11_runway_36 52 (Std.r hS 4 rfl) ?_
          refine v_iload_n X 0 dX11_runway_39 rfl rfl ?_
          refine v_iald X (M 52 1) (Std.lt hS rfl) (Std.at hS rfl rfl) (by omega) (by omega) dX11_runway_40 rfl (fun hr8 => ?_)
          refine v_iload_n X 2 dX11_runway_41 rfl rfl ?_
          refine v_icmp_ne X 50 dX11_runway_42 (by decide) ⟨by omega, by omega⟩ ⟨by omega, by omega⟩ (fun u9 => ?_) (fun u9 => ?_)
          · skip
            refine v_iinc X 0 [(2, .int (iz 2)), (0, .ref (ad 0)), (1, .int (iz a))] dX11_runway_50 rfl (by decide) rfl ?_
            refine v_goto X 11 dX11_runway_53 (by decide) ?_
            refine v_iload_n X 0 dX11_runway_11 rfl rfl ?_
            refine v_bipush X dX11_runway_12 (by decide) ?_
            refine v_icmp_ge X 56 dX11_runway_14 (by decide) ⟨by decide, by decide⟩ ⟨by decide, by decide⟩ (fun q => absurd q (by decide)) (fun _ => ?_)
            refine v_aload_n X 1 dX11_runway_17 rfl rfl ?_
            refine gt_X11_planned X iwX11 (Std.lt hS rfl) (Std.k hS rfl rfl) (List.mem_cons_of_mem _ bw_2_20) dX11_runway_18 47 (Std.r hS 6 rfl) ?_
            refine gt_X3_takeOff X iwX3 (Std.lt hS rfl) (Std.k hS rfl rfl) (List.mem_cons_of_mem _ bw_41_16) dX11_runway_21 49 (Std.r hS 1 rfl) ?_
            refine v_iload_n X 0 dX11_runway_24 rfl rfl ?_
            refine v_iald X (M 49 2) (Std.lt hS rfl) (Std.at hS rfl rfl) (by omega) (by omega) dX11_runway_25 rfl (fun hr10 => ?_)
            refine v_iload_n X 2 dX11_runway_26 rfl rfl ?_
            refine v_icmp_ne X 32 dX11_runway_27 (by decide) ⟨by omega, by omega⟩ ⟨by omega, by omega⟩ (fun u11 => ?_) (fun u11 => ?_)
            · skip
              refine v_aload_n X 1 dX11_runway_32 rfl rfl ?_
              refine gt_X11_planned X iwX11 (Std.lt hS rfl) (Std.k hS rfl rfl) (List.mem_cons_of_mem _ bw_2_20) dX11_runway_33 47 (Std.r hS 6 rfl) ?_
              refine gt_X3_landing X iwX3 (Std.lt hS rfl) (Std.k hS rfl rfl) (List.mem_cons_of_mem _ bw_41_19) dX11_runway_36 52 (Std.r hS 4 rfl) ?_
              refine v_iload_n X 0 dX11_runway_39 rfl rfl ?_
              refine v_iald X (M 52 2) (Std.lt hS rfl) (Std.at hS rfl rfl) (by omega) (by omega) dX11_runway_40 rfl (fun hr12 => ?_)
              refine v_iload_n X 2 dX11_runway_41 rfl rfl ?_
              refine v_icmp_ne X 50 dX11_runway_42 (by decide) ⟨by omega, by omega⟩ ⟨by omega, by omega⟩ (fun u13 => ?_) (fun u13 => ?_)
              · skip
                refine v_iinc X 0 [(2, .int (iz 3)), (0, .ref (ad 0)), (1, .int (iz a))] dX11_runway_50 rfl (by decide) rfl ?_
                refine v_goto X 11 dX11_runway_53 (by decide) ?_
                refine v_iload_n X 0 dX11_runway_11 rfl rfl ?_
                refine v_bipush X dX11_runway_12 (by decide) ?_
                refine v_icmp_ge X 56 dX11_runway_14 (by decide) ⟨by decide, by decide⟩ ⟨by decide, by decide⟩ (fun q => absurd q (by decide)) (fun _ => ?_)
                refine v_aload_n X 1 dX11_runway_17 rfl rfl ?_
                refine gt_X11_planned X iwX11 (Std.lt hS rfl) (Std.k hS rfl rfl) (List.mem_cons_of_mem _ bw_2_20) dX11_runway_18 47 (Std.r hS 6 rfl) ?_
                refine gt_X3_takeOff X iwX3 (Std.lt hS rfl) (Std.k hS rfl rfl) (List.mem_cons_of_mem _ bw_41_16) dX11_runway_21 49 (Std.r hS 1 rfl) ?_
                refine v_iload_n X 0 dX11_runway_24 rfl rfl ?_
                refine v_iald X (M 49 3) (Std.lt hS rfl) (Std.at hS rfl rfl) (by omega) (by omega) dX11_runway_25 rfl (fun hr14 => ?_)
                refine v_iload_n X 2 dX11_runway_26 rfl rfl ?_
                refine v_icmp_ne X 32 dX11_runway_27 (by decide) ⟨by omega, by omega⟩ ⟨by omega, by omega⟩ (fun u15 => ?_) (fun u15 => ?_)
                · skip
                  refine v_aload_n X 1 dX11_runway_32 rfl rfl ?_
                  refine gt_X11_planned X iwX11 (Std.lt hS rfl) (Std.k hS rfl rfl) (List.mem_cons_of_mem _ bw_2_20) dX11_runway_33 47 (Std.r hS 6 rfl) ?_
                  refine gt_X3_landing X iwX3 (Std.lt hS rfl) (Std.k hS rfl rfl) (List.mem_cons_of_mem _ bw_41_19) dX11_runway_36 52 (Std.r hS 4 rfl) ?_
                  refine v_iload_n X 0 dX11_runway_39 rfl rfl ?_
                  refine v_iald X (M 52 3) (Std.lt hS rfl) (Std.at hS rfl rfl) (by omega) (by omega) dX11_runway_40 rfl (fun hr16 => ?_)
                  refine v_iload_n X 2 dX11_runway_41 rfl rfl ?_
                  refine v_icmp_ne X 50 dX11_runway_42 (by decide) ⟨by omega, by omega⟩ ⟨by omega, by omega⟩ (fun u17 => ?_) (fun u17 => ?_)
                  · skip
                    refine v_iinc X 0 [(2, .int (iz 4)), (0, .ref (ad 0)), (1, .int (iz a))] dX11_runway_50 rfl (by decide) rfl ?_
                    refine v_goto X 11 dX11_runway_53 (by decide) ?_
                    refine v_iload_n X 0 dX11_runway_11 rfl rfl ?_
                    refine v_bipush X dX11_runway_12 (by decide) ?_
                    refine v_icmp_ge X 56 dX11_runway_14 (by decide) ⟨by decide, by decide⟩ ⟨by decide, by decide⟩ (fun q => absurd q (by decide)) (fun _ => ?_)
                    refine v_aload_n X 1 dX11_runway_17 rfl rfl ?_
                    refine gt_X11_planned X iwX11 (Std.lt hS rfl) (Std.k hS rfl rfl) (List.mem_cons_of_mem _ bw_2_20) dX11_runway_18 47 (Std.r hS 6 rfl) ?_
                    refine gt_X3_takeOff X iwX3 (Std.lt hS rfl) (Std.k hS rfl rfl) (List.mem_cons_of_mem _ bw_41_16) dX11_runway_21 49 (Std.r hS 1 rfl) ?_
                    refine v_iload_n X 0 dX11_runway_24 rfl rfl ?_
                    refine v_iald X (M 49 4) (Std.lt hS rfl) (Std.at hS rfl rfl) (by omega) (by omega) dX11_runway_25 rfl (fun hr18 => ?_)
                    refine v_iload_n X 2 dX11_runway_26 rfl rfl ?_
                    refine v_icmp_ne X 32 dX11_runway_27 (by decide) ⟨by omega, by omega⟩ ⟨by omega, by omega⟩ (fun u19 => ?_) (fun u19 => ?_)
                    · skip
                      refine v_aload_n X 1 dX11_runway_32 rfl rfl ?_
                      refine gt_X11_planned X iwX11 (Std.lt hS rfl) (Std.k hS rfl rfl) (List.mem_cons_of_mem _ bw_2_20) dX11_runway_33 47 (Std.r hS 6 rfl) ?_
                      refine gt_X3_landing X iwX3 (Std.lt hS rfl) (Std.k hS rfl rfl) (List.mem_cons_of_mem _ bw_41_19) dX11_runway_36 52 (Std.r hS 4 rfl) ?_
                      refine v_iload_n X 0 dX11_runway_39 rfl rfl ?_
                      refine v_iald X (M 52 4) (Std.lt hS rfl) (Std.at hS rfl rfl) (by omega) (by omega) dX11_runway_40 rfl (fun hr20 => ?_)
                      refine v_iload_n X 2 dX11_runway_41 rfl rfl ?_
                      refine v_icmp_ne X 50 dX11_runway_42 (by decide) ⟨by omega, by omega⟩ ⟨by omega, by omega⟩ (fun u21 => ?_) (fun u21 => ?_)
                      · skip
                        refine v_iinc X 0 [(2, .int (iz 5)), (0, .ref (ad 0)), (1, .int (iz a))] dX11_runway_50 rfl (by decide) rfl ?_
                        refine v_goto X 11 dX11_runway_53 (by decide) ?_
                        refine v_iload_n X 0 dX11_runway_11 rfl rfl ?_
                        refine v_bipush X dX11_runway_12 (by decide) ?_
                        refine v_icmp_ge X 56 dX11_runway_14 (by decide) ⟨by decide, by decide⟩ ⟨by decide, by decide⟩ (fun q => absurd q (by decide)) (fun _ => ?_)
                        refine v_aload_n X 1 dX11_runway_17 rfl rfl ?_
                        refine gt_X11_planned X iwX11 (Std.lt hS rfl) (Std.k hS rfl rfl) (List.mem_cons_of_mem _ bw_2_20) dX11_runway_18 47 (Std.r hS 6 rfl) ?_
                        refine gt_X3_takeOff X iwX3 (Std.lt hS rfl) (Std.k hS rfl rfl) (List.mem_cons_of_mem _ bw_41_16) dX11_runway_21 49 (Std.r hS 1 rfl) ?_
                        refine v_iload_n X 0 dX11_runway_24 rfl rfl ?_
                        refine v_iald X (M 49 5) (Std.lt hS rfl) (Std.at hS rfl rfl) (by omega) (by omega) dX11_runway_25 rfl (fun hr22 => ?_)
                        refine v_iload_n X 2 dX11_runway_26 rfl rfl ?_
                        refine v_icmp_ne X 32 dX11_runway_27 (by decide) ⟨by omega, by omega⟩ ⟨by omega, by omega⟩ (fun u23 => ?_) (fun u23 => ?_)
                        · skip
                          refine v_aload_n X 1 dX11_runway_32 rfl rfl ?_
                          refine gt_X11_planned X iwX11 (Std.lt hS rfl) (Std.k hS rfl rfl) (List.mem_cons_of_mem _ bw_2_20) dX11_runway_33 47 (Std.r hS 6 rfl) ?_
                          refine gt_X3_landing X iwX3 (Std.lt hS rfl) (Std.k hS rfl rfl) (List.mem_cons_of_mem _ bw_41_19) dX11_runway_36 52 (Std.r hS 4 rfl) ?_
                          refine v_iload_n X 0 dX11_runway_39 rfl rfl ?_
                          refine v_iald X (M 52 5) (Std.lt hS rfl) (Std.at hS rfl rfl) (by omega) (by omega) dX11_runway_40 rfl (fun hr24 => ?_)
                          refine v_iload_n X 2 dX11_runway_41 rfl rfl ?_
                          refine v_icmp_ne X 50 dX11_runway_42 (by decide) ⟨by omega, by omega⟩ ⟨by omega, by omega⟩ (fun u25 => ?_) (fun u25 => ?_)
                          · skip
                            refine v_iinc X 0 [(2, .int (iz 6)), (0, .ref (ad 0)), (1, .int (iz a))] dX11_runway_50 rfl (by decide) rfl ?_
                            refine v_goto X 11 dX11_runway_53 (by decide) ?_
                            refine v_iload_n X 0 dX11_runway_11 rfl rfl ?_
                            refine v_bipush X dX11_runway_12 (by decide) ?_
                            refine v_icmp_ge X 56 dX11_runway_14 (by decide) ⟨by decide, by decide⟩ ⟨by decide, by decide⟩ (fun _ => ?_) (fun q => absurd (by decide) q)
                            refine v_iconst X dX11_runway_56 ?_
                            refine hret _ _ _ _ _ _ _ _ _ _ _ (some (.int (iz (-1)))) dX11_runway_57 ⟨rfl, _, rfl⟩ (by decide) (by decide) (fun hmok => ?_)
                            refine ⟨rfl, rfl, rfl, rfl, rfl, rfl, (-1), rfl, ⟨by decide, by decide⟩, ?_⟩
                            try dsimp only
                            repeat (first | rw [if_pos (by omega)] | rw [if_neg (by omega)])
                          · skip
                            refine v_bipush X dX11_runway_45 (by decide) ?_
                            refine v_iload_n X 0 dX11_runway_47 rfl rfl ?_
                            refine v_iadd X dX11_runway_48 ?_
                            refine v_st (st' := [.int (iz 105)]) rfl ?_
                            refine hret _ _ _ _ _ _ _ _ _ _ _ (some (.int (iz 105))) dX11_runway_49 ⟨rfl, _, rfl⟩ (by decide) (by decide) (fun hmok => ?_)
                            refine ⟨rfl, rfl, rfl, rfl, rfl, rfl, 105, rfl, ⟨by decide, by decide⟩, ?_⟩
                            try dsimp only
                            repeat (first | rw [if_pos (by omega)] | rw [if_neg (by omega)])
                        · skip
                          refine v_iload_n X 0 dX11_runway_30 rfl rfl ?_
                          refine hret _ _ _ _ _ _ _ _ _ _ _ (some (.int (iz 5))) dX11_runway_31 ⟨rfl, _, rfl⟩ (by decide) (by decide) (fun hmok => ?_)
                          refine ⟨rfl, rfl, rfl, rfl, rfl, rfl, 5, rfl, ⟨by decide, by decide⟩, ?_⟩
                          try dsimp only
                          repeat (first | rw [if_pos (by omega)] | rw [if_neg (by omega)])
                      · skip
                        refine v_bipush X dX11_runway_45 (by decide) ?_
                        refine v_iload_n X 0 dX11_runway_47 rfl rfl ?_
                        refine v_iadd X dX11_runway_48 ?_
                        refine v_st (st' := [.int (iz 104)]) rfl ?_
                        refine hret _ _ _ _ _ _ _ _ _ _ _ (some (.int (iz 104))) dX11_runway_49 ⟨rfl, _, rfl⟩ (by decide) (by decide) (fun hmok => ?_)
                        refine ⟨rfl, rfl, rfl, rfl, rfl, rfl, 104, rfl, ⟨by decide, by decide⟩, ?_⟩
                        try dsimp only
                        repeat (first | rw [if_pos (by omega)] | rw [if_neg (by omega)])
                    · skip
                      refine v_iload_n X 0 dX11_runway_30 rfl rfl ?_
                      refine hret _ _ _ _ _ _ _ _ _ _ _ (some (.int (iz 4))) dX11_runway_31 ⟨rfl, _, rfl⟩ (by decide) (by decide) (fun hmok => ?_)
                      refine ⟨rfl, rfl, rfl, rfl, rfl, rfl, 4, rfl, ⟨by decide, by decide⟩, ?_⟩
                      try dsimp only
                      repeat (first | rw [if_pos (by omega)] | rw [if_neg (by omega)])
                  · skip
                    refine v_bipush X dX11_runway_45 (by decide) ?_
                    refine v_iload_n X 0 dX11_runway_47 rfl rfl ?_
                    refine v_iadd X dX11_runway_48 ?_
                    refine v_st (st' := [.int (iz 103)]) rfl ?_
                    refine hret _ _ _ _ _ _ _ _ _ _ _ (some (.int (iz 103))) dX11_runway_49 ⟨rfl, _, rfl⟩ (by decide) (by decide) (fun hmok => ?_)
                    refine ⟨rfl, rfl, rfl, rfl, rfl, rfl, 103, rfl, ⟨by decide, by decide⟩, ?_⟩
                    try dsimp only
                    repeat (first | rw [if_pos (by omega)] | rw [if_neg (by omega)])
                · skip
                  refine v_iload_n X 0 dX11_runway_30 rfl rfl ?_
                  refine hret _ _ _ _ _ _ _ _ _ _ _ (some (.int (iz 3))) dX11_runway_31 ⟨rfl, _, rfl⟩ (by decide) (by decide) (fun hmok => ?_)
                  refine ⟨rfl, rfl, rfl, rfl, rfl, rfl, 3, rfl, ⟨by decide, by decide⟩, ?_⟩
                  try dsimp only
                  repeat (first | rw [if_pos (by omega)] | rw [if_neg (by omega)])
              · skip
                refine v_bipush X dX11_runway_45 (by decide) ?_
                refine v_iload_n X 0 dX11_runway_47 rfl rfl ?_
                refine v_iadd X dX11_runway_48 ?_
                refine v_st (st' := [.int (iz 102)]) rfl ?_
                refine hret _ _ _ _ _ _ _ _ _ _ _ (some (.int (iz 102))) dX11_runway_49 ⟨rfl, _, rfl⟩ (by decide) (by decide) (fun hmok => ?_)
                refine ⟨rfl, rfl, rfl, rfl, rfl, rfl, 102, rfl, ⟨by decide, by decide⟩, ?_⟩
                try dsimp only
                repeat (first | rw [if_pos (by omega)] | rw [if_neg (by omega)])
            · skip
              refine v_iload_n X 0 dX11_runway_30 rfl rfl ?_
              refine hret _ _ _ _ _ _ _ _ _ _ _ (some (.int (iz 2))) dX11_runway_31 ⟨rfl, _, rfl⟩ (by decide) (by decide) (fun hmok => ?_)
              refine ⟨rfl, rfl, rfl, rfl, rfl, rfl, 2, rfl, ⟨by decide, by decide⟩, ?_⟩
              try dsimp only
              repeat (first | rw [if_pos (by omega)] | rw [if_neg (by omega)])
          · skip
            refine v_bipush X dX11_runway_45 (by decide) ?_
            refine v_iload_n X 0 dX11_runway_47 rfl rfl ?_
            refine v_iadd X dX11_runway_48 ?_
            refine v_st (st' := [.int (iz 101)]) rfl ?_
            refine hret _ _ _ _ _ _ _ _ _ _ _ (some (.int (iz 101))) dX11_runway_49 ⟨rfl, _, rfl⟩ (by decide) (by decide) (fun hmok => ?_)
            refine ⟨rfl, rfl, rfl, rfl, rfl, rfl, 101, rfl, ⟨by decide, by decide⟩, ?_⟩
            try dsimp only
            repeat (first | rw [if_pos (by omega)] | rw [if_neg (by omega)])
        · skip
          refine v_iload_n X 0 dX11_runway_30 rfl rfl ?_
          refine hret _ _ _ _ _ _ _ _ _ _ _ (some (.int (iz 1))) dX11_runway_31 ⟨rfl, _, rfl⟩ (by decide) (by decide) (fun hmok => ?_)
          refine ⟨rfl, rfl, rfl, rfl, rfl, rfl, 1, rfl, ⟨by decide, by decide⟩, ?_⟩
          try dsimp only
          repeat (first | rw [if_pos (by omega)] | rw [if_neg (by omega)])
      · skip
        refine v_bipush X dX11_runway_45 (by decide) ?_
        refine v_iload_n X 0 dX11_runway_47 rfl rfl ?_
        refine v_iadd X dX11_runway_48 ?_
        refine v_st (st' := [.int (iz 100)]) rfl ?_
        refine hret _ _ _ _ _ _ _ _ _ _ _ (some (.int (iz 100))) dX11_runway_49 ⟨rfl, _, rfl⟩ (by decide) (by decide) (fun hmok => ?_)
        refine ⟨rfl, rfl, rfl, rfl, rfl, rfl, 100, rfl, ⟨by decide, by decide⟩, ?_⟩
        try dsimp only
        repeat (first | rw [if_pos (by omega)] | rw [if_neg (by omega)])
    · skip
      refine v_iload_n X 0 dX11_runway_30 rfl rfl ?_
      refine hret _ _ _ _ _ _ _ _ _ _ _ (some (.int (iz 0))) dX11_runway_31 ⟨rfl, _, rfl⟩ (by decide) (by decide) (fun hmok => ?_)
      refine ⟨rfl, rfl, rfl, rfl, rfl, rfl, 0, rfl, ⟨by decide, by decide⟩, ?_⟩
      try dsimp only
      repeat (first | rw [if_pos (by omega)] | rw [if_neg (by omega)])
  · skip
    refine v_if_ne X 9 dX11_runway_4 (by decide) ⟨by decide, by decide⟩ (fun q => absurd q (by decide)) (fun _ => ?_)
    refine v_iconst X dX11_runway_7 ?_
    refine hret _ _ _ _ _ _ _ _ _ _ _ (some (.int (iz (-1)))) dX11_runway_8 ⟨rfl, _, rfl⟩ (by decide) (by decide) (fun hmok => ?_)
    refine ⟨rfl, rfl, rfl, rfl, rfl, rfl, (-1), rfl, ⟨by decide, by decide⟩, ?_⟩
    try dsimp only
    repeat (first | rw [if_pos (by omega)] | rw [if_neg (by omega)])

-- count
set_option maxHeartbeats 4000000 in
set_option maxRecDepth 100000 in
theorem c_X11_count (l : Launch) (D : va_G) (cy : Nat → ClassId) {N : Nat} {sh : MS} {ad : Nat → Nat} {M L : MI} {R : MR} (hS : Std N sh R) (a : Int) (ha : inR a) (t : Nat) (ht : R 0 8 = some t) (ht2 : t < N) (ht3 : (sh t).1 = 10) : Ctr l D cy yX11_count wsX11_count ({ frames := 2, cells := 0, slots := 0, locals := 35 } : Room) N sh ad M L R [.ref (ad 0), .int (iz a)] (pI N sh ad M L R (fun r => r = if a = 0 then M 6 1 else if a = 1 then M 9 3 else if a = 2 then M t 7 else if a = 3 then (if M 0 7 ≠ 0 then M 47 5 else -1) else if a = 4 then lastL (M 52) else if a = 5 then M 1 1 else if a = 6 then M 6 4 else if a = 7 then M 6 5 else -1)) := by
  refine Ctr.ofI (by decide) rfl (Nat.le_of_ble_eq_true rfl) ?_
  intro K hKl hKd hRm hnm X hret
  have X : VX K cX11_count 2 wsX11_count RX11 := X
  show V K 2 0 0 N sh ad M L R [(0, .ref (ad 0)), (1, .int (iz a))] [] 0
  refine v_iload_n X 1 dX11_count_0 rfl rfl ?_
  by_cases u1 : a = 0
  · skip
    refine v_tabIn X 48 dX11_count_1 ⟨by omega, by omega⟩ (by omega) (by omega) (by rw [u1]; rfl) (by decide) ?_
    refine v_aload_n X 0 dX11_count_48 rfl rfl ?_
    refine gt_X11_show X iwX11 (Std.lt hS rfl) (Std.k hS rfl rfl) (List.mem_cons_of_mem _ bw_1_23) dX11_count_49 6 (Std.r hS 2 rfl) ?_
    refine gt_X7_size X iwX7 (Std.lt hS rfl) (Std.k hS rfl rfl) (List.mem_cons_of_mem _ bw_22_19) dX11_count_52 (M 6 1) rfl (fun hr2 => ?_)
    refine hret _ _ _ _ _ _ _ _ _ _ _ (some (.int (iz (M 6 1)))) dX11_count_55 ⟨rfl, _, rfl⟩ (by decide) (by decide) (fun hmok => ?_)
    refine ⟨rfl, rfl, rfl, rfl, rfl, rfl, (M 6 1), rfl, ⟨by omega, by omega⟩, ?_⟩
    try dsimp only
    repeat' split
    all_goals omega
  by_cases u3 : a = 1
  · skip
    refine v_tabIn X 56 dX11_count_1 ⟨by omega, by omega⟩ (by omega) (by omega) (by rw [u3]; rfl) (by decide) ?_
    refine v_aload_n X 0 dX11_count_56 rfl rfl ?_
    refine gt_X11_facts X iwX11 (Std.lt hS rfl) (Std.k hS rfl rfl) (List.mem_cons_of_mem _ bw_2_3) dX11_count_57 9 (Std.r hS 3 rfl) ?_
    refine gt_X1_size X iwX1 (Std.lt hS rfl) (Std.k hS rfl rfl) (List.mem_cons_of_mem _ bw_44_3) dX11_count_60 (M 9 3) rfl (fun hr4 => ?_)
    refine hret _ _ _ _ _ _ _ _ _ _ _ (some (.int (iz (M 9 3)))) dX11_count_63 ⟨rfl, _, rfl⟩ (by decide) (by decide) (fun hmok => ?_)
    refine ⟨rfl, rfl, rfl, rfl, rfl, rfl, (M 9 3), rfl, ⟨by omega, by omega⟩, ?_⟩
    try dsimp only
    repeat' split
    all_goals omega
  by_cases u5 : a = 2
  · skip
    refine v_tabIn X 64 dX11_count_1 ⟨by omega, by omega⟩ (by omega) (by omega) (by rw [u5]; rfl) (by decide) ?_
    refine v_aload_n X 0 dX11_count_64 rfl rfl ?_
    refine gt_X11_text X iwX11 (Std.lt hS rfl) (Std.k hS rfl rfl) (List.mem_cons_of_mem _ bw_2_11) dX11_count_65 t ht ?_
    refine gt_X10_size X iwX10 ht2 ht3 (List.mem_cons_of_mem _ bw_44_4) dX11_count_68 (M t 7) rfl (fun hr6 => ?_)
    refine hret _ _ _ _ _ _ _ _ _ _ _ (some (.int (iz (M t 7)))) dX11_count_71 ⟨rfl, _, rfl⟩ (by decide) (by decide) (fun hmok => ?_)
    refine ⟨rfl, rfl, rfl, rfl, rfl, rfl, (M t 7), rfl, ⟨by omega, by omega⟩, ?_⟩
    try dsimp only
    repeat' split
    all_goals omega
  by_cases u7 : a = 3
  · skip
    refine v_tabIn X 72 dX11_count_1 ⟨by omega, by omega⟩ (by omega) (by omega) (by rw [u7]; rfl) (by decide) ?_
    refine v_aload_n X 0 dX11_count_72 rfl rfl ?_
    refine gt_X11_isPlanned X iwX11 (Std.lt hS rfl) (Std.k hS rfl rfl) (List.mem_cons_of_mem _ bw_2_21) dX11_count_73 (M 0 7) rfl (fun hr8 => ?_)
    refine v_if_eq X 89 dX11_count_76 (by decide) ⟨by omega, by omega⟩ (fun u9 => ?_) (fun u9 => ?_)
    · skip
      refine v_iconst X dX11_count_89 ?_
      refine hret _ _ _ _ _ _ _ _ _ _ _ (some (.int (iz (-1)))) dX11_count_90 ⟨rfl, _, rfl⟩ (by decide) (by decide) (fun hmok => ?_)
      refine ⟨rfl, rfl, rfl, rfl, rfl, rfl, (-1), rfl, ⟨by decide, by decide⟩, ?_⟩
      try dsimp only
      repeat' split
      all_goals omega
    · skip
      refine v_aload_n X 0 dX11_count_79 rfl rfl ?_
      refine gt_X11_planned X iwX11 (Std.lt hS rfl) (Std.k hS rfl rfl) (List.mem_cons_of_mem _ bw_2_20) dX11_count_80 47 (Std.r hS 6 rfl) ?_
      refine gt_X3_size X iwX3 (Std.lt hS rfl) (Std.k hS rfl rfl) (List.mem_cons_of_mem _ bw_41_6) dX11_count_83 (M 47 5) rfl (fun hr10 => ?_)
      refine v_goto X 90 dX11_count_86 (by decide) ?_
      refine hret _ _ _ _ _ _ _ _ _ _ _ (some (.int (iz (M 47 5)))) dX11_count_90 ⟨rfl, _, rfl⟩ (by decide) (by decide) (fun hmok => ?_)
      refine ⟨rfl, rfl, rfl, rfl, rfl, rfl, (M 47 5), rfl, ⟨by omega, by omega⟩, ?_⟩
      try dsimp only
      repeat' split
      all_goals omega
  by_cases u11 : a = 4
  · skip
    refine v_tabIn X 91 dX11_count_1 ⟨by omega, by omega⟩ (by omega) (by omega) (by rw [u11]; rfl) (by decide) ?_
    refine v_aload_n X 0 dX11_count_91 rfl rfl ?_
    refine gt_X11_planned X iwX11 (Std.lt hS rfl) (Std.k hS rfl rfl) (List.mem_cons_of_mem _ bw_2_20) dX11_count_92 47 (Std.r hS 6 rfl) ?_
    refine v_callV X [] hRm (c_X3_lastLanding_47 _ _ _ hS) (gV bw_44_5 bw_34_5 bw_34_6 bw_2_19 bw_34_7) rfl ddX3_lastLanding (by decide) (Std.lt hS rfl) (Std.k hS rfl rfl) ⟨rfl, by decide⟩ (Nat.le_of_ble_eq_true rfl) dX11_count_95 (k_pI (fun r12 hr13 e14 => ?_))
    refine hret _ _ _ _ _ _ _ _ _ _ _ (some (.int (iz r12))) dX11_count_98 ⟨rfl, _, rfl⟩ (by decide) (by decide) (fun hmok => ?_)
    refine ⟨rfl, rfl, rfl, rfl, rfl, rfl, r12, rfl, ⟨by omega, by omega⟩, ?_⟩
    try dsimp only
    repeat' split
    all_goals omega
  by_cases u15 : a = 5
  · skip
    refine v_tabIn X 99 dX11_count_1 ⟨by omega, by omega⟩ (by omega) (by omega) (by rw [u15]; rfl) (by decide) ?_
    refine v_aload_n X 0 dX11_count_99 rfl rfl ?_
    refine gt_X11_tape X iwX11 (Std.lt hS rfl) (Std.k hS rfl rfl) (List.mem_cons_of_mem _ bw_1_15) dX11_count_100 1 (Std.r hS 0 rfl) ?_
    refine gt_X9_size X iwX9 (Std.lt hS rfl) (Std.k hS rfl rfl) (List.mem_cons_of_mem _ bw_10_15) dX11_count_103 (M 1 1) rfl (fun hr16 => ?_)
    refine hret _ _ _ _ _ _ _ _ _ _ _ (some (.int (iz (M 1 1)))) dX11_count_106 ⟨rfl, _, rfl⟩ (by decide) (by decide) (fun hmok => ?_)
    refine ⟨rfl, rfl, rfl, rfl, rfl, rfl, (M 1 1), rfl, ⟨by omega, by omega⟩, ?_⟩
    try dsimp only
    repeat' split
    all_goals omega
  by_cases u17 : a = 6
  · skip
    refine v_tabIn X 107 dX11_count_1 ⟨by omega, by omega⟩ (by omega) (by omega) (by rw [u17]; rfl) (by decide) ?_
    refine v_aload_n X 0 dX11_count_107 rfl rfl ?_
    refine gt_X11_show X iwX11 (Std.lt hS rfl) (Std.k hS rfl rfl) (List.mem_cons_of_mem _ bw_1_23) dX11_count_108 6 (Std.r hS 2 rfl) ?_
    refine gt_X7_wind X iwX7 (Std.lt hS rfl) (Std.k hS rfl rfl) (List.mem_cons_of_mem _ bw_26_8) dX11_count_111 (M 6 4) rfl (fun hr18 => ?_)
    refine hret _ _ _ _ _ _ _ _ _ _ _ (some (.int (iz (M 6 4)))) dX11_count_114 ⟨rfl, _, rfl⟩ (by decide) (by decide) (fun hmok => ?_)
    refine ⟨rfl, rfl, rfl, rfl, rfl, rfl, (M 6 4), rfl, ⟨by omega, by omega⟩, ?_⟩
    try dsimp only
    repeat' split
    all_goals omega
  by_cases u19 : a = 7
  · skip
    refine v_tabIn X 115 dX11_count_1 ⟨by omega, by omega⟩ (by omega) (by omega) (by rw [u19]; rfl) (by decide) ?_
    refine v_aload_n X 0 dX11_count_115 rfl rfl ?_
    refine gt_X11_show X iwX11 (Std.lt hS rfl) (Std.k hS rfl rfl) (List.mem_cons_of_mem _ bw_1_23) dX11_count_116 6 (Std.r hS 2 rfl) ?_
    refine gt_X7_line X iwX7 (Std.lt hS rfl) (Std.k hS rfl rfl) (List.mem_cons_of_mem _ bw_26_9) dX11_count_119 (M 6 5) rfl (fun hr20 => ?_)
    refine hret _ _ _ _ _ _ _ _ _ _ _ (some (.int (iz (M 6 5)))) dX11_count_122 ⟨rfl, _, rfl⟩ (by decide) (by decide) (fun hmok => ?_)
    refine ⟨rfl, rfl, rfl, rfl, rfl, rfl, (M 6 5), rfl, ⟨by omega, by omega⟩, ?_⟩
    try dsimp only
    repeat' split
    all_goals omega
  refine v_tabOut X 123 dX11_count_1 ⟨by omega, by omega⟩ (by omega) (by decide) ?_
  refine v_iconst X dX11_count_123 ?_
  refine hret _ _ _ _ _ _ _ _ _ _ _ (some (.int (iz (-1)))) dX11_count_124 ⟨rfl, _, rfl⟩ (by decide) (by decide) (fun hmok => ?_)
  refine ⟨rfl, rfl, rfl, rfl, rfl, rfl, (-1), rfl, ⟨by decide, by decide⟩, ?_⟩
  try dsimp only
  repeat' split
  all_goals omega

-- actAt
set_option maxHeartbeats 4000000 in
set_option maxRecDepth 100000 in
theorem c_X7_actAt (l : Launch) (D : va_G) (cy : Nat → ClassId) {N : Nat} {sh : MS} {ad : Nat → Nat} {M L : MI} {R : MR} (hS : Std N sh R) (a : Int) (ha : inR a) (hO : ShowOk M R sh N) : Ctr l D cy yX7_actAt wsX7_actAt ({ frames := 0, cells := 0, slots := 0, locals := 0 } : Room) N sh ad M L R [.ref (ad 6), .int (iz a)] (pR N sh ad M L R (fun v => (v = none ∧ ¬ (0 ≤ a ∧ a < M 6 1)) ∨ ∃ q : Nat, v = some q ∧ R 7 a = some q ∧ (0 ≤ a ∧ a < M 6 1) ∧ ActOk M R sh N q)) := by
  refine Ctr.ofR (by decide) rfl (Nat.le_of_ble_eq_true rfl) ?_
  intro K hKl hKd hRm hnm X hret
  have X : VX K cX7_actAt 2 wsX7_actAt RX7 := X
  show V K 2 0 0 N sh ad M L R [(0, .ref (ad 6)), (1, .int (iz a))] [] 0
  have b1 := hO.1
  refine v_iload_n X 1 dX7_actAt_0 rfl rfl ?_
  refine v_if_lt X 27 dX7_actAt_1 (by decide) ⟨by omega, by omega⟩ (fun u1 => ?_) (fun u1 => ?_)
  · skip
    refine v_null X dX7_actAt_27 ?_
    refine hret _ _ _ _ _ _ _ _ _ _ _ (some (va_rf none)) dX7_actAt_28 ⟨rfl, _, rfl⟩ (by decide) (by decide) (fun hmok => ?_)
    refine ⟨rfl, rfl, rfl, rfl, rfl, rfl, none, rfl, ?_⟩
    try dsimp only
    exact Or.inl ⟨rfl, by omega⟩
  · skip
    refine v_iload_n X 1 dX7_actAt_4 rfl rfl ?_
    refine v_aload_n X 0 dX7_actAt_5 rfl rfl ?_
    refine gt_X7_size X iwX7 (Std.lt hS rfl) (Std.k hS rfl rfl) (List.mem_cons_of_mem _ bw_4_16) dX7_actAt_6 (M 6 1) rfl (fun hr2 => ?_)
    refine v_icmp_ge X 27 dX7_actAt_9 (by decide) ⟨by omega, by omega⟩ ⟨by omega, by omega⟩ (fun u3 => ?_) (fun u3 => ?_)
    · skip
      refine v_null X dX7_actAt_27 ?_
      refine hret _ _ _ _ _ _ _ _ _ _ _ (some (va_rf none)) dX7_actAt_28 ⟨rfl, _, rfl⟩ (by decide) (by decide) (fun hmok => ?_)
      refine ⟨rfl, rfl, rfl, rfl, rfl, rfl, none, rfl, ?_⟩
      try dsimp only
      exact Or.inl ⟨rfl, by omega⟩
    · skip
      refine v_iload_n X 1 dX7_actAt_12 rfl rfl ?_
      refine v_bipush X dX7_actAt_13 (by decide) ?_
      refine v_icmp_ge X 27 dX7_actAt_15 (by decide) ⟨by omega, by omega⟩ ⟨by decide, by decide⟩ (fun u4 => ?_) (fun u4 => ?_)
      · skip
        refine v_null X dX7_actAt_27 ?_
        refine hret _ _ _ _ _ _ _ _ _ _ _ (some (va_rf none)) dX7_actAt_28 ⟨rfl, _, rfl⟩ (by decide) (by decide) (fun hmok => ?_)
        refine ⟨rfl, rfl, rfl, rfl, rfl, rfl, none, rfl, ?_⟩
        try dsimp only
        exact Or.inl ⟨rfl, by omega⟩
      · skip
        refine v_aload_n X 0 dX7_actAt_18 rfl rfl ?_
        refine gt_X7_acts X iwX7 (Std.lt hS rfl) (Std.k hS rfl rfl) (List.mem_cons_of_mem _ bw_4_14) dX7_actAt_19 7 (Std.r hS 0 rfl) ?_
        refine v_iload_n X 1 dX7_actAt_22 rfl rfl ?_
        refine v_aald17 X (R 7 a) (Std.lt hS rfl) (Std.at hS rfl rfl) (by omega) (by omega) dX7_actAt_23 rfl ?_
        refine v_goto X 28 dX7_actAt_24 (by decide) ?_
        refine hret _ _ _ _ _ _ _ _ _ _ _ (some (va_rf (Option.map ad (R 7 a)))) dX7_actAt_28 ⟨rfl, _, rfl⟩ (by decide) (by decide) (fun hmok => ?_)
        refine ⟨rfl, rfl, rfl, rfl, rfl, rfl, (R 7 a), rfl, ?_⟩
        try dsimp only
        obtain ⟨q, h1, h2⟩ := hO.2.2.2.2.2 a (by omega) (by omega)
        exact Or.inr ⟨q, h1, h1, ⟨by omega, by omega⟩, h2⟩

-- figureAt
set_option maxHeartbeats 4000000 in
set_option maxRecDepth 100000 in
theorem c_X0_figureAt (l : Launch) (D : va_G) (cy : Nat → ClassId) {N : Nat} {sh : MS} {ad : Nat → Nat} {M L : MI} {R : MR} (hS : Std N sh R) (a : Int) (ha : inR a) (q : Nat) (hq : ActOk M R sh N q) : Ctr l D cy yX0_figureAt wsX0_figureAt ({ frames := 0, cells := 0, slots := 0, locals := 0 } : Room) N sh ad M L R [.ref (ad q), .int (iz a)] (pR N sh ad M L R (fun v => (v = none ∧ ¬ (0 ≤ a ∧ a < M q 7)) ∨ ∃ g : Nat, v = some g ∧ (∃ f : Nat, R q 6 = some f ∧ R f a = some g) ∧ (0 ≤ a ∧ a < M q 7) ∧ FigOk M sh N g)) := by
  refine Ctr.ofR (by decide) rfl (Nat.le_of_ble_eq_true rfl) ?_
  intro K hKl hKd hRm hnm X hret
  have X : VX K cX0_figureAt 2 wsX0_figureAt RX0 := X
  show V K 2 0 0 N sh ad M L R [(0, .ref (ad q)), (1, .int (iz a))] [] 0
  obtain ⟨hq1, hq2, hq3, hq4, hq5, f, hf1, hf2, hf3, hf4, hf5⟩ := hq
  refine v_iload_n X 1 dX0_figureAt_0 rfl rfl ?_
  refine v_if_lt X 27 dX0_figureAt_1 (by decide) ⟨by omega, by omega⟩ (fun u1 => ?_) (fun u1 => ?_)
  · skip
    refine v_null X dX0_figureAt_27 ?_
    refine hret _ _ _ _ _ _ _ _ _ _ _ (some (va_rf none)) dX0_figureAt_28 ⟨rfl, _, rfl⟩ (by decide) (by decide) (fun hmok => ?_)
    refine ⟨rfl, rfl, rfl, rfl, rfl, rfl, none, rfl, ?_⟩
    try dsimp only
    exact Or.inl ⟨rfl, by omega⟩
  · skip
    refine v_iload_n X 1 dX0_figureAt_4 rfl rfl ?_
    refine v_aload_n X 0 dX0_figureAt_5 rfl rfl ?_
    refine gt_X0_size X iwX0 hq2 hq3 (List.mem_cons_of_mem _ bw_23_11) dX0_figureAt_6 (M q 7) rfl (fun hr2 => ?_)
    refine v_icmp_ge X 27 dX0_figureAt_9 (by decide) ⟨by omega, by omega⟩ ⟨by omega, by omega⟩ (fun u3 => ?_) (fun u3 => ?_)
    · skip
      refine v_null X dX0_figureAt_27 ?_
      refine hret _ _ _ _ _ _ _ _ _ _ _ (some (va_rf none)) dX0_figureAt_28 ⟨rfl, _, rfl⟩ (by decide) (by decide) (fun hmok => ?_)
      refine ⟨rfl, rfl, rfl, rfl, rfl, rfl, none, rfl, ?_⟩
      try dsimp only
      exact Or.inl ⟨rfl, by omega⟩
    · skip
      refine v_iload_n X 1 dX0_figureAt_12 rfl rfl ?_
      refine v_bipush X dX0_figureAt_13 (by decide) ?_
      refine v_icmp_ge X 27 dX0_figureAt_15 (by decide) ⟨by omega, by omega⟩ ⟨by decide, by decide⟩ (fun u4 => ?_) (fun u4 => ?_)
      · skip
        refine v_null X dX0_figureAt_27 ?_
        refine hret _ _ _ _ _ _ _ _ _ _ _ (some (va_rf none)) dX0_figureAt_28 ⟨rfl, _, rfl⟩ (by decide) (by decide) (fun hmok => ?_)
        refine ⟨rfl, rfl, rfl, rfl, rfl, rfl, none, rfl, ?_⟩
        try dsimp only
        exact Or.inl ⟨rfl, by omega⟩
      · skip
        refine v_aload_n X 0 dX0_figureAt_18 rfl rfl ?_
        refine gt_X0_figures X iwX0 hq2 hq3 (List.mem_cons_of_mem _ bw_23_4) dX0_figureAt_19 f hf1 ?_
        refine v_iload_n X 1 dX0_figureAt_22 rfl rfl ?_
        refine v_aald18 X (R f a) hf3 hf4 (by omega) (by omega) dX0_figureAt_23 rfl ?_
        refine v_goto X 28 dX0_figureAt_24 (by decide) ?_
        refine hret _ _ _ _ _ _ _ _ _ _ _ (some (va_rf (Option.map ad (R f a)))) dX0_figureAt_28 ⟨rfl, _, rfl⟩ (by decide) (by decide) (fun hmok => ?_)
        refine ⟨rfl, rfl, rfl, rfl, rfl, rfl, (R f a), rfl, ?_⟩
        try dsimp only
        obtain ⟨g, h1, h2⟩ := hf5 a (by omega) (by omega)
        exact Or.inr ⟨g, h1, ⟨f, hf1, h1⟩, ⟨by omega, by omega⟩, h2⟩

-- refuses
set_option maxHeartbeats 4000000 in
set_option maxRecDepth 100000 in
theorem c_X7_refuses (l : Launch) (D : va_G) (cy : Nat → ClassId) {N : Nat} {sh : MS} {ad : Nat → Nat} {M L : MI} {R : MR} (hS : Std N sh R) (g : Nat) (hO : ShowOk M R sh N) (hg : FigOk M sh N g) : Ctr l D cy yX7_refuses wsX7_refuses ({ frames := 0, cells := 0, slots := 0, locals := 0 } : Room) N sh ad M L R [.ref (ad 6), .ref (ad g)] (pB N sh ad M L R (M 6 5 ≤ cFar M g)) := by
  refine Ctr.ofZ (by decide) rfl (Nat.le_of_ble_eq_true rfl) ?_
  intro K hKl hKd hRm hnm X hret
  have X : VX K cX7_refuses 4 wsX7_refuses RX7 := X
  show V K 4 0 0 N sh ad M L R [(0, .ref (ad 6)), (1, .ref (ad g))] [] 0
  have b1 := hg.2.2.2.2.1
  have b2 := hg.2.2.2.2.2.1
  have b3 := hO.2.2.2.2.1 (M g 2)
  have b4 := hO.2.2.1
  have b5 := hO.2.2.2.1
  refine v_aload_n X 0 dX7_refuses_0 rfl rfl ?_
  refine gt_X7_fallsMissing X iwX7 (Std.lt hS rfl) (Std.k hS rfl rfl) (List.mem_cons_of_mem _ bw_4_17) dX7_refuses_1 (M 6 3) rfl (fun hr1 => ?_)
  refine v_if_ne X 27 dX7_refuses_4 (by decide) ⟨by omega, by omega⟩ (fun u2 => ?_) (fun u2 => ?_)
  · skip
    refine v_iconst X dX7_refuses_27 ?_
    refine v_istore_n X [(2, .int (iz 0)), (0, .ref (ad 6)), (1, .ref (ad g))] dX7_refuses_28 rfl (by decide) rfl ?_
    refine v_iload_n X 0 dX7_refuses_29 rfl rfl ?_
    refine v_if_eq X 45 dX7_refuses_30 (by decide) ⟨by decide, by decide⟩ (fun _ => ?_) (fun q => absurd (by decide) q)
    refine v_bipush X dX7_refuses_45 (by decide) ?_
    refine v_istore_n X [(3, .int (iz 20)), (2, .int (iz 0)), (0, .ref (ad 6)), (1, .ref (ad g))] dX7_refuses_47 rfl (by decide) rfl ?_
    refine v_aload_n X 3 dX7_refuses_48 rfl rfl ?_
    refine gt_X2_speed X iwX2 hg.2.1 hg.2.2.1 (List.mem_cons_of_mem _ bw_29_13) dX7_refuses_49 (M g 1) rfl (fun hr3 => ?_)
    refine v_iload_n X 0 dX7_refuses_52 rfl rfl ?_
    refine v_imul X dX7_refuses_53 ?_
    refine v_bipush X dX7_refuses_54 (by decide) ?_
    have hp := mul_b (a := (M g 1)) (b := 20) (by omega) (by omega)
    refine v_idiv X (((M g 1) * 20) / 10) dX7_refuses_56 (by decide) (iz_div (d := 10) (by omega) (by omega) (by decide) (by decide)) ?_
    refine v_aload_n X 2 dX7_refuses_57 rfl rfl ?_
    refine gt_X7_wind X iwX7 (Std.lt hS rfl) (Std.k hS rfl rfl) (List.mem_cons_of_mem _ bw_4_18) dX7_refuses_58 (M 6 4) rfl (fun hr4 => ?_)
    refine v_iadd X dX7_refuses_61 ?_
    refine v_aload_n X 2 dX7_refuses_62 rfl rfl ?_
    refine gt_X7_line X iwX7 (Std.lt hS rfl) (Std.k hS rfl rfl) (List.mem_cons_of_mem _ bw_4_19) dX7_refuses_63 (M 6 5) rfl (fun hr5 => ?_)
    refine v_icmp_lt X 73 dX7_refuses_66 (by decide) ⟨by omega, by omega⟩ ⟨by omega, by omega⟩ (fun u6 => ?_) (fun u6 => ?_)
    · skip
      refine v_iconst X dX7_refuses_73 ?_
      refine hret _ _ _ _ _ _ _ _ _ _ _ (some (.int (iz 0))) dX7_refuses_74 ⟨rfl, 0, ⟨by omega, by omega⟩, rfl⟩ (by decide) (by decide) (fun hmok => ?_)
      refine ⟨rfl, rfl, rfl, rfl, rfl, rfl, 0, rfl, Or.inr ⟨rfl, ?_⟩⟩
      unfold cFar
      rw [if_neg (by omega)]
      omega
    · skip
      refine v_iconst X dX7_refuses_69 ?_
      refine v_goto X 74 dX7_refuses_70 (by decide) ?_
      refine hret _ _ _ _ _ _ _ _ _ _ _ (some (.int (iz 1))) dX7_refuses_74 ⟨rfl, 1, ⟨by omega, by omega⟩, rfl⟩ (by decide) (by decide) (fun hmok => ?_)
      refine ⟨rfl, rfl, rfl, rfl, rfl, rfl, 1, rfl, Or.inl ⟨rfl, ?_⟩⟩
      unfold cFar
      rw [if_neg (by omega)]
      omega
  · skip
    refine v_aload_n X 1 dX7_refuses_7 rfl rfl ?_
    refine gt_X2_height X iwX2 hg.2.1 hg.2.2.1 (List.mem_cons_of_mem _ bw_29_12) dX7_refuses_8 (M g 2) rfl (fun hr7 => ?_)
    refine v_if_lt X 27 dX7_refuses_11 (by decide) ⟨by omega, by omega⟩ (fun q => absurd q (by omega)) (fun u8 => ?_)
    refine v_aload_n X 1 dX7_refuses_14 rfl rfl ?_
    refine gt_X2_height X iwX2 hg.2.1 hg.2.2.1 (List.mem_cons_of_mem _ bw_29_12) dX7_refuses_15 (M g 2) rfl (fun hr9 => ?_)
    refine v_bipush X dX7_refuses_18 (by decide) ?_
    refine v_icmp_ge X 27 dX7_refuses_20 (by decide) ⟨by omega, by omega⟩ ⟨by decide, by decide⟩ (fun q => absurd q (by omega)) (fun u10 => ?_)
    refine v_iconst X dX7_refuses_23 ?_
    refine v_goto X 28 dX7_refuses_24 (by decide) ?_
    refine v_istore_n X [(2, .int (iz 1)), (0, .ref (ad 6)), (1, .ref (ad g))] dX7_refuses_28 rfl (by decide) rfl ?_
    refine v_iload_n X 0 dX7_refuses_29 rfl rfl ?_
    refine v_if_eq X 45 dX7_refuses_30 (by decide) ⟨by decide, by decide⟩ (fun q => absurd q (by decide)) (fun _ => ?_)
    refine v_aload_n X 1 dX7_refuses_33 rfl rfl ?_
    refine gt_X7_falls X iwX7 (Std.lt hS rfl) (Std.k hS rfl rfl) (List.mem_cons_of_mem _ bw_4_15) dX7_refuses_34 8 (Std.r hS 2 rfl) ?_
    refine v_aload_n X 2 dX7_refuses_37 rfl rfl ?_
    refine gt_X2_height X iwX2 hg.2.1 hg.2.2.1 (List.mem_cons_of_mem _ bw_29_12) dX7_refuses_38 (M g 2) rfl (fun hr11 => ?_)
    refine v_iald X (M 8 (M g 2)) (Std.lt hS rfl) (Std.at hS rfl rfl) (by omega) (by omega) dX7_refuses_41 rfl (fun hr12 => ?_)
    refine v_goto X 47 dX7_refuses_42 (by decide) ?_
    refine v_istore_n X [(3, .int (iz (M 8 (M g 2)))), (2, .int (iz 1)), (0, .ref (ad 6)), (1, .ref (ad g))] dX7_refuses_47 rfl (by decide) rfl ?_
    refine v_aload_n X 3 dX7_refuses_48 rfl rfl ?_
    refine gt_X2_speed X iwX2 hg.2.1 hg.2.2.1 (List.mem_cons_of_mem _ bw_29_13) dX7_refuses_49 (M g 1) rfl (fun hr13 => ?_)
    refine v_iload_n X 0 dX7_refuses_52 rfl rfl ?_
    refine v_imul X dX7_refuses_53 ?_
    refine v_bipush X dX7_refuses_54 (by decide) ?_
    have hp := mul_b (a := (M g 1)) (b := (M 8 (M g 2))) (by omega) (by omega)
    refine v_idiv X (((M g 1) * (M 8 (M g 2))) / 10) dX7_refuses_56 (by decide) (iz_div (d := 10) (by omega) (by omega) (by decide) (by decide)) ?_
    refine v_aload_n X 2 dX7_refuses_57 rfl rfl ?_
    refine gt_X7_wind X iwX7 (Std.lt hS rfl) (Std.k hS rfl rfl) (List.mem_cons_of_mem _ bw_4_18) dX7_refuses_58 (M 6 4) rfl (fun hr14 => ?_)
    refine v_iadd X dX7_refuses_61 ?_
    refine v_aload_n X 2 dX7_refuses_62 rfl rfl ?_
    refine gt_X7_line X iwX7 (Std.lt hS rfl) (Std.k hS rfl rfl) (List.mem_cons_of_mem _ bw_4_19) dX7_refuses_63 (M 6 5) rfl (fun hr15 => ?_)
    refine v_icmp_lt X 73 dX7_refuses_66 (by decide) ⟨by omega, by omega⟩ ⟨by omega, by omega⟩ (fun u16 => ?_) (fun u16 => ?_)
    · skip
      refine v_iconst X dX7_refuses_73 ?_
      refine hret _ _ _ _ _ _ _ _ _ _ _ (some (.int (iz 0))) dX7_refuses_74 ⟨rfl, 0, ⟨by omega, by omega⟩, rfl⟩ (by decide) (by decide) (fun hmok => ?_)
      refine ⟨rfl, rfl, rfl, rfl, rfl, rfl, 0, rfl, Or.inr ⟨rfl, ?_⟩⟩
      unfold cFar
      rw [if_pos (by omega)]
      omega
    · skip
      refine v_iconst X dX7_refuses_69 ?_
      refine v_goto X 74 dX7_refuses_70 (by decide) ?_
      refine hret _ _ _ _ _ _ _ _ _ _ _ (some (.int (iz 1))) dX7_refuses_74 ⟨rfl, 1, ⟨by omega, by omega⟩, rfl⟩ (by decide) (by decide) (fun hmok => ?_)
      refine ⟨rfl, rfl, rfl, rfl, rfl, rfl, 1, rfl, Or.inl ⟨rfl, ?_⟩⟩
      unfold cFar
      rw [if_pos (by omega)]
      omega

