/-! NEW CELLS: the class's act and figure -/
theorem Std_up {N : Nat} {sh : MS} {R : MR} (h : Std N sh R) (x : Nat × Nat) (f : Int → Option Nat) : Std (N + 1) (va_up sh N x) (mrow R N f) := by
  have h1 := h.1
  refine ⟨by omega, fun i hi => ?_, fun i k j e => ?_⟩
  · rw [va_up_ne _ _ (by omega)]; exact h.2.1 i hi
  · have hi : i < 112 := by
      rcases Nat.lt_or_ge i 112 with c | c
      · exact c
      · exfalso
        unfold rr0 at e
        rw [List.getD_eq_getElem?_getD (l := rr0l), List.getElem?_eq_none (by show rr0l.length ≤ i; exact Nat.le_trans (by decide) c)] at e
        simp at e
    rw [mrow_i _ _ (by omega)]
    exact h.2.2 i k j e
theorem rr0_big {i k : Nat} (h : 112 ≤ i) : rr0 i k = none := by
  unfold rr0
  rw [List.getD_eq_getElem?_getD (l := rr0l), List.getElem?_eq_none (by show rr0l.length ≤ i; exact Nat.le_trans (by decide) h)]
  simp
theorem Std_mu {N : Nat} {sh : MS} {R : MR} {i : Nat} {z : Int} {v : Option Nat} (h : Std N sh R) (hi : 112 ≤ i ∨ i = 7) : Std N sh (mu R i z v) := by
  refine ⟨h.1, h.2.1, fun j k q e => ?_⟩
  by_cases c : j = i
  · exfalso
    subst c
    rcases hi with hi | hi
    · rw [rr0_big hi] at e; cases e
    · subst hi
      have : rr0 7 k = none := rfl
      rw [this] at e
      cases e
  · rw [mu_i _ _ _ c]
    exact h.2.2 j k q e

-- Figure.<init>
set_option maxHeartbeats 4000000 in
set_option maxRecDepth 100000 in
theorem c_X2_init (l : Launch) (D : va_G) (cy : Nat → ClassId) {N : Nat} {sh : MS} {ad : Nat → Nat} {M L : MI} {R : MR} (g : Nat) (hg : g < N) (hk : (sh g).1 = 2) (m s h b : Int) (hm : inR m) (hs : inR s) (hh : inR h) (hb : 0 ≤ b ∧ b < 2) : Ctr l D cy yX2_init wsX2_init ({ frames := 1, cells := 0, slots := 0, locals := 12 } : Room) N sh ad M L R [.ref (ad g), .int (iz m), .int (iz s), .int (iz h), .int (iz b)] (eV N sh ad L R (fun M' => M' = (mu (mu (mu (mu M g 0 m) g 1 s) g 2 h) g 3 b))) := by
  refine Ctr.ofV (by decide) rfl (Nat.le_of_ble_eq_true rfl) ?_
  intro K hKl hKd hRm hnm X hret
  have X : VX K cX2_init 5 wsX2_init RX2 := X
  show V K 5 0 0 N sh ad M L R [(0, .ref (ad g)), (1, .int (iz m)), (2, .int (iz s)), (3, .int (iz h)), (4, .int (iz b))] [] 0
  refine v_aload_n X 0 dX2_init_0 rfl rfl ?_
  refine v_objInit X hRm (List.mem_cons_of_mem _ bw_24_12) (List.mem_cons_of_mem _ bw_1_10) (List.mem_cons_of_mem _ bw_1_11) ⟨Nat.le_of_ble_eq_true rfl, Nat.le_of_ble_eq_true rfl⟩ dX2_init_1 ?_
  refine v_aload_n X 0 dX2_init_4 rfl rfl ?_
  refine v_iload_n X 1 dX2_init_5 rfl rfl ?_
  refine pt_X2_minutes X iwX2 hg hk (List.mem_cons_of_mem _ bw_24_13) hnm rfl ⟨by omega, by omega⟩ dX2_init_6 ?_
  refine v_aload_n X 0 dX2_init_9 rfl rfl ?_
  refine v_iload_n X 2 dX2_init_10 rfl rfl ?_
  refine pt_X2_speed X iwX2 hg hk (List.mem_cons_of_mem _ bw_24_14) hnm rfl ⟨by omega, by omega⟩ dX2_init_11 ?_
  refine v_aload_n X 0 dX2_init_14 rfl rfl ?_
  refine v_iload_n X 3 dX2_init_15 rfl rfl ?_
  refine pt_X2_height X iwX2 hg hk (List.mem_cons_of_mem _ bw_24_15) hnm rfl ⟨by omega, by omega⟩ dX2_init_16 ?_
  refine v_aload_n X 0 dX2_init_19 rfl rfl ?_
  refine v_iload X 4 dX2_init_20 rfl ?_
  refine pt_X2_high X iwX2 hg hk (List.mem_cons_of_mem _ bw_24_16) hnm rfl ⟨by omega, by omega⟩ dX2_init_22 ?_
  refine hret _ _ _ _ _ _ _ _ _ _ _ none dX2_init_25 ⟨rfl, rfl⟩ (by decide) (by decide) (fun hmok => ?_)
  refine ⟨rfl, rfl, rfl, rfl, rfl, rfl, ?_⟩
  try dsimp only
  all_goals rfl

-- Act.<init>
set_option maxHeartbeats 4000000 in
set_option maxRecDepth 100000 in
theorem c_X0_init (l : Launch) (D : va_G) (cy : Nat → ClassId) {N : Nat} {sh : MS} {ad : Nat → Nat} {M L : MI} {R : MR} (a : Nat) (ha : a < N) (hk : (sh a).1 = 0) (k p v c h f : Int) (h1 : inR k) (h2 : inR p) (h3 : inR v) (h4 : inR c) (h5 : inR h) (h6 : inR f) : Ctr l D cy yX0_init wsX0_init ({ frames := 1, cells := 1, slots := 6, locals := 12 } : Room) N sh ad M L R [.ref (ad a), .int (iz k), .int (iz p), .int (iz v), .int (iz c), .int (iz h), .int (iz f)] (fun rv N' sh' ad' M' L' R' => rv = none ∧ N' = N + 1 ∧ sh' = va_up sh N (18, 6) ∧ (∀ j : Nat, j < N → ad' j = ad j) ∧ M' = mu (mu (mu (mu (mu (mu (mu (mrow M N (fun _ => 0)) a 0 k) a 1 p) a 2 v) a 3 c) a 4 h) a 5 f) a 7 0 ∧ L' = mrow L N (fun _ => 0) ∧ R' = mu (mrow R N (fun _ => none)) a 6 (some N)) := by
  refine Ctr.ofV (by decide) rfl (Nat.le_of_ble_eq_true rfl) ?_
  intro K hKl hKd hRm hnm X hret
  have X : VX K cX0_init 7 wsX0_init RX0 := X
  show V K 7 0 0 N sh ad M L R [(0, .ref (ad a)), (1, .int (iz k)), (2, .int (iz p)), (3, .int (iz v)), (4, .int (iz c)), (5, .int (iz h)), (6, .int (iz f))] [] 0
  refine v_aload_n X 0 dX0_init_0 rfl rfl ?_
  refine v_objInit X hRm (List.mem_cons_of_mem _ bw_23_2) (List.mem_cons_of_mem _ bw_1_10) (List.mem_cons_of_mem _ bw_1_11) ⟨Nat.le_of_ble_eq_true rfl, Nat.le_of_ble_eq_true rfl⟩ dX0_init_1 ?_
  refine v_aload_n X 0 dX0_init_4 rfl rfl ?_
  refine v_bipush X dX0_init_5 (by decide) ?_
  refine v_newq18 X (n := 6) hRm (List.mem_cons_of_mem _ bw_23_3) (by decide) ⟨Nat.le_of_ble_eq_true rfl, Nat.le_of_ble_eq_true rfl⟩ dX0_init_7 ?_
  intro ad1 had2
  rw [← had2 a ha]
  refine pt_X0_figures X iwX0 (show a < N + 1 by omega) (by rw [va_up_ne _ _ (by omega)]; exact hk) (List.mem_cons_of_mem _ bw_23_4) hnm rfl N (Nat.lt_succ_self N) dX0_init_10 ?_
  refine v_aload_n X 0 dX0_init_13 rfl rfl ?_
  refine v_iload_n X 1 dX0_init_14 rfl rfl ?_
  refine pt_X0_kind X iwX0 (show a < N + 1 by omega) (by rw [va_up_ne _ _ (by omega)]; exact hk) (List.mem_cons_of_mem _ bw_23_5) hnm rfl ⟨by omega, by omega⟩ dX0_init_15 ?_
  refine v_aload_n X 0 dX0_init_18 rfl rfl ?_
  refine v_iload_n X 2 dX0_init_19 rfl rfl ?_
  refine pt_X0_pilot X iwX0 (show a < N + 1 by omega) (by rw [va_up_ne _ _ (by omega)]; exact hk) (List.mem_cons_of_mem _ bw_23_6) hnm rfl ⟨by omega, by omega⟩ dX0_init_20 ?_
  refine v_aload_n X 0 dX0_init_23 rfl rfl ?_
  refine v_iload_n X 3 dX0_init_24 rfl rfl ?_
  refine pt_X0_worth X iwX0 (show a < N + 1 by omega) (by rw [va_up_ne _ _ (by omega)]; exact hk) (List.mem_cons_of_mem _ bw_23_7) hnm rfl ⟨by omega, by omega⟩ dX0_init_25 ?_
  refine v_aload_n X 0 dX0_init_28 rfl rfl ?_
  refine v_iload X 4 dX0_init_29 rfl ?_
  refine pt_X0_climb X iwX0 (show a < N + 1 by omega) (by rw [va_up_ne _ _ (by omega)]; exact hk) (List.mem_cons_of_mem _ bw_23_8) hnm rfl ⟨by omega, by omega⟩ dX0_init_31 ?_
  refine v_aload_n X 0 dX0_init_34 rfl rfl ?_
  refine v_iload X 5 dX0_init_35 rfl ?_
  refine pt_X0_home X iwX0 (show a < N + 1 by omega) (by rw [va_up_ne _ _ (by omega)]; exact hk) (List.mem_cons_of_mem _ bw_23_9) hnm rfl ⟨by omega, by omega⟩ dX0_init_37 ?_
  refine v_aload_n X 0 dX0_init_40 rfl rfl ?_
  refine v_iload X 6 dX0_init_41 rfl ?_
  refine pt_X0_fuel X iwX0 (show a < N + 1 by omega) (by rw [va_up_ne _ _ (by omega)]; exact hk) (List.mem_cons_of_mem _ bw_23_10) hnm rfl ⟨by omega, by omega⟩ dX0_init_43 ?_
  refine v_aload_n X 0 dX0_init_46 rfl rfl ?_
  refine v_iconst X dX0_init_47 ?_
  refine pt_X0_size X iwX0 (show a < N + 1 by omega) (by rw [va_up_ne _ _ (by omega)]; exact hk) (List.mem_cons_of_mem _ bw_23_11) ⟨by decide, by decide⟩ dX0_init_48 ?_
  refine hret _ _ _ _ _ _ _ _ _ _ _ none dX0_init_51 ⟨rfl, rfl⟩ (by decide) (by decide) (fun hmok => ?_)
  exact ⟨rfl, rfl, rfl, had2, rfl, rfl, rfl⟩

-- Show.add
set_option maxHeartbeats 4000000 in
set_option maxRecDepth 100000 in
theorem c_X7_add (l : Launch) (D : va_G) (cy : Nat → ClassId) {N : Nat} {sh : MS} {ad : Nat → Nat} {M L : MI} {R : MR} (hS : Std N sh R) (q : Nat) (hq : q < N) (hk : (sh q).1 = 0) (hz : 0 ≤ M 6 1 ∧ M 6 1 < 6) : Ctr l D cy yX7_add wsX7_add ({ frames := 0, cells := 0, slots := 0, locals := 0 } : Room) N sh ad M L R [.ref (ad 6), .ref (ad q)] (eJ N sh ad L (fun r M' R' => r = M 6 1 ∧ M' = mu M 6 1 (M 6 1 + 1) ∧ R' = mu R 7 (M 6 1) (some q))) := by
  refine Ctr.ofI (by decide) rfl (Nat.le_of_ble_eq_true rfl) ?_
  intro K hKl hKd hRm hnm X hret
  have X : VX K cX7_add 2 wsX7_add RX7 := X
  show V K 2 0 0 N sh ad M L R [(0, .ref (ad 6)), (1, .ref (ad q))] [] 0
  refine v_aload_n X 0 dX7_add_0 rfl rfl ?_
  refine gt_X7_size X iwX7 (Std.lt hS rfl) (Std.k hS rfl rfl) (List.mem_cons_of_mem _ bw_4_16) dX7_add_1 (M 6 1) rfl (fun hr1 => ?_)
  refine v_bipush X dX7_add_4 (by decide) ?_
  refine v_icmp_lt X 11 dX7_add_6 (by decide) ⟨by omega, by omega⟩ ⟨by decide, by decide⟩ (fun u2 => ?_) (fun q => absurd (by omega) q)
  refine v_aload_n X 0 dX7_add_11 rfl rfl ?_
  refine gt_X7_acts X iwX7 (Std.lt hS rfl) (Std.k hS rfl rfl) (List.mem_cons_of_mem _ bw_4_14) dX7_add_12 7 (Std.r hS 0 rfl) ?_
  refine v_aload_n X 0 dX7_add_15 rfl rfl ?_
  refine gt_X7_size X iwX7 (Std.lt hS rfl) (Std.k hS rfl rfl) (List.mem_cons_of_mem _ bw_4_16) dX7_add_16 (M 6 1) rfl (fun hr3 => ?_)
  refine v_aload_n X 1 dX7_add_19 rfl rfl ?_
  refine v_aast17 X (Std.lt hS rfl) (Std.at hS rfl rfl) hq hk (by omega) (by omega) dX7_add_20 ?_
  refine v_aload_n X 0 dX7_add_21 rfl rfl ?_
  refine v_dup X dX7_add_22 rfl ?_
  refine gt_X7_size X iwX7 (Std.lt hS rfl) (Std.k hS rfl rfl) (List.mem_cons_of_mem _ bw_4_16) dX7_add_23 (M 6 1) rfl (fun hr4 => ?_)
  refine v_iconst X dX7_add_26 ?_
  refine v_iadd X dX7_add_27 ?_
  refine pt_X7_size X iwX7 (Std.lt hS rfl) (Std.k hS rfl rfl) (List.mem_cons_of_mem _ bw_4_16) ⟨by omega, by omega⟩ dX7_add_28 ?_
  refine v_aload_n X 0 dX7_add_31 rfl rfl ?_
  refine gt_X7_size X iwX7 (Std.lt hS rfl) (Std.k hS rfl rfl) (List.mem_cons_of_mem _ bw_4_16) dX7_add_32 ((M 6 1) + 1) rfl (fun hr5 => ?_)
  refine v_iconst X dX7_add_35 ?_
  refine v_isub X dX7_add_36 ?_
  refine hret _ _ _ _ _ _ _ _ _ _ _ (some (.int (iz (((M 6 1) + 1) - 1)))) dX7_add_37 ⟨rfl, _, rfl⟩ (by decide) (by decide) (fun hmok => ?_)
  exact ⟨rfl, rfl, rfl, rfl, (((M 6 1) + 1) - 1), rfl, ⟨by omega, by omega⟩, by omega, rfl, rfl⟩

-- Act.add
set_option maxHeartbeats 4000000 in
set_option maxRecDepth 100000 in
theorem c_X0_add (l : Launch) (D : va_G) (cy : Nat → ClassId) {N : Nat} {sh : MS} {ad : Nat → Nat} {M L : MI} {R : MR} (q g f : Nat) (hq : 112 ≤ q ∧ q < N) (hqk : (sh q).1 = 0) (hR : R q 6 = some f) (hf : f < N) (hfk : sh f = (18, 6)) (hg : g < N) (hgk : (sh g).1 = 2) (hz : 0 ≤ M q 7 ∧ M q 7 < 6) : Ctr l D cy yX0_add wsX0_add ({ frames := 0, cells := 0, slots := 0, locals := 0 } : Room) N sh ad M L R [.ref (ad q), .ref (ad g)] (eJ N sh ad L (fun r M' R' => r = M q 7 ∧ M' = mu M q 7 (M q 7 + 1) ∧ R' = mu R f (M q 7) (some g))) := by
  refine Ctr.ofI (by decide) rfl (Nat.le_of_ble_eq_true rfl) ?_
  intro K hKl hKd hRm hnm X hret
  have X : VX K cX0_add 2 wsX0_add RX0 := X
  show V K 2 0 0 N sh ad M L R [(0, .ref (ad q)), (1, .ref (ad g))] [] 0
  refine v_aload_n X 0 dX0_add_0 rfl rfl ?_
  refine gt_X0_size X iwX0 hq.2 hqk (List.mem_cons_of_mem _ bw_23_11) dX0_add_1 (M q 7) rfl (fun hr1 => ?_)
  refine v_bipush X dX0_add_4 (by decide) ?_
  refine v_icmp_lt X 11 dX0_add_6 (by decide) ⟨by omega, by omega⟩ ⟨by decide, by decide⟩ (fun u2 => ?_) (fun q => absurd (by omega) q)
  refine v_aload_n X 0 dX0_add_11 rfl rfl ?_
  refine gt_X0_figures X iwX0 hq.2 hqk (List.mem_cons_of_mem _ bw_23_4) dX0_add_12 f hR ?_
  refine v_aload_n X 0 dX0_add_15 rfl rfl ?_
  refine gt_X0_size X iwX0 hq.2 hqk (List.mem_cons_of_mem _ bw_23_11) dX0_add_16 (M q 7) rfl (fun hr3 => ?_)
  refine v_aload_n X 1 dX0_add_19 rfl rfl ?_
  refine v_aast18 X hf hfk hg hgk (by omega) (by omega) dX0_add_20 ?_
  refine v_aload_n X 0 dX0_add_21 rfl rfl ?_
  refine v_dup X dX0_add_22 rfl ?_
  refine gt_X0_size X iwX0 hq.2 hqk (List.mem_cons_of_mem _ bw_23_11) dX0_add_23 (M q 7) rfl (fun hr4 => ?_)
  refine v_iconst X dX0_add_26 ?_
  refine v_iadd X dX0_add_27 ?_
  refine pt_X0_size X iwX0 hq.2 hqk (List.mem_cons_of_mem _ bw_23_11) ⟨by omega, by omega⟩ dX0_add_28 ?_
  refine v_aload_n X 0 dX0_add_31 rfl rfl ?_
  refine gt_X0_size X iwX0 hq.2 hqk (List.mem_cons_of_mem _ bw_23_11) dX0_add_32 ((M q 7) + 1) (by rw [mu_s]) (fun hr5 => ?_)
  refine v_iconst X dX0_add_35 ?_
  refine v_isub X dX0_add_36 ?_
  refine hret _ _ _ _ _ _ _ _ _ _ _ (some (.int (iz (((M q 7) + 1) - 1)))) dX0_add_37 ⟨rfl, _, rfl⟩ (by decide) (by decide) (fun hmok => ?_)
  exact ⟨rfl, rfl, rfl, rfl, (((M q 7) + 1) - 1), rfl, ⟨by omega, by omega⟩, by omega, rfl, rfl⟩

-- act
set_option maxHeartbeats 4000000 in
set_option maxRecDepth 100000 in
theorem c_X11_act (l : Launch) (D : va_G) (cy : Nat → ClassId) {N : Nat} {sh : MS} {ad : Nat → Nat} {M L : MI} {R : MR} (hS : Std N sh R) (k : Int) (p : Int) (v : Int) (c : Int) (h : Int) (f : Int) (hk : inR k) (hp : inR p) (hv : inR v) (hc : inR c) (hh : inR h) (hf : inR f) (hz : 0 ≤ M 6 1 ∧ M 6 1 ≤ 6) : Ctr l D cy yX11_act wsX11_act ({ frames := 2, cells := 2, slots := 14, locals := 38 } : Room) N sh ad M L R [.ref (ad 0), .int (iz k), .int (iz p), .int (iz v), .int (iz c), .int (iz h), .int (iz f)] (fun rv N' sh' ad' M' L' R' => ∃ r : Int, rv = some (.int (iz r)) ∧ inR r ∧ (((0 ≤ k ∧ k ≤ 3 ∧ 0 ≤ p ∧ p ≤ 7 ∧ 0 ≤ v ∧ v ≤ 100 ∧ 1 ≤ c ∧ c ≤ 20 ∧ 1 ≤ h ∧ h ≤ 20 ∧ 1 ≤ f ∧ f ≤ 120 ∧ M 6 1 < 6) ∧ r = M 6 1 ∧ N' = N + 2 ∧ sh' = va_up (va_up sh N (0, 0)) (N + 1) (18, 6) ∧ (∀ j : Nat, j < N → ad' j = ad j) ∧ M' = (mu (mu (mu (mu (mu (mu (mu (mu (mrow (mrow M N (fun _ => 0)) (N + 1) (fun _ => 0)) N 0 k) N 1 p) N 2 v) N 3 c) N 4 h) N 5 f) N 7 0) 6 1 (M 6 1 + 1)) ∧ L' = mrow (mrow L N (fun _ => 0)) (N + 1) (fun _ => 0) ∧ R' = mu (mu (mrow (mrow R N (fun _ => none)) (N + 1) (fun _ => none)) N 6 (some (N + 1))) 7 (M 6 1) (some N)) ∨ (¬ (0 ≤ k ∧ k ≤ 3 ∧ 0 ≤ p ∧ p ≤ 7 ∧ 0 ≤ v ∧ v ≤ 100 ∧ 1 ≤ c ∧ c ≤ 20 ∧ 1 ≤ h ∧ h ≤ 20 ∧ 1 ≤ f ∧ f ≤ 120 ∧ M 6 1 < 6) ∧ r = -1 ∧ N' = N ∧ sh' = sh ∧ ad' = ad ∧ M' = M ∧ L' = L ∧ R' = R))) := by
  refine Ctr.ofI (by decide) rfl (Nat.le_of_ble_eq_true rfl) ?_
  intro K hKl hKd hRm hnm X hret
  have X : VX K cX11_act 9 wsX11_act RX11 := X
  show V K 9 0 0 N sh ad M L R [(0, .ref (ad 0)), (1, .int (iz k)), (2, .int (iz p)), (3, .int (iz v)), (4, .int (iz c)), (5, .int (iz h)), (6, .int (iz f))] [] 0
  refine v_iload_n X 1 dX11_act_0 rfl rfl ?_
  refine v_iconst X dX11_act_1 ?_
  refine v_iconst X dX11_act_2 ?_
  refine v_callS X [.int (iz k), .int (iz 0), .int (iz 3)] hRm (c_X11_isWithin _ _ _ k 0 3 ⟨by omega, by omega⟩ ⟨by omega, by omega⟩ ⟨by omega, by omega⟩) (gS bw_11_13 bw_11_14 bw_1_2 bw_11_15) rfl ddX11_isWithin (by decide) (Nat.le_of_ble_eq_true rfl) dX11_act_3 (k_pB (fun b1 => ?_) (fun b1 => ?_))
  · skip
    refine v_if_eq X 33 dX11_act_6 (by decide) ⟨by decide, by decide⟩ (fun q => absurd q (by decide)) (fun _ => ?_)
    refine v_iload_n X 2 dX11_act_9 rfl rfl ?_
    refine v_iconst X dX11_act_10 ?_
    refine v_bipush X dX11_act_11 (by decide) ?_
    refine v_callS X [.int (iz p), .int (iz 0), .int (iz 7)] hRm (c_X11_isWithin _ _ _ p 0 7 ⟨by omega, by omega⟩ ⟨by omega, by omega⟩ ⟨by omega, by omega⟩) (gS bw_11_13 bw_11_14 bw_1_2 bw_11_15) rfl ddX11_isWithin (by decide) (Nat.le_of_ble_eq_true rfl) dX11_act_13 (k_pB (fun b2 => ?_) (fun b2 => ?_))
    · skip
      refine v_if_eq X 33 dX11_act_16 (by decide) ⟨by decide, by decide⟩ (fun q => absurd q (by decide)) (fun _ => ?_)
      refine v_iload_n X 3 dX11_act_19 rfl rfl ?_
      refine v_iconst X dX11_act_20 ?_
      refine v_bipush X dX11_act_21 (by decide) ?_
      refine v_callS X [.int (iz v), .int (iz 0), .int (iz 100)] hRm (c_X11_isWithin _ _ _ v 0 100 ⟨by omega, by omega⟩ ⟨by omega, by omega⟩ ⟨by omega, by omega⟩) (gS bw_11_13 bw_11_14 bw_1_2 bw_11_15) rfl ddX11_isWithin (by decide) (Nat.le_of_ble_eq_true rfl) dX11_act_23 (k_pB (fun b3 => ?_) (fun b3 => ?_))
      · skip
        refine v_if_eq X 33 dX11_act_26 (by decide) ⟨by decide, by decide⟩ (fun q => absurd q (by decide)) (fun _ => ?_)
        refine v_iconst X dX11_act_29 ?_
        refine v_goto X 34 dX11_act_30 (by decide) ?_
        refine v_istore X [(7, .int (iz 1)), (0, .ref (ad 0)), (1, .int (iz k)), (2, .int (iz p)), (3, .int (iz v)), (4, .int (iz c)), (5, .int (iz h)), (6, .int (iz f))] dX11_act_34 (by decide) rfl ?_
        refine v_iload X 5 dX11_act_36 rfl ?_
        refine v_iconst X dX11_act_38 ?_
        refine v_bipush X dX11_act_39 (by decide) ?_
        refine v_callS X [.int (iz c), .int (iz 1), .int (iz 20)] hRm (c_X11_isWithin _ _ _ c 1 20 ⟨by omega, by omega⟩ ⟨by omega, by omega⟩ ⟨by omega, by omega⟩) (gS bw_11_13 bw_11_14 bw_1_2 bw_11_15) rfl ddX11_isWithin (by decide) (Nat.le_of_ble_eq_true rfl) dX11_act_41 (k_pB (fun b4 => ?_) (fun b4 => ?_))
        · skip
          refine v_if_eq X 73 dX11_act_44 (by decide) ⟨by decide, by decide⟩ (fun q => absurd q (by decide)) (fun _ => ?_)
          refine v_iload X 6 dX11_act_47 rfl ?_
          refine v_iconst X dX11_act_49 ?_
          refine v_bipush X dX11_act_50 (by decide) ?_
          refine v_callS X [.int (iz h), .int (iz 1), .int (iz 20)] hRm (c_X11_isWithin _ _ _ h 1 20 ⟨by omega, by omega⟩ ⟨by omega, by omega⟩ ⟨by omega, by omega⟩) (gS bw_11_13 bw_11_14 bw_1_2 bw_11_15) rfl ddX11_isWithin (by decide) (Nat.le_of_ble_eq_true rfl) dX11_act_52 (k_pB (fun b5 => ?_) (fun b5 => ?_))
          · skip
            refine v_if_eq X 73 dX11_act_55 (by decide) ⟨by decide, by decide⟩ (fun q => absurd q (by decide)) (fun _ => ?_)
            refine v_iload X 7 dX11_act_58 rfl ?_
            refine v_iconst X dX11_act_60 ?_
            refine v_bipush X dX11_act_61 (by decide) ?_
            refine v_callS X [.int (iz f), .int (iz 1), .int (iz 120)] hRm (c_X11_isWithin _ _ _ f 1 120 ⟨by omega, by omega⟩ ⟨by omega, by omega⟩ ⟨by omega, by omega⟩) (gS bw_11_13 bw_11_14 bw_1_2 bw_11_15) rfl ddX11_isWithin (by decide) (Nat.le_of_ble_eq_true rfl) dX11_act_63 (k_pB (fun b6 => ?_) (fun b6 => ?_))
            · skip
              refine v_if_eq X 73 dX11_act_66 (by decide) ⟨by decide, by decide⟩ (fun q => absurd q (by decide)) (fun _ => ?_)
              refine v_iconst X dX11_act_69 ?_
              refine v_goto X 74 dX11_act_70 (by decide) ?_
              refine v_istore X [(8, .int (iz 1)), (7, .int (iz 1)), (0, .ref (ad 0)), (1, .int (iz k)), (2, .int (iz p)), (3, .int (iz v)), (4, .int (iz c)), (5, .int (iz h)), (6, .int (iz f))] dX11_act_74 (by decide) rfl ?_
              refine v_iload X 1 dX11_act_76 rfl ?_
              refine v_if_eq X 98 dX11_act_78 (by decide) ⟨by decide, by decide⟩ (fun q => absurd q (by decide)) (fun _ => ?_)
              refine v_iload X 0 dX11_act_81 rfl ?_
              refine v_if_eq X 98 dX11_act_83 (by decide) ⟨by decide, by decide⟩ (fun q => absurd q (by decide)) (fun _ => ?_)
              refine v_aload_n X 2 dX11_act_86 rfl rfl ?_
              refine gt_X11_show X iwX11 (Std.lt hS rfl) (Std.k hS rfl rfl) (List.mem_cons_of_mem _ bw_1_23) dX11_act_87 6 (Std.r hS 2 rfl) ?_
              refine gt_X7_size X iwX7 (Std.lt hS rfl) (Std.k hS rfl rfl) (List.mem_cons_of_mem _ bw_22_19) dX11_act_90 (M 6 1) rfl (fun hr7 => ?_)
              refine v_bipush X dX11_act_93 (by decide) ?_
              refine v_icmp_lt X 100 dX11_act_95 (by decide) ⟨by omega, by omega⟩ ⟨by decide, by decide⟩ (fun u8 => ?_) (fun u8 => ?_)
              · skip
                refine v_aload_n X 2 dX11_act_100 rfl rfl ?_
                refine gt_X11_show X iwX11 (Std.lt hS rfl) (Std.k hS rfl rfl) (List.mem_cons_of_mem _ bw_1_23) dX11_act_101 6 (Std.r hS 2 rfl) ?_
                refine v_new X (ci := 0) (n := 8) tyX0 iwX0 tyX0_ok rfl (by decide) (by intro k hk; rcases (show k = 0 ∨ k = 1 ∨ k = 2 ∨ k = 3 ∨ k = 4 ∨ k = 5 ∨ k = 6 ∨ k = 7 by omega) with h | h | h | h | h | h | h | h <;> subst h <;> rfl) hRm (List.mem_cons_of_mem _ bw_22_20) (List.mem_cons_of_mem _ bw_22_21) (List.mem_cons_of_mem _ bw_22_22) ⟨Nat.le_of_ble_eq_true rfl, Nat.le_of_ble_eq_true rfl⟩ dX11_act_104 ?_
                intro ad9 had10
                rw [← had10 0 (Std.lt hS rfl)]
                rw [← had10 6 (Std.lt hS rfl)]
                refine v_dup X dX11_act_107 rfl ?_
                refine v_iload_n X 3 dX11_act_108 rfl rfl ?_
                refine v_iload_n X 4 dX11_act_109 rfl rfl ?_
                refine v_iload_n X 5 dX11_act_110 rfl rfl ?_
                refine v_iload X 6 dX11_act_111 rfl ?_
                refine v_iload X 7 dX11_act_113 rfl ?_
                refine v_iload X 8 dX11_act_115 rfl ?_
                refine v_callI X [.int (iz k), .int (iz p), .int (iz v), .int (iz c), .int (iz h), .int (iz f)] hRm (c_X0_init _ _ _ N (Nat.lt_succ_self N) (by rw [va_up_self]) k p v c h f ⟨by omega, by omega⟩ ⟨by omega, by omega⟩ ⟨by omega, by omega⟩ ⟨by omega, by omega⟩ ⟨by omega, by omega⟩ ⟨by omega, by omega⟩) (gCode bw_23_1) rfl (List.mem_cons_of_mem _ bw_22_22) (List.mem_cons_of_mem _ bw_22_23) (List.mem_cons_of_mem _ bw_23_0) rfl ddX0_init.2 (by decide) (Nat.le_of_ble_eq_true rfl) dX11_act_117 ?_
                rintro _ Nx11 shx12 adx13 Mx14 Lx15 Rx16 ⟨rfl, rfl, rfl, had17, rfl, rfl, rfl⟩
                rw [← had17 0 (by have := hS.1; omega)]
                rw [← had17 N (Nat.lt_succ_self N)]
                rw [← had17 6 (by have := hS.1; omega)]
                have hS2 : Std (N + 1 + 1) (va_up (va_up sh N (0, 0)) (N + 1) (18, 6)) (mu (mrow (mrow R N (fun _ => none)) (N + 1) (fun _ => none)) N 6 (some (N + 1))) := Std_mu (Std_up (Std_up hS _ _) _ _) (Or.inl hS.1)
                have hN9 := hS.1
                have h61 : (mu (mu (mu (mu (mu (mu (mu (mrow (mrow M N (fun _ => 0)) (N + 1) (fun _ => 0)) N 0 k) N 1 p) N 2 v) N 3 c) N 4 h) N 5 f) N 7 0) 6 1 = M 6 1 := by rw [mu_i _ _ _ (by omega), mu_i _ _ _ (by omega), mu_i _ _ _ (by omega), mu_i _ _ _ (by omega), mu_i _ _ _ (by omega), mu_i _ _ _ (by omega), mu_i _ _ _ (by omega), mrow_i _ _ (by omega), mrow_i _ _ (by omega)]
                refine v_callV X [.ref (adx13 N)] hRm (c_X7_add _ _ _ hS2 N (by omega) (by rw [va_up_ne _ _ (by omega), va_up_self]) (show 0 ≤ (mu (mu (mu (mu (mu (mu (mu (mrow (mrow M N (fun _ => 0)) (N + 1) (fun _ => 0)) N 0 k) N 1 p) N 2 v) N 3 c) N 4 h) N 5 f) N 7 0) 6 1 ∧ (mu (mu (mu (mu (mu (mu (mu (mrow (mrow M N (fun _ => 0)) (N + 1) (fun _ => 0)) N 0 k) N 1 p) N 2 v) N 3 c) N 4 h) N 5 f) N 7 0) 6 1 < 6 by rw [h61]; omega)) (gV bw_23_12 bw_23_13 bw_23_14 bw_1_22 bw_23_15) rfl ddX7_add (by decide) (by have := hS.1; omega) (Std.k hS2 rfl rfl) ⟨rfl, by decide⟩ (Nat.le_of_ble_eq_true rfl) dX11_act_120 ?_
                rintro _ _ _ _ Mx9 _ Rx9 ⟨rfl, rfl, rfl, rfl, r19, rfl, hr9, e1, e2, e3⟩
                rw [h61] at e1 e2 e3
                subst e2
                subst e3
                refine hret _ _ _ _ _ _ _ _ _ _ _ (some (.int (iz r19))) dX11_act_123 ⟨rfl, _, rfl⟩ (by decide) (by decide) (fun hmok => ?_)
                refine ⟨r19, rfl, hr9, Or.inl ⟨by omega, e1, rfl, rfl, fun j hj => ?_, rfl, rfl, rfl⟩⟩
                rw [had17 j (by omega), had10 j hj]
              · skip
                refine v_iconst X dX11_act_98 ?_
                refine hret _ _ _ _ _ _ _ _ _ _ _ (some (.int (iz (-1)))) dX11_act_99 ⟨rfl, _, rfl⟩ (by decide) (by decide) (fun hmok => ?_)
                exact ⟨-1, rfl, ⟨by decide, by decide⟩, Or.inr ⟨by omega, rfl, rfl, rfl, rfl, rfl, rfl, rfl⟩⟩
            · skip
              refine v_if_eq X 73 dX11_act_66 (by decide) ⟨by decide, by decide⟩ (fun _ => ?_) (fun q => absurd (by decide) q)
              refine v_iconst X dX11_act_73 ?_
              refine v_istore X [(8, .int (iz 0)), (7, .int (iz 1)), (0, .ref (ad 0)), (1, .int (iz k)), (2, .int (iz p)), (3, .int (iz v)), (4, .int (iz c)), (5, .int (iz h)), (6, .int (iz f))] dX11_act_74 (by decide) rfl ?_
              refine v_iload X 1 dX11_act_76 rfl ?_
              refine v_if_eq X 98 dX11_act_78 (by decide) ⟨by decide, by decide⟩ (fun q => absurd q (by decide)) (fun _ => ?_)
              refine v_iload X 0 dX11_act_81 rfl ?_
              refine v_if_eq X 98 dX11_act_83 (by decide) ⟨by decide, by decide⟩ (fun _ => ?_) (fun q => absurd (by decide) q)
              refine v_iconst X dX11_act_98 ?_
              refine hret _ _ _ _ _ _ _ _ _ _ _ (some (.int (iz (-1)))) dX11_act_99 ⟨rfl, _, rfl⟩ (by decide) (by decide) (fun hmok => ?_)
              exact ⟨-1, rfl, ⟨by decide, by decide⟩, Or.inr ⟨by omega, rfl, rfl, rfl, rfl, rfl, rfl, rfl⟩⟩
          · skip
            refine v_if_eq X 73 dX11_act_55 (by decide) ⟨by decide, by decide⟩ (fun _ => ?_) (fun q => absurd (by decide) q)
            refine v_iconst X dX11_act_73 ?_
            refine v_istore X [(8, .int (iz 0)), (7, .int (iz 1)), (0, .ref (ad 0)), (1, .int (iz k)), (2, .int (iz p)), (3, .int (iz v)), (4, .int (iz c)), (5, .int (iz h)), (6, .int (iz f))] dX11_act_74 (by decide) rfl ?_
            refine v_iload X 1 dX11_act_76 rfl ?_
            refine v_if_eq X 98 dX11_act_78 (by decide) ⟨by decide, by decide⟩ (fun q => absurd q (by decide)) (fun _ => ?_)
            refine v_iload X 0 dX11_act_81 rfl ?_
            refine v_if_eq X 98 dX11_act_83 (by decide) ⟨by decide, by decide⟩ (fun _ => ?_) (fun q => absurd (by decide) q)
            refine v_iconst X dX11_act_98 ?_
            refine hret _ _ _ _ _ _ _ _ _ _ _ (some (.int (iz (-1)))) dX11_act_99 ⟨rfl, _, rfl⟩ (by decide) (by decide) (fun hmok => ?_)
            exact ⟨-1, rfl, ⟨by decide, by decide⟩, Or.inr ⟨by omega, rfl, rfl, rfl, rfl, rfl, rfl, rfl⟩⟩
        · skip
          refine v_if_eq X 73 dX11_act_44 (by decide) ⟨by decide, by decide⟩ (fun _ => ?_) (fun q => absurd (by decide) q)
          refine v_iconst X dX11_act_73 ?_
          refine v_istore X [(8, .int (iz 0)), (7, .int (iz 1)), (0, .ref (ad 0)), (1, .int (iz k)), (2, .int (iz p)), (3, .int (iz v)), (4, .int (iz c)), (5, .int (iz h)), (6, .int (iz f))] dX11_act_74 (by decide) rfl ?_
          refine v_iload X 1 dX11_act_76 rfl ?_
          refine v_if_eq X 98 dX11_act_78 (by decide) ⟨by decide, by decide⟩ (fun q => absurd q (by decide)) (fun _ => ?_)
          refine v_iload X 0 dX11_act_81 rfl ?_
          refine v_if_eq X 98 dX11_act_83 (by decide) ⟨by decide, by decide⟩ (fun _ => ?_) (fun q => absurd (by decide) q)
          refine v_iconst X dX11_act_98 ?_
          refine hret _ _ _ _ _ _ _ _ _ _ _ (some (.int (iz (-1)))) dX11_act_99 ⟨rfl, _, rfl⟩ (by decide) (by decide) (fun hmok => ?_)
          exact ⟨-1, rfl, ⟨by decide, by decide⟩, Or.inr ⟨by omega, rfl, rfl, rfl, rfl, rfl, rfl, rfl⟩⟩
      · skip
        refine v_if_eq X 33 dX11_act_26 (by decide) ⟨by decide, by decide⟩ (fun _ => ?_) (fun q => absurd (by decide) q)
        refine v_iconst X dX11_act_33 ?_
        refine v_istore X [(7, .int (iz 0)), (0, .ref (ad 0)), (1, .int (iz k)), (2, .int (iz p)), (3, .int (iz v)), (4, .int (iz c)), (5, .int (iz h)), (6, .int (iz f))] dX11_act_34 (by decide) rfl ?_
        refine v_iload X 5 dX11_act_36 rfl ?_
        refine v_iconst X dX11_act_38 ?_
        refine v_bipush X dX11_act_39 (by decide) ?_
        refine v_callS X [.int (iz c), .int (iz 1), .int (iz 20)] hRm (c_X11_isWithin _ _ _ c 1 20 ⟨by omega, by omega⟩ ⟨by omega, by omega⟩ ⟨by omega, by omega⟩) (gS bw_11_13 bw_11_14 bw_1_2 bw_11_15) rfl ddX11_isWithin (by decide) (Nat.le_of_ble_eq_true rfl) dX11_act_41 (k_pB (fun b20 => ?_) (fun b20 => ?_))
        · skip
          refine v_if_eq X 73 dX11_act_44 (by decide) ⟨by decide, by decide⟩ (fun q => absurd q (by decide)) (fun _ => ?_)
          refine v_iload X 6 dX11_act_47 rfl ?_
          refine v_iconst X dX11_act_49 ?_
          refine v_bipush X dX11_act_50 (by decide) ?_
          refine v_callS X [.int (iz h), .int (iz 1), .int (iz 20)] hRm (c_X11_isWithin _ _ _ h 1 20 ⟨by omega, by omega⟩ ⟨by omega, by omega⟩ ⟨by omega, by omega⟩) (gS bw_11_13 bw_11_14 bw_1_2 bw_11_15) rfl ddX11_isWithin (by decide) (Nat.le_of_ble_eq_true rfl) dX11_act_52 (k_pB (fun b21 => ?_) (fun b21 => ?_))
          · skip
            refine v_if_eq X 73 dX11_act_55 (by decide) ⟨by decide, by decide⟩ (fun q => absurd q (by decide)) (fun _ => ?_)
            refine v_iload X 7 dX11_act_58 rfl ?_
            refine v_iconst X dX11_act_60 ?_
            refine v_bipush X dX11_act_61 (by decide) ?_
            refine v_callS X [.int (iz f), .int (iz 1), .int (iz 120)] hRm (c_X11_isWithin _ _ _ f 1 120 ⟨by omega, by omega⟩ ⟨by omega, by omega⟩ ⟨by omega, by omega⟩) (gS bw_11_13 bw_11_14 bw_1_2 bw_11_15) rfl ddX11_isWithin (by decide) (Nat.le_of_ble_eq_true rfl) dX11_act_63 (k_pB (fun b22 => ?_) (fun b22 => ?_))
            · skip
              refine v_if_eq X 73 dX11_act_66 (by decide) ⟨by decide, by decide⟩ (fun q => absurd q (by decide)) (fun _ => ?_)
              refine v_iconst X dX11_act_69 ?_
              refine v_goto X 74 dX11_act_70 (by decide) ?_
              refine v_istore X [(8, .int (iz 1)), (7, .int (iz 0)), (0, .ref (ad 0)), (1, .int (iz k)), (2, .int (iz p)), (3, .int (iz v)), (4, .int (iz c)), (5, .int (iz h)), (6, .int (iz f))] dX11_act_74 (by decide) rfl ?_
              refine v_iload X 1 dX11_act_76 rfl ?_
              refine v_if_eq X 98 dX11_act_78 (by decide) ⟨by decide, by decide⟩ (fun _ => ?_) (fun q => absurd (by decide) q)
              refine v_iconst X dX11_act_98 ?_
              refine hret _ _ _ _ _ _ _ _ _ _ _ (some (.int (iz (-1)))) dX11_act_99 ⟨rfl, _, rfl⟩ (by decide) (by decide) (fun hmok => ?_)
              exact ⟨-1, rfl, ⟨by decide, by decide⟩, Or.inr ⟨by omega, rfl, rfl, rfl, rfl, rfl, rfl, rfl⟩⟩
            · skip
              refine v_if_eq X 73 dX11_act_66 (by decide) ⟨by decide, by decide⟩ (fun _ => ?_) (fun q => absurd (by decide) q)
              refine v_iconst X dX11_act_73 ?_
              refine v_istore X [(8, .int (iz 0)), (7, .int (iz 0)), (0, .ref (ad 0)), (1, .int (iz k)), (2, .int (iz p)), (3, .int (iz v)), (4, .int (iz c)), (5, .int (iz h)), (6, .int (iz f))] dX11_act_74 (by decide) rfl ?_
              refine v_iload X 1 dX11_act_76 rfl ?_
              refine v_if_eq X 98 dX11_act_78 (by decide) ⟨by decide, by decide⟩ (fun _ => ?_) (fun q => absurd (by decide) q)
              refine v_iconst X dX11_act_98 ?_
              refine hret _ _ _ _ _ _ _ _ _ _ _ (some (.int (iz (-1)))) dX11_act_99 ⟨rfl, _, rfl⟩ (by decide) (by decide) (fun hmok => ?_)
              exact ⟨-1, rfl, ⟨by decide, by decide⟩, Or.inr ⟨by omega, rfl, rfl, rfl, rfl, rfl, rfl, rfl⟩⟩
          · skip
            refine v_if_eq X 73 dX11_act_55 (by decide) ⟨by decide, by decide⟩ (fun _ => ?_) (fun q => absurd (by decide) q)
            refine v_iconst X dX11_act_73 ?_
            refine v_istore X [(8, .int (iz 0)), (7, .int (iz 0)), (0, .ref (ad 0)), (1, .int (iz k)), (2, .int (iz p)), (3, .int (iz v)), (4, .int (iz c)), (5, .int (iz h)), (6, .int (iz f))] dX11_act_74 (by decide) rfl ?_
            refine v_iload X 1 dX11_act_76 rfl ?_
            refine v_if_eq X 98 dX11_act_78 (by decide) ⟨by decide, by decide⟩ (fun _ => ?_) (fun q => absurd (by decide) q)
            refine v_iconst X dX11_act_98 ?_
            refine hret _ _ _ _ _ _ _ _ _ _ _ (some (.int (iz (-1)))) dX11_act_99 ⟨rfl, _, rfl⟩ (by decide) (by decide) (fun hmok => ?_)
            exact ⟨-1, rfl, ⟨by decide, by decide⟩, Or.inr ⟨by omega, rfl, rfl, rfl, rfl, rfl, rfl, rfl⟩⟩
        · skip
          refine v_if_eq X 73 dX11_act_44 (by decide) ⟨by decide, by decide⟩ (fun _ => ?_) (fun q => absurd (by decide) q)
          refine v_iconst X dX11_act_73 ?_
          refine v_istore X [(8, .int (iz 0)), (7, .int (iz 0)), (0, .ref (ad 0)), (1, .int (iz k)), (2, .int (iz p)), (3, .int (iz v)), (4, .int (iz c)), (5, .int (iz h)), (6, .int (iz f))] dX11_act_74 (by decide) rfl ?_
          refine v_iload X 1 dX11_act_76 rfl ?_
          refine v_if_eq X 98 dX11_act_78 (by decide) ⟨by decide, by decide⟩ (fun _ => ?_) (fun q => absurd (by decide) q)
          refine v_iconst X dX11_act_98 ?_
          refine hret _ _ _ _ _ _ _ _ _ _ _ (some (.int (iz (-1)))) dX11_act_99 ⟨rfl, _, rfl⟩ (by decide) (by decide) (fun hmok => ?_)
          exact ⟨-1, rfl, ⟨by decide, by decide⟩, Or.inr ⟨by omega, rfl, rfl, rfl, rfl, rfl, rfl, rfl⟩⟩
    · skip
      refine v_if_eq X 33 dX11_act_16 (by decide) ⟨by decide, by decide⟩ (fun _ => ?_) (fun q => absurd (by decide) q)
      refine v_iconst X dX11_act_33 ?_
      refine v_istore X [(7, .int (iz 0)), (0, .ref (ad 0)), (1, .int (iz k)), (2, .int (iz p)), (3, .int (iz v)), (4, .int (iz c)), (5, .int (iz h)), (6, .int (iz f))] dX11_act_34 (by decide) rfl ?_
      refine v_iload X 5 dX11_act_36 rfl ?_
      refine v_iconst X dX11_act_38 ?_
      refine v_bipush X dX11_act_39 (by decide) ?_
      refine v_callS X [.int (iz c), .int (iz 1), .int (iz 20)] hRm (c_X11_isWithin _ _ _ c 1 20 ⟨by omega, by omega⟩ ⟨by omega, by omega⟩ ⟨by omega, by omega⟩) (gS bw_11_13 bw_11_14 bw_1_2 bw_11_15) rfl ddX11_isWithin (by decide) (Nat.le_of_ble_eq_true rfl) dX11_act_41 (k_pB (fun b23 => ?_) (fun b23 => ?_))
      · skip
        refine v_if_eq X 73 dX11_act_44 (by decide) ⟨by decide, by decide⟩ (fun q => absurd q (by decide)) (fun _ => ?_)
        refine v_iload X 6 dX11_act_47 rfl ?_
        refine v_iconst X dX11_act_49 ?_
        refine v_bipush X dX11_act_50 (by decide) ?_
        refine v_callS X [.int (iz h), .int (iz 1), .int (iz 20)] hRm (c_X11_isWithin _ _ _ h 1 20 ⟨by omega, by omega⟩ ⟨by omega, by omega⟩ ⟨by omega, by omega⟩) (gS bw_11_13 bw_11_14 bw_1_2 bw_11_15) rfl ddX11_isWithin (by decide) (Nat.le_of_ble_eq_true rfl) dX11_act_52 (k_pB (fun b24 => ?_) (fun b24 => ?_))
        · skip
          refine v_if_eq X 73 dX11_act_55 (by decide) ⟨by decide, by decide⟩ (fun q => absurd q (by decide)) (fun _ => ?_)
          refine v_iload X 7 dX11_act_58 rfl ?_
          refine v_iconst X dX11_act_60 ?_
          refine v_bipush X dX11_act_61 (by decide) ?_
          refine v_callS X [.int (iz f), .int (iz 1), .int (iz 120)] hRm (c_X11_isWithin _ _ _ f 1 120 ⟨by omega, by omega⟩ ⟨by omega, by omega⟩ ⟨by omega, by omega⟩) (gS bw_11_13 bw_11_14 bw_1_2 bw_11_15) rfl ddX11_isWithin (by decide) (Nat.le_of_ble_eq_true rfl) dX11_act_63 (k_pB (fun b25 => ?_) (fun b25 => ?_))
          · skip
            refine v_if_eq X 73 dX11_act_66 (by decide) ⟨by decide, by decide⟩ (fun q => absurd q (by decide)) (fun _ => ?_)
            refine v_iconst X dX11_act_69 ?_
            refine v_goto X 74 dX11_act_70 (by decide) ?_
            refine v_istore X [(8, .int (iz 1)), (7, .int (iz 0)), (0, .ref (ad 0)), (1, .int (iz k)), (2, .int (iz p)), (3, .int (iz v)), (4, .int (iz c)), (5, .int (iz h)), (6, .int (iz f))] dX11_act_74 (by decide) rfl ?_
            refine v_iload X 1 dX11_act_76 rfl ?_
            refine v_if_eq X 98 dX11_act_78 (by decide) ⟨by decide, by decide⟩ (fun _ => ?_) (fun q => absurd (by decide) q)
            refine v_iconst X dX11_act_98 ?_
            refine hret _ _ _ _ _ _ _ _ _ _ _ (some (.int (iz (-1)))) dX11_act_99 ⟨rfl, _, rfl⟩ (by decide) (by decide) (fun hmok => ?_)
            exact ⟨-1, rfl, ⟨by decide, by decide⟩, Or.inr ⟨by omega, rfl, rfl, rfl, rfl, rfl, rfl, rfl⟩⟩
          · skip
            refine v_if_eq X 73 dX11_act_66 (by decide) ⟨by decide, by decide⟩ (fun _ => ?_) (fun q => absurd (by decide) q)
            refine v_iconst X dX11_act_73 ?_
            refine v_istore X [(8, .int (iz 0)), (7, .int (iz 0)), (0, .ref (ad 0)), (1, .int (iz k)), (2, .int (iz p)), (3, .int (iz v)), (4, .int (iz c)), (5, .int (iz h)), (6, .int (iz f))] dX11_act_74 (by decide) rfl ?_
            refine v_iload X 1 dX11_act_76 rfl ?_
            refine v_if_eq X 98 dX11_act_78 (by decide) ⟨by decide, by decide⟩ (fun _ => ?_) (fun q => absurd (by decide) q)
            refine v_iconst X dX11_act_98 ?_
            refine hret _ _ _ _ _ _ _ _ _ _ _ (some (.int (iz (-1)))) dX11_act_99 ⟨rfl, _, rfl⟩ (by decide) (by decide) (fun hmok => ?_)
            exact ⟨-1, rfl, ⟨by decide, by decide⟩, Or.inr ⟨by omega, rfl, rfl, rfl, rfl, rfl, rfl, rfl⟩⟩
        · skip
          refine v_if_eq X 73 dX11_act_55 (by decide) ⟨by decide, by decide⟩ (fun _ => ?_) (fun q => absurd (by decide) q)
          refine v_iconst X dX11_act_73 ?_
          refine v_istore X [(8, .int (iz 0)), (7, .int (iz 0)), (0, .ref (ad 0)), (1, .int (iz k)), (2, .int (iz p)), (3, .int (iz v)), (4, .int (iz c)), (5, .int (iz h)), (6, .int (iz f))] dX11_act_74 (by decide) rfl ?_
          refine v_iload X 1 dX11_act_76 rfl ?_
          refine v_if_eq X 98 dX11_act_78 (by decide) ⟨by decide, by decide⟩ (fun _ => ?_) (fun q => absurd (by decide) q)
          refine v_iconst X dX11_act_98 ?_
          refine hret _ _ _ _ _ _ _ _ _ _ _ (some (.int (iz (-1)))) dX11_act_99 ⟨rfl, _, rfl⟩ (by decide) (by decide) (fun hmok => ?_)
          exact ⟨-1, rfl, ⟨by decide, by decide⟩, Or.inr ⟨by omega, rfl, rfl, rfl, rfl, rfl, rfl, rfl⟩⟩
      · skip
        refine v_if_eq X 73 dX11_act_44 (by decide) ⟨by decide, by decide⟩ (fun _ => ?_) (fun q => absurd (by decide) q)
        refine v_iconst X dX11_act_73 ?_
        refine v_istore X [(8, .int (iz 0)), (7, .int (iz 0)), (0, .ref (ad 0)), (1, .int (iz k)), (2, .int (iz p)), (3, .int (iz v)), (4, .int (iz c)), (5, .int (iz h)), (6, .int (iz f))] dX11_act_74 (by decide) rfl ?_
        refine v_iload X 1 dX11_act_76 rfl ?_
        refine v_if_eq X 98 dX11_act_78 (by decide) ⟨by decide, by decide⟩ (fun _ => ?_) (fun q => absurd (by decide) q)
        refine v_iconst X dX11_act_98 ?_
        refine hret _ _ _ _ _ _ _ _ _ _ _ (some (.int (iz (-1)))) dX11_act_99 ⟨rfl, _, rfl⟩ (by decide) (by decide) (fun hmok => ?_)
        exact ⟨-1, rfl, ⟨by decide, by decide⟩, Or.inr ⟨by omega, rfl, rfl, rfl, rfl, rfl, rfl, rfl⟩⟩
  · skip
    refine v_if_eq X 33 dX11_act_6 (by decide) ⟨by decide, by decide⟩ (fun _ => ?_) (fun q => absurd (by decide) q)
    refine v_iconst X dX11_act_33 ?_
    refine v_istore X [(7, .int (iz 0)), (0, .ref (ad 0)), (1, .int (iz k)), (2, .int (iz p)), (3, .int (iz v)), (4, .int (iz c)), (5, .int (iz h)), (6, .int (iz f))] dX11_act_34 (by decide) rfl ?_
    refine v_iload X 5 dX11_act_36 rfl ?_
    refine v_iconst X dX11_act_38 ?_
    refine v_bipush X dX11_act_39 (by decide) ?_
    refine v_callS X [.int (iz c), .int (iz 1), .int (iz 20)] hRm (c_X11_isWithin _ _ _ c 1 20 ⟨by omega, by omega⟩ ⟨by omega, by omega⟩ ⟨by omega, by omega⟩) (gS bw_11_13 bw_11_14 bw_1_2 bw_11_15) rfl ddX11_isWithin (by decide) (Nat.le_of_ble_eq_true rfl) dX11_act_41 (k_pB (fun b26 => ?_) (fun b26 => ?_))
    · skip
      refine v_if_eq X 73 dX11_act_44 (by decide) ⟨by decide, by decide⟩ (fun q => absurd q (by decide)) (fun _ => ?_)
      refine v_iload X 6 dX11_act_47 rfl ?_
      refine v_iconst X dX11_act_49 ?_
      refine v_bipush X dX11_act_50 (by decide) ?_
      refine v_callS X [.int (iz h), .int (iz 1), .int (iz 20)] hRm (c_X11_isWithin _ _ _ h 1 20 ⟨by omega, by omega⟩ ⟨by omega, by omega⟩ ⟨by omega, by omega⟩) (gS bw_11_13 bw_11_14 bw_1_2 bw_11_15) rfl ddX11_isWithin (by decide) (Nat.le_of_ble_eq_true rfl) dX11_act_52 (k_pB (fun b27 => ?_) (fun b27 => ?_))
      · skip
        refine v_if_eq X 73 dX11_act_55 (by decide) ⟨by decide, by decide⟩ (fun q => absurd q (by decide)) (fun _ => ?_)
        refine v_iload X 7 dX11_act_58 rfl ?_
        refine v_iconst X dX11_act_60 ?_
        refine v_bipush X dX11_act_61 (by decide) ?_
        refine v_callS X [.int (iz f), .int (iz 1), .int (iz 120)] hRm (c_X11_isWithin _ _ _ f 1 120 ⟨by omega, by omega⟩ ⟨by omega, by omega⟩ ⟨by omega, by omega⟩) (gS bw_11_13 bw_11_14 bw_1_2 bw_11_15) rfl ddX11_isWithin (by decide) (Nat.le_of_ble_eq_true rfl) dX11_act_63 (k_pB (fun b28 => ?_) (fun b28 => ?_))
        · skip
          refine v_if_eq X 73 dX11_act_66 (by decide) ⟨by decide, by decide⟩ (fun q => absurd q (by decide)) (fun _ => ?_)
          refine v_iconst X dX11_act_69 ?_
          refine v_goto X 74 dX11_act_70 (by decide) ?_
          refine v_istore X [(8, .int (iz 1)), (7, .int (iz 0)), (0, .ref (ad 0)), (1, .int (iz k)), (2, .int (iz p)), (3, .int (iz v)), (4, .int (iz c)), (5, .int (iz h)), (6, .int (iz f))] dX11_act_74 (by decide) rfl ?_
          refine v_iload X 1 dX11_act_76 rfl ?_
          refine v_if_eq X 98 dX11_act_78 (by decide) ⟨by decide, by decide⟩ (fun _ => ?_) (fun q => absurd (by decide) q)
          refine v_iconst X dX11_act_98 ?_
          refine hret _ _ _ _ _ _ _ _ _ _ _ (some (.int (iz (-1)))) dX11_act_99 ⟨rfl, _, rfl⟩ (by decide) (by decide) (fun hmok => ?_)
          exact ⟨-1, rfl, ⟨by decide, by decide⟩, Or.inr ⟨by omega, rfl, rfl, rfl, rfl, rfl, rfl, rfl⟩⟩
        · skip
          refine v_if_eq X 73 dX11_act_66 (by decide) ⟨by decide, by decide⟩ (fun _ => ?_) (fun q => absurd (by decide) q)
          refine v_iconst X dX11_act_73 ?_
          refine v_istore X [(8, .int (iz 0)), (7, .int (iz 0)), (0, .ref (ad 0)), (1, .int (iz k)), (2, .int (iz p)), (3, .int (iz v)), (4, .int (iz c)), (5, .int (iz h)), (6, .int (iz f))] dX11_act_74 (by decide) rfl ?_
          refine v_iload X 1 dX11_act_76 rfl ?_
          refine v_if_eq X 98 dX11_act_78 (by decide) ⟨by decide, by decide⟩ (fun _ => ?_) (fun q => absurd (by decide) q)
          refine v_iconst X dX11_act_98 ?_
          refine hret _ _ _ _ _ _ _ _ _ _ _ (some (.int (iz (-1)))) dX11_act_99 ⟨rfl, _, rfl⟩ (by decide) (by decide) (fun hmok => ?_)
          exact ⟨-1, rfl, ⟨by decide, by decide⟩, Or.inr ⟨by omega, rfl, rfl, rfl, rfl, rfl, rfl, rfl⟩⟩
      · skip
        refine v_if_eq X 73 dX11_act_55 (by decide) ⟨by decide, by decide⟩ (fun _ => ?_) (fun q => absurd (by decide) q)
        refine v_iconst X dX11_act_73 ?_
        refine v_istore X [(8, .int (iz 0)), (7, .int (iz 0)), (0, .ref (ad 0)), (1, .int (iz k)), (2, .int (iz p)), (3, .int (iz v)), (4, .int (iz c)), (5, .int (iz h)), (6, .int (iz f))] dX11_act_74 (by decide) rfl ?_
        refine v_iload X 1 dX11_act_76 rfl ?_
        refine v_if_eq X 98 dX11_act_78 (by decide) ⟨by decide, by decide⟩ (fun _ => ?_) (fun q => absurd (by decide) q)
        refine v_iconst X dX11_act_98 ?_
        refine hret _ _ _ _ _ _ _ _ _ _ _ (some (.int (iz (-1)))) dX11_act_99 ⟨rfl, _, rfl⟩ (by decide) (by decide) (fun hmok => ?_)
        exact ⟨-1, rfl, ⟨by decide, by decide⟩, Or.inr ⟨by omega, rfl, rfl, rfl, rfl, rfl, rfl, rfl⟩⟩
    · skip
      refine v_if_eq X 73 dX11_act_44 (by decide) ⟨by decide, by decide⟩ (fun _ => ?_) (fun q => absurd (by decide) q)
      refine v_iconst X dX11_act_73 ?_
      refine v_istore X [(8, .int (iz 0)), (7, .int (iz 0)), (0, .ref (ad 0)), (1, .int (iz k)), (2, .int (iz p)), (3, .int (iz v)), (4, .int (iz c)), (5, .int (iz h)), (6, .int (iz f))] dX11_act_74 (by decide) rfl ?_
      refine v_iload X 1 dX11_act_76 rfl ?_
      refine v_if_eq X 98 dX11_act_78 (by decide) ⟨by decide, by decide⟩ (fun _ => ?_) (fun q => absurd (by decide) q)
      refine v_iconst X dX11_act_98 ?_
      refine hret _ _ _ _ _ _ _ _ _ _ _ (some (.int (iz (-1)))) dX11_act_99 ⟨rfl, _, rfl⟩ (by decide) (by decide) (fun hmok => ?_)
      exact ⟨-1, rfl, ⟨by decide, by decide⟩, Or.inr ⟨by omega, rfl, rfl, rfl, rfl, rfl, rfl, rfl⟩⟩

-- figure
set_option maxHeartbeats 4000000 in
set_option maxRecDepth 100000 in
theorem c_X11_figure (l : Launch) (D : va_G) (cy : Nat → ClassId) {N : Nat} {sh : MS} {ad : Nat → Nat} {M L : MI} {R : MR} (hS : Std N sh R) (a : Int) (m : Int) (s : Int) (h : Int) (ha : inR a) (hm : inR m) (hs : inR s) (hh : inR h) (b : Int) (hb : 0 ≤ b ∧ b < 2) (hO : ShowOk M R sh N) : Ctr l D cy yX11_figure wsX11_figure ({ frames := 2, cells := 1, slots := 4, locals := 36 } : Room) N sh ad M L R [.ref (ad 0), .int (iz a), .int (iz m), .int (iz s), .int (iz h), .int (iz b)] (fun rv N' sh' ad' M' L' R' => ∃ r : Int, rv = some (.int (iz r)) ∧ inR r ∧ (((0 ≤ a ∧ a < M 6 1 ∧ M (aId R a) 7 < 6 ∧ 1 ≤ m ∧ m ≤ 9 ∧ 0 ≤ s ∧ s ≤ 20 ∧ 0 ≤ h ∧ h ≤ 9) ∧ r = M (aId R a) 7 ∧ N' = N + 1 ∧ sh' = va_up sh N (2, 0) ∧ (∀ j : Nat, j < N → ad' j = ad j) ∧ M' = (mu (mu (mu (mu (mu (mrow M N (fun _ => 0)) N 0 m) N 1 s) N 2 h) N 3 b) (aId R a) 7 (M (aId R a) 7 + 1)) ∧ L' = mrow L N (fun _ => 0) ∧ ∃ f : Nat, R (aId R a) 6 = some f ∧ R' = mu (mrow R N (fun _ => none)) f (M (aId R a) 7) (some N)) ∨ (¬ (0 ≤ a ∧ a < M 6 1 ∧ M (aId R a) 7 < 6 ∧ 1 ≤ m ∧ m ≤ 9 ∧ 0 ≤ s ∧ s ≤ 20 ∧ 0 ≤ h ∧ h ≤ 9) ∧ r = -1 ∧ N' = N ∧ sh' = sh ∧ ad' = ad ∧ M' = M ∧ L' = L ∧ R' = R))) := by
  refine Ctr.ofI (by decide) rfl (Nat.le_of_ble_eq_true rfl) ?_
  intro K hKl hKd hRm hnm X hret
  have X : VX K cX11_figure 7 wsX11_figure RX11 := X
  show V K 7 0 0 N sh ad M L R [(0, .ref (ad 0)), (1, .int (iz a)), (2, .int (iz m)), (3, .int (iz s)), (4, .int (iz h)), (5, .int (iz b))] [] 0
  refine v_aload_n X 0 dX11_figure_0 rfl rfl ?_
  refine gt_X11_show X iwX11 (Std.lt hS rfl) (Std.k hS rfl rfl) (List.mem_cons_of_mem _ bw_1_23) dX11_figure_1 6 (Std.r hS 2 rfl) ?_
  refine v_iload_n X 1 dX11_figure_4 rfl rfl ?_
  refine v_callV X [.int (iz a)] hRm (c_X7_actAt _ _ _ hS a ⟨by omega, by omega⟩ hO) (gV bw_24_5 bw_24_6 bw_24_7 bw_1_22 bw_24_8) rfl ddX7_actAt (by decide) (Std.lt hS rfl) (Std.k hS rfl rfl) ⟨rfl, by decide⟩ (Nat.le_of_ble_eq_true rfl) dX11_figure_5 (k_pR (fun r1 e2 => ?_))
  rcases e2 with ⟨rfl, o4n⟩ | ⟨q3, rfl, o4r, o4b, o4k⟩
  · skip
    refine v_st (st' := [.null]) rfl ?_
    refine v_astoreN X [(6, .null), (0, .ref (ad 0)), (1, .int (iz a)), (2, .int (iz m)), (3, .int (iz s)), (4, .int (iz h)), (5, .int (iz b))] dX11_figure_8 (by decide) rfl ?_
    refine v_aloadN X 0 dX11_figure_10 rfl ?_
    refine v_ifnullN X 25 dX11_figure_12 (by decide) ?_
    refine v_iconst X dX11_figure_25 ?_
    refine hret _ _ _ _ _ _ _ _ _ _ _ (some (.int (iz (-1)))) dX11_figure_26 ⟨rfl, _, rfl⟩ (by decide) (by decide) (fun hmok => ?_)
    exact ⟨-1, rfl, ⟨by decide, by decide⟩, Or.inr ⟨by omega, rfl, rfl, rfl, rfl, rfl, rfl, rfl⟩⟩
  · skip
    have q3B : 112 ≤ q3 := o4k.1
    refine v_st (st' := [.ref (ad q3)]) rfl ?_
    refine v_astore X [(6, .ref (ad q3)), (0, .ref (ad 0)), (1, .int (iz a)), (2, .int (iz m)), (3, .int (iz s)), (4, .int (iz h)), (5, .int (iz b))] dX11_figure_8 (by decide) rfl ?_
    refine v_aload X 0 dX11_figure_10 rfl ?_
    refine v_ifnull X dX11_figure_12 ?_
    refine v_aload X 0 dX11_figure_15 rfl ?_
    refine gt_X0_size X iwX0 o4k.2.1 o4k.2.2.1 (List.mem_cons_of_mem _ bw_24_1) dX11_figure_17 (M q3 7) rfl (fun hr5 => ?_)
    refine v_bipush X dX11_figure_20 (by decide) ?_
    refine v_icmp_lt X 27 dX11_figure_22 (by decide) ⟨by omega, by omega⟩ ⟨by decide, by decide⟩ (fun u6 => ?_) (fun u6 => ?_)
    · skip
      refine v_iload_n X 3 dX11_figure_27 rfl rfl ?_
      refine v_iconst X dX11_figure_28 ?_
      refine v_bipush X dX11_figure_29 (by decide) ?_
      refine v_callS X [.int (iz m), .int (iz 1), .int (iz 9)] hRm (c_X11_isWithin _ _ _ m 1 9 ⟨by omega, by omega⟩ ⟨by omega, by omega⟩ ⟨by omega, by omega⟩) (gS bw_11_13 bw_11_14 bw_1_2 bw_11_15) rfl ddX11_isWithin (by decide) (Nat.le_of_ble_eq_true rfl) dX11_figure_31 (k_pB (fun b7 => ?_) (fun b7 => ?_))
      · skip
        refine v_if_eq X 58 dX11_figure_34 (by decide) ⟨by decide, by decide⟩ (fun q => absurd q (by decide)) (fun _ => ?_)
        refine v_iload_n X 4 dX11_figure_37 rfl rfl ?_
        refine v_iconst X dX11_figure_38 ?_
        refine v_bipush X dX11_figure_39 (by decide) ?_
        refine v_callS X [.int (iz s), .int (iz 0), .int (iz 20)] hRm (c_X11_isWithin _ _ _ s 0 20 ⟨by omega, by omega⟩ ⟨by omega, by omega⟩ ⟨by omega, by omega⟩) (gS bw_11_13 bw_11_14 bw_1_2 bw_11_15) rfl ddX11_isWithin (by decide) (Nat.le_of_ble_eq_true rfl) dX11_figure_41 (k_pB (fun b8 => ?_) (fun b8 => ?_))
        · skip
          refine v_if_eq X 58 dX11_figure_44 (by decide) ⟨by decide, by decide⟩ (fun q => absurd q (by decide)) (fun _ => ?_)
          refine v_iload X 5 dX11_figure_47 rfl ?_
          refine v_iconst X dX11_figure_49 ?_
          refine v_bipush X dX11_figure_50 (by decide) ?_
          refine v_callS X [.int (iz h), .int (iz 0), .int (iz 9)] hRm (c_X11_isWithin _ _ _ h 0 9 ⟨by omega, by omega⟩ ⟨by omega, by omega⟩ ⟨by omega, by omega⟩) (gS bw_11_13 bw_11_14 bw_1_2 bw_11_15) rfl ddX11_isWithin (by decide) (Nat.le_of_ble_eq_true rfl) dX11_figure_52 (k_pB (fun b9 => ?_) (fun b9 => ?_))
          · skip
            refine v_if_ne X 60 dX11_figure_55 (by decide) ⟨by decide, by decide⟩ (fun _ => ?_) (fun q => absurd (by decide) q)
            refine v_aload X 0 dX11_figure_60 rfl ?_
            obtain ⟨fy, hf1, hf2, hf3, hf4, hf5⟩ := o4k.2.2.2.2.2
            have hqb := o4k.1
            have hqn := o4k.2.1
            have hqz := o4k.2.2.2.1
            refine v_new X (ci := 2) (n := 4) tyX2 iwX2 tyX2_ok rfl (by decide) (by intro k hk; rcases (show k = 0 ∨ k = 1 ∨ k = 2 ∨ k = 3 by omega) with h | h | h | h <;> subst h <;> rfl) hRm (List.mem_cons_of_mem _ bw_24_2) (List.mem_cons_of_mem _ bw_24_3) (List.mem_cons_of_mem _ bw_24_4) ⟨Nat.le_of_ble_eq_true rfl, Nat.le_of_ble_eq_true rfl⟩ dX11_figure_62 ?_
            intro ad10 had11
            rw [← had11 q3 o4k.2.1]
            rw [← had11 0 (Std.lt hS rfl)]
            refine v_dup X dX11_figure_65 rfl ?_
            refine v_iload_n X 3 dX11_figure_66 rfl rfl ?_
            refine v_iload_n X 4 dX11_figure_67 rfl rfl ?_
            refine v_iload X 5 dX11_figure_68 rfl ?_
            refine v_iload X 6 dX11_figure_70 rfl ?_
            refine v_callI X [.int (iz m), .int (iz s), .int (iz h), .int (iz b)] hRm (c_X2_init _ _ _ N (Nat.lt_succ_self N) (by rw [va_up_self]) m s h b ⟨by omega, by omega⟩ ⟨by omega, by omega⟩ ⟨by omega, by omega⟩ ⟨by omega, by omega⟩) (gCode bw_24_11) rfl (List.mem_cons_of_mem _ bw_24_4) (List.mem_cons_of_mem _ bw_24_9) (List.mem_cons_of_mem _ bw_24_10) rfl ddX2_init.2 (by decide) (Nat.le_of_ble_eq_true rfl) dX11_figure_72 (k_eV (fun M13 e12 => ?_))
            replace e12 : M13 = (mu (mu (mu (mu (mrow M N (fun _ => 0)) N 0 m) N 1 s) N 2 h) N 3 b) := e12
            subst e12
            have hq7 : (mu (mu (mu (mu (mrow M N (fun _ => 0)) N 0 m) N 1 s) N 2 h) N 3 b) q3 7 = M q3 7 := by rw [mu_i _ _ _ (by omega), mu_i _ _ _ (by omega), mu_i _ _ _ (by omega), mu_i _ _ _ (by omega), mrow_i _ _ (by omega)]
            refine v_callV X [.ref (ad10 N)] hRm (c_X0_add _ _ _ q3 N fy (by omega) (by rw [va_up_ne _ _ (by omega)]; exact o4k.2.2.1) (by rw [mrow_i _ _ (by omega)]; exact hf1) (by omega) (by rw [va_up_ne _ _ (by omega)]; exact hf4) (Nat.lt_succ_self N) (by rw [va_up_self]) (show 0 ≤ (mu (mu (mu (mu (mrow M N (fun _ => 0)) N 0 m) N 1 s) N 2 h) N 3 b) q3 7 ∧ (mu (mu (mu (mu (mrow M N (fun _ => 0)) N 0 m) N 1 s) N 2 h) N 3 b) q3 7 < 6 by rw [hq7]; omega)) (gV bw_24_17 bw_24_18 bw_24_19 bw_22_22 bw_24_20) rfl ddX0_add (by decide) (by omega) (show (va_up sh N (2, 0) q3).1 = 0 by rw [va_up_ne _ _ (by omega)]; exact o4k.2.2.1) ⟨rfl, by decide⟩ (Nat.le_of_ble_eq_true rfl) dX11_figure_75 ?_
            rintro _ _ _ _ Mx9 _ Rx9 ⟨rfl, rfl, rfl, rfl, r14, rfl, hr9, e1, e2, e3⟩
            rw [hq7] at e1 e2 e3
            subst e2
            subst e3
            refine hret _ _ _ _ _ _ _ _ _ _ _ (some (.int (iz r14))) dX11_figure_78 ⟨rfl, _, rfl⟩ (by decide) (by decide) (fun hmok => ?_)
            rw [aId_of o4r]
            exact ⟨r14, rfl, hr9, Or.inl ⟨by omega, e1, rfl, rfl, had11, rfl, rfl, fy, hf1, rfl⟩⟩
          · skip
            refine v_if_ne X 60 dX11_figure_55 (by decide) ⟨by decide, by decide⟩ (fun q => absurd q (by decide)) (fun _ => ?_)
            refine v_iconst X dX11_figure_58 ?_
            refine hret _ _ _ _ _ _ _ _ _ _ _ (some (.int (iz (-1)))) dX11_figure_59 ⟨rfl, _, rfl⟩ (by decide) (by decide) (fun hmok => ?_)
            rw [aId_of o4r]
            exact ⟨-1, rfl, ⟨by decide, by decide⟩, Or.inr ⟨by omega, rfl, rfl, rfl, rfl, rfl, rfl, rfl⟩⟩
        · skip
          refine v_if_eq X 58 dX11_figure_44 (by decide) ⟨by decide, by decide⟩ (fun _ => ?_) (fun q => absurd (by decide) q)
          refine v_iconst X dX11_figure_58 ?_
          refine hret _ _ _ _ _ _ _ _ _ _ _ (some (.int (iz (-1)))) dX11_figure_59 ⟨rfl, _, rfl⟩ (by decide) (by decide) (fun hmok => ?_)
          rw [aId_of o4r]
          exact ⟨-1, rfl, ⟨by decide, by decide⟩, Or.inr ⟨by omega, rfl, rfl, rfl, rfl, rfl, rfl, rfl⟩⟩
      · skip
        refine v_if_eq X 58 dX11_figure_34 (by decide) ⟨by decide, by decide⟩ (fun _ => ?_) (fun q => absurd (by decide) q)
        refine v_iconst X dX11_figure_58 ?_
        refine hret _ _ _ _ _ _ _ _ _ _ _ (some (.int (iz (-1)))) dX11_figure_59 ⟨rfl, _, rfl⟩ (by decide) (by decide) (fun hmok => ?_)
        rw [aId_of o4r]
        exact ⟨-1, rfl, ⟨by decide, by decide⟩, Or.inr ⟨by omega, rfl, rfl, rfl, rfl, rfl, rfl, rfl⟩⟩
    · skip
      refine v_iconst X dX11_figure_25 ?_
      refine hret _ _ _ _ _ _ _ _ _ _ _ (some (.int (iz (-1)))) dX11_figure_26 ⟨rfl, _, rfl⟩ (by decide) (by decide) (fun hmok => ?_)
      rw [aId_of o4r]
      exact ⟨-1, rfl, ⟨by decide, by decide⟩, Or.inr ⟨by omega, rfl, rfl, rfl, rfl, rfl, rfl, rfl⟩⟩

