/-! THE LAW -/
section LawT
variable {K : VK} {b Ln cells slots N : Nat} {xs : Nat → Int32} {sh : MS} {ad : Nat → Nat} {M L : MI} {R : MR} {lv : List (Nat × Value)} {st : List Value} {pc : Nat}
def LEnd (K : VK) : Prop := ∀ (cells slots N : Nat) (sh : MS) (ad : Nat → Nat) (M L : MI) (R : MR) (lv : List (Nat × Value)), cells ≤ 600000 → slots ≤ 7302250 → V K 4 cells slots N sh ad M L R lv [.int (iz 1)] 991
set_option maxHeartbeats 1000000 in
theorem law_case (Y : LX K b Ln xs) (h : Inv N sh M L R) (hD : iDis N sh R) {i z : Int} (h0 : 0 ≤ i) (h1 : i + 7 ≤ (Ln : Int)) (hc : cells + 2 ≤ 600000) (hs : slots + 14 ≤ 7302250) (hz : inR z) (kk : LawK K b i (cells + 2) (slots + 14)) : V K 4 cells slots N sh ad M L R [(3, .int (iz i)), (2, .ref (ad 53)), (1, .ref (ad 0)), (0, .ref b)] [.int (iz z)] 33 := by
  have X := Y.1
  by_cases z0 : z = 0
  · refine v_tabIn X 144 dL_law_33 hz (by omega) (by omega) (by rw [z0]; rfl) (by decide) ?_
    exact law_feed Y h hD h0 h1 hc hs kk
  by_cases z1 : z = 1
  · refine v_tabIn X 207 dL_law_33 hz (by omega) (by omega) (by rw [z1]; rfl) (by decide) ?_
    exact law_back Y h hD h0 h1 hc hs kk
  by_cases z2 : z = 2
  · refine v_tabIn X 230 dL_law_33 hz (by omega) (by omega) (by rw [z2]; rfl) (by decide) ?_
    exact law_read Y h hD h0 h1 hc hs kk
  by_cases z3 : z = 3
  · refine v_tabIn X 243 dL_law_33 hz (by omega) (by omega) (by rw [z3]; rfl) (by decide) ?_
    exact law_place Y h hD h0 h1 hc hs kk
  by_cases z4 : z = 4
  · refine v_tabIn X 256 dL_law_33 hz (by omega) (by omega) (by rw [z4]; rfl) (by decide) ?_
    exact law_act Y h hD h0 h1 hc hs kk
  by_cases z5 : z = 5
  · refine v_tabIn X 331 dL_law_33 hz (by omega) (by omega) (by rw [z5]; rfl) (by decide) ?_
    exact law_figure Y h hD h0 h1 hc hs kk
  by_cases z6 : z = 6
  · refine v_tabIn X 410 dL_law_33 hz (by omega) (by omega) (by rw [z6]; rfl) (by decide) ?_
    exact law_falls Y h hD h0 h1 hc hs kk
  by_cases z7 : z = 7
  · refine v_tabIn X 433 dL_law_33 hz (by omega) (by omega) (by rw [z7]; rfl) (by decide) ?_
    exact law_cell Y h hD h0 h1 hc hs kk
  by_cases z8 : z = 8
  · refine v_tabIn X 466 dL_law_33 hz (by omega) (by omega) (by rw [z8]; rfl) (by decide) ?_
    exact law_ground Y h hD h0 h1 hc hs kk
  by_cases z9 : z = 9
  · refine v_tabIn X 499 dL_law_33 hz (by omega) (by omega) (by rw [z9]; rfl) (by decide) ?_
    exact law_base Y h hD h0 h1 hc hs kk
  by_cases z10 : z = 10
  · refine v_tabIn X 532 dL_law_33 hz (by omega) (by omega) (by rw [z10]; rfl) (by decide) ?_
    exact law_birds Y h hD h0 h1 hc hs kk
  by_cases z11 : z = 11
  · refine v_tabIn X 565 dL_law_33 hz (by omega) (by omega) (by rw [z11]; rfl) (by decide) ?_
    exact law_ready Y h hD h0 h1 hc hs kk
  by_cases z12 : z = 12
  · refine v_tabIn X 598 dL_law_33 hz (by omega) (by omega) (by rw [z12]; rfl) (by decide) ?_
    exact law_away Y h hD h0 h1 hc hs kk
  by_cases z13 : z = 13
  · refine v_tabIn X 631 dL_law_33 hz (by omega) (by omega) (by rw [z13]; rfl) (by decide) ?_
    exact law_refused Y h hD h0 h1 hc hs kk
  by_cases z14 : z = 14
  · refine v_tabIn X 664 dL_law_33 hz (by omega) (by omega) (by rw [z14]; rfl) (by decide) ?_
    exact law_length Y h hD h0 h1 hc hs kk
  by_cases z15 : z = 15
  · refine v_tabIn X 697 dL_law_33 hz (by omega) (by omega) (by rw [z15]; rfl) (by decide) ?_
    exact law_baseIn Y h hD h0 h1 hc hs kk
  by_cases z16 : z = 16
  · refine v_tabIn X 730 dL_law_33 hz (by omega) (by omega) (by rw [z16]; rfl) (by decide) ?_
    exact law_plan Y h hD h0 h1 hc hs kk
  by_cases z17 : z = 17
  · refine v_tabIn X 753 dL_law_33 hz (by omega) (by omega) (by rw [z17]; rfl) (by decide) ?_
    exact law_mend Y h hD h0 h1 hc hs kk
  by_cases z18 : z = 18
  · refine v_tabIn X 776 dL_law_33 hz (by omega) (by omega) (by rw [z18]; rfl) (by decide) ?_
    exact law_order Y h hD h0 h1 hc hs kk
  by_cases z19 : z = 19
  · refine v_tabIn X 799 dL_law_33 hz (by omega) (by omega) (by rw [z19]; rfl) (by decide) ?_
    exact law_told Y h hD h0 h1 hc hs kk
  by_cases z20 : z = 20
  · refine v_tabIn X 832 dL_law_33 hz (by omega) (by omega) (by rw [z20]; rfl) (by decide) ?_
    exact law_out Y h hD h0 h1 hc hs kk
  by_cases z21 : z = 21
  · refine v_tabIn X 875 dL_law_33 hz (by omega) (by omega) (by rw [z21]; rfl) (by decide) ?_
    exact law_can Y h hD h0 h1 hc hs kk
  by_cases z22 : z = 22
  · refine v_tabIn X 938 dL_law_33 hz (by omega) (by omega) (by rw [z22]; rfl) (by decide) ?_
    exact law_runway Y h hD h0 h1 hc hs kk
  by_cases z23 : z = 23
  · refine v_tabIn X 961 dL_law_33 hz (by omega) (by omega) (by rw [z23]; rfl) (by decide) ?_
    exact law_count Y h hD h0 h1 hc hs kk
  refine v_tabOut X 984 dL_law_33 hz (by omega) (by decide) ?_
  exact v_widen (by omega) (by omega) (kk _ _ _ _ _ _ h hD)
theorem law_loop (Y : LX K b Ln xs) (hE : LEnd K) : ∀ (n : Nat) (N : Nat) (sh : MS) (ad : Nat → Nat) (M L : MI) (R : MR) (i : Int) (cells slots : Nat), Inv N sh M L R → iDis N sh R → 0 ≤ i → i ≤ (Ln : Int) → ((Ln : Int) - i).toNat < n → (cells : Int) ≤ 200000 + 2 * i → (slots : Int) ≤ 2000000 + 14 * i → V K 4 cells slots N sh ad M L R [(3, .int (iz i)), (2, .ref (ad 53)), (1, .ref (ad 0)), (0, .ref b)] [] 18 := by
  intro n
  induction n with
  | zero => intro N sh ad M L R i cells slots _ _ _ _ hn; exact absurd hn (Nat.not_lt_zero _)
  | succ n ih =>
    intro N sh ad M L R i cells slots h hD h0 h1 hn hc hs
    have X := Y.1
    have hL := Y.2.2.2.2.2
    refine v_iload_n X 0 dL_law_18 rfl rfl ?_
    refine v_aload_n X 3 dL_law_19 rfl rfl ?_
    refine v_slen Y dL_law_20 ?_
    refine v_bipush X dL_law_21 (by decide) ?_
    refine v_isub X dL_law_23 ?_
    refine v_icmp_gt X 990 dL_law_24 (by decide) ⟨by omega, by omega⟩ ⟨by omega, by omega⟩ (fun hg => ?_) (fun hg => ?_)
    · refine v_iconst X dL_law_990 ?_
      exact hE _ _ _ _ _ _ _ _ _ (by omega) (by omega)
    · refine v_aload_n X 3 dL_law_27 rfl rfl ?_
      refine v_iload_n X 0 dL_law_28 rfl rfl ?_
      refine v_sld Y (by omega) (by omega) dL_law_29 ?_
      refine v_bipush X dL_law_30 (by decide) ?_
      refine v_iand X (iz (sx xs i) &&& iz 31).toInt dL_law_32 (iz_self _).symm ?_
      refine law_case Y h hD h0 (by omega) (by omega) (by omega) (iz_rng _) ?_
      intro N1 sh1 ad1 M1 L1 R1 h2 hD2
      refine v_iinc X 0 [(3, .int (iz (i + 7))), (2, .ref (ad1 53)), (1, .ref (ad1 0)), (0, .ref b)] dL_law_984 rfl (by decide) rfl ?_
      refine v_goto X 18 dL_law_987 (by decide) ?_
      exact ih _ _ _ _ _ _ _ _ _ h2 hD2 (by omega) (by omega) (by omega) (by omega) (by omega)
set_option maxHeartbeats 4000000 in
theorem law_start (Y : LX K b Ln xs) (hE : LEnd K) (ad : Nat → Nat) : V K 4 0 0 0 sh0 ad Mz0 Mz0 Rz0 [(0, .ref b)] [] 0 := by
  have X := Y.1
  have hRm := Y.2.1
  have hz : Nul 0 sh0 Mz0 Mz0 Rz0 := ⟨fun _ _ => rfl, fun _ _ => rfl, fun _ _ => rfl, fun _ _ => rfl⟩
  have hac0 : ∀ j : Nat, j < 0 → ad j = ad j := fun _ _ => rfl
  refine v_new X (ci := 11) (n := 11) tyX11 iwX11 tyX11_ok rfl (by decide) (by intro k hk; rcases (show k = 0 ∨ k = 1 ∨ k = 2 ∨ k = 3 ∨ k = 4 ∨ k = 5 ∨ k = 6 ∨ k = 7 ∨ k = 8 ∨ k = 9 ∨ k = 10 by omega) with h | h | h | h | h | h | h | h | h | h | h <;> subst h <;> rfl) hRm (List.mem_cons_of_mem _ bw_1_0) (List.mem_cons_of_mem _ bw_1_1) (List.mem_cons_of_mem _ bw_1_2) ⟨Nat.le_of_ble_eq_true rfl, Nat.le_of_ble_eq_true rfl⟩ dL_law_0 ?_
  intro ad1 had2
  have hac3 : ∀ j : Nat, j < 0 → ad1 j = ad j := fun j hj => (had2 j (by omega)).trans (hac0 j hj)
  refine v_cl hz (Nul.at hz rfl rfl) (N1 := 1) rfl ?_
  have hz4 := hz.up 1 rfl
  refine v_dup X dL_law_3 rfl ?_
  refine v_callI X [] hRm (c_X11_init _ _ _ rfl hz4) (gCode bw_1_8) rfl (List.mem_cons_of_mem _ bw_1_2) (List.mem_cons_of_mem _ bw_1_6) (List.mem_cons_of_mem _ bw_1_7) rfl ddX11_init.2 (by decide) (Nat.le_of_ble_eq_true rfl) dL_law_4 ?_
  rintro _ Nx5 shx6 adx7 Mx8 Lx9 Rx10 ⟨rfl, rfl, rfl, had11, rfl, rfl, rfl, hz12⟩
  rw [← had11 0 (Nat.le_of_ble_eq_true rfl)]
  have hac13 : ∀ j : Nat, j < 0 → adx7 j = ad j := fun j hj => (had11 j (by omega)).trans (hac3 j hj)
  refine v_astore_n X [(1, .ref (adx7 0)), (0, .ref b)] dL_law_7 rfl (by decide) rfl ?_
  refine v_new X (ci := 12) (n := 85) tyX12 iwX12 tyX12_ok rfl (by decide) (by intro k hk; rcases (show k = 0 ∨ k = 1 ∨ k = 2 ∨ k = 3 ∨ k = 4 ∨ k = 5 ∨ k = 6 ∨ k = 7 ∨ k = 8 ∨ k = 9 ∨ k = 10 ∨ k = 11 ∨ k = 12 ∨ k = 13 ∨ k = 14 ∨ k = 15 ∨ k = 16 ∨ k = 17 ∨ k = 18 ∨ k = 19 ∨ k = 20 ∨ k = 21 ∨ k = 22 ∨ k = 23 ∨ k = 24 ∨ k = 25 ∨ k = 26 ∨ k = 27 ∨ k = 28 ∨ k = 29 ∨ k = 30 ∨ k = 31 ∨ k = 32 ∨ k = 33 ∨ k = 34 ∨ k = 35 ∨ k = 36 ∨ k = 37 ∨ k = 38 ∨ k = 39 ∨ k = 40 ∨ k = 41 ∨ k = 42 ∨ k = 43 ∨ k = 44 ∨ k = 45 ∨ k = 46 ∨ k = 47 ∨ k = 48 ∨ k = 49 ∨ k = 50 ∨ k = 51 ∨ k = 52 ∨ k = 53 ∨ k = 54 ∨ k = 55 ∨ k = 56 ∨ k = 57 ∨ k = 58 ∨ k = 59 ∨ k = 60 ∨ k = 61 ∨ k = 62 ∨ k = 63 ∨ k = 64 ∨ k = 65 ∨ k = 66 ∨ k = 67 ∨ k = 68 ∨ k = 69 ∨ k = 70 ∨ k = 71 ∨ k = 72 ∨ k = 73 ∨ k = 74 ∨ k = 75 ∨ k = 76 ∨ k = 77 ∨ k = 78 ∨ k = 79 ∨ k = 80 ∨ k = 81 ∨ k = 82 ∨ k = 83 ∨ k = 84 by omega) with h | h | h | h | h | h | h | h | h | h | h | h | h | h | h | h | h | h | h | h | h | h | h | h | h | h | h | h | h | h | h | h | h | h | h | h | h | h | h | h | h | h | h | h | h | h | h | h | h | h | h | h | h | h | h | h | h | h | h | h | h | h | h | h | h | h | h | h | h | h | h | h | h | h | h | h | h | h | h | h | h | h | h | h | h <;> subst h <;> rfl) hRm (List.mem_cons_of_mem _ bw_1_3) (List.mem_cons_of_mem _ bw_1_4) (List.mem_cons_of_mem _ bw_1_5) ⟨Nat.le_of_ble_eq_true rfl, Nat.le_of_ble_eq_true rfl⟩ dL_law_8 ?_
  intro ad14 had15
  rw [← had15 0 (Nat.le_of_ble_eq_true rfl)]
  have hac16 : ∀ j : Nat, j < 0 → ad14 j = ad j := fun j hj => (had15 j (by omega)).trans (hac13 j hj)
  refine v_cl hz12 (Nul.at hz12 rfl rfl) (N1 := 54) rfl ?_
  have hz17 := hz12.up 54 rfl
  refine v_dup X dL_law_11 rfl ?_
  refine v_callI X [] hRm (c_X12_init _ _ _ rfl hz17) (gCode bw_7_12) rfl (List.mem_cons_of_mem _ bw_1_5) (List.mem_cons_of_mem _ bw_7_10) (List.mem_cons_of_mem _ bw_7_11) rfl ddX12_init.2 (by decide) (Nat.le_of_ble_eq_true rfl) dL_law_12 ?_
  rintro _ Nx18 shx19 adx20 Mx21 Lx22 Rx23 ⟨rfl, rfl, rfl, had24, rfl, rfl, rfl, hz25⟩
  rw [← had24 0 (Nat.le_of_ble_eq_true rfl)]
  rw [← had24 53 (Nat.le_of_ble_eq_true rfl)]
  have hac26 : ∀ j : Nat, j < 0 → adx20 j = ad j := fun j hj => (had24 j (by omega)).trans (hac16 j hj)
  refine v_astore_n X [(2, .ref (adx20 53)), (1, .ref (adx20 0)), (0, .ref b)] dL_law_15 rfl (by decide) rfl ?_
  refine v_iconst X dL_law_16 ?_
  refine v_istore_n X [(3, .int (iz 0)), (2, .ref (adx20 53)), (1, .ref (adx20 0)), (0, .ref b)] dL_law_17 rfl (by decide) rfl ?_
  refine v_lv [0, 1, 2, 3] rfl ?_
  exact law_loop Y hE _ 112 sh0 adx20 Mz1 Lz1 Rz1 0 _ _ begun.1 begun.2 (by omega) (by omega) (Nat.lt_succ_self _) (by show ((112 : Nat) : Int) ≤ _; omega) (by show ((15811 : Nat) : Int) ≤ _; omega)
end LawT
