/-! THE MODEL'S CUT -/
theorem lcmp_c {a b : Int} (ha : inL a) (hb : inL b) : ∃ z : Int, lg_cmp (lz a) (lz b) = iz z ∧ inR z ∧ (z = 0 ↔ a = b) := by
  refine ⟨_, lcmp_z ha hb, ?_, ?_⟩
  · by_cases c : b < a
    · rw [if_pos c]; exact ⟨by decide, by decide⟩
    · rw [if_neg c]
      by_cases d : a = b
      · rw [if_pos d]; exact ⟨by decide, by decide⟩
      · rw [if_neg d]; exact ⟨by decide, by decide⟩
  · by_cases c : b < a
    · rw [if_pos c]; omega
    · rw [if_neg c]
      by_cases d : a = b
      · rw [if_pos d]; omega
      · rw [if_neg d]; omega
theorem tw_u8 {a b : Int} (ha : -128 ≤ a ∧ a < 128) (hb : -128 ≤ b ∧ b < 128) : twB (u8 a) (u8 b) = twB a b := by
  unfold twB
  have h1 := u8_eq (c := 61) hb (by decide)
  have h2 := u8_eq (c := 61) ha (by decide)
  have h3 := u8_eq (c := 33) ha (by decide)
  have h4 := u8_eq (c := 60) ha (by decide)
  rw [decide_eq_decide, h1, h2, h3, h4]
theorem sgN_u8 {a b : Int} (ha : -128 ≤ a ∧ a < 128) (hb : -128 ≤ b ∧ b < 128) : sgN (u8 a) (u8 b) = sgN a b := by
  unfold sgN
  rw [tw_u8 ha hb]
theorem sgK_u8 {a b : Int} (ha : -128 ≤ a ∧ a < 128) (hb : -128 ≤ b ∧ b < 128) : sgK (u8 a) (u8 b) = sgK a b := by
  unfold sgK prK sgS
  rw [tw_u8 ha hb]
  have h (c : Int) (hc : 0 ≤ c ∧ c < 128) : (u8 a = c) = (a = c) := propext (u8_eq ha hc)
  simp only [h 61 (by decide), h 33 (by decide), h 60 (by decide), h 59 (by decide), h 43 (by decide), h 45 (by decide), h 42 (by decide), h 40 (by decide), h 41 (by decide)]
theorem sgK_26 (a b : Int) : sgK a b ≠ 26 := by
  unfold sgK prK sgS
  repeat' split
  all_goals decide
theorem wdK_26 (g : Int → Int) (p e : Int) : wdK g p e ≠ 26 := by
  have := firstN_in (p := isWB g p e) 15
  unfold wdK
  split <;> omega
/-- j tokens have been cut -/
def TokTo (g : Int → Int) (n : Int) (M : MI) (j : Nat) (Mx : MI) : Prop := Mx 53 10 = (j : Int) ∧ (∀ k : Nat, k < j → kdT g n k ≠ 26 ∧ cOf (Mx 56 (k : Int)) = kdT g n k ∧ Mx 57 (k : Int) = plT g n k ∧ (kdT g n k = 25 → Mx 58 (k : Int) = vlT g n k)) ∧ (∀ i : Nat, i ≠ 53 → ¬ (56 ≤ i ∧ i ≤ 58) → Mx i = M i) ∧ ∀ z : Int, z ≠ 10 → Mx 53 z = M 53 z
theorem Tok_put {g : Int → Int} {n : Int} {M Mx M1 : MI} {j : Nat} {k p v : Int} (h : TokTo g n M j Mx) (e : M1 = mu (mu (mu (mu Mx 56 (Mx 53 10) k) 57 (Mx 53 10) p) 58 (Mx 53 10) v) 53 10 (Mx 53 10 + 1)) (hk : cOf k = kdT g n j) (hp : p = plT g n j) (hv : kdT g n j = 25 → v = vlT g n j) : (∀ q : Nat, q ≤ j → cOf (M1 56 (q : Int)) = kdT g n q ∧ M1 57 (q : Int) = plT g n q ∧ (kdT g n q = 25 → M1 58 (q : Int) = vlT g n q)) ∧ (M1 53 10 = ((j + 1 : Nat) : Int)) ∧ (∀ i : Nat, i ≠ 53 → ¬ (56 ≤ i ∧ i ≤ 58) → M1 i = M i) ∧ ∀ z : Int, z ≠ 10 → M1 53 z = M 53 z := by
  obtain ⟨h1, h2, h3, h4⟩ := h
  rw [h1] at e
  subst e
  refine ⟨fun q hq => ?_, ?_, fun i i1 i2 => ?_, fun z hz => ?_⟩
  · show cOf (if (q : Int) = (j : Int) then k else Mx 56 (q : Int)) = _ ∧ (if (q : Int) = (j : Int) then p else Mx 57 (q : Int)) = _ ∧ (_ → (if (q : Int) = (j : Int) then v else Mx 58 (q : Int)) = _)
    by_cases c : q = j
    · subst c
      rw [if_pos rfl, if_pos rfl, if_pos rfl]
      exact ⟨hk, hp, hv⟩
    · rw [if_neg (by omega), if_neg (by omega), if_neg (by omega)]
      exact (h2 q (by omega)).2
  · show (j : Int) + 1 = ((j + 1 : Nat) : Int)
    omega
  · rw [mu_i _ _ _ i1, mu_i _ _ _ (by omega), mu_i _ _ _ (by omega), mu_i _ _ _ (by omega)]
    exact h3 i i1 i2
  · rw [mu_z _ _ _ hz, mu_i _ _ _ (by decide), mu_i _ _ _ (by decide), mu_i _ _ _ (by decide)]
    exact h4 z hz
theorem Tok_next {g : Int → Int} {n : Int} {M Mx M1 : MI} {j : Nat} {k p v : Int} (h : TokTo g n M j Mx) (e : M1 = mu (mu (mu (mu Mx 56 (Mx 53 10) k) 57 (Mx 53 10) p) 58 (Mx 53 10) v) 53 10 (Mx 53 10 + 1)) (hk : cOf k = kdT g n j) (hp : p = plT g n j) (hv : kdT g n j = 25 → v = vlT g n j) (h26 : kdT g n j ≠ 26) : TokTo g n M (j + 1) M1 := by
  have q := Tok_put h e hk hp hv
  refine ⟨q.2.1, fun i hi => ⟨?_, q.1 i (by omega)⟩, q.2.2⟩
  by_cases c : i = j
  · rw [c]; exact h26
  · exact (h.2.1 i (by omega)).1
theorem plT_s {g : Int → Int} {n : Int} {j : Nat} {i e : Int} (h : plT g n j = i) (he : tkE g n i = e) : lexP g n e = plT g n (j + 1) := by
  subst he
  subst h
  rfl
theorem bt_lt {f : Int → Int} {n z : Int} (h : bt f n z ≠ 0) : z < n := Classical.byContradiction (fun c => h (bt_out (by omega)))
theorem skp_all {p : Int → Bool} {g : Int → Int} {n i : Int} {x : Nat} (h : i + (x : Int) = skp p g n i) : ∀ k : Nat, k < x → p (g (i + (k : Int))) = true := fun k hk => skp_in (n := n) (i := i) (by omega) (by omega)

theorem sgK_25 (a b : Int) : sgK a b ≠ 25 := by
  unfold sgK prK sgS
  repeat' split
  all_goals decide

-- cut
set_option maxHeartbeats 4000000 in
set_option maxRecDepth 100000 in
theorem c_X12_cut (l : Launch) (D : va_G) (cy : Nat → ClassId) {N : Nat} {sh : MS} {ad : Nat → Nat} {M L : MI} {R : MR} (hS : Std N sh R) (hz : 0 ≤ M 53 4 ∧ M 53 4 ≤ 2000) (hK : keyOk L) : Ctr l D cy yX12_cut wsX12_cut ({ frames := 2, cells := 0, slots := 0, locals := 50 } : Room) N sh ad M L R [.ref (ad 53)] (eVL N sh ad R (fun M' L' => tokOk (bt (M 55) (M 53 4)) (M 53 4) M' ∧ (∀ i : Nat, i ≠ 53 → ¬ (56 ≤ i ∧ i ≤ 58) → M' i = M i) ∧ (∀ z : Int, z ≠ 10 → M' 53 z = M 53 z) ∧ ∀ i : Nat, i ≠ 59 → L' i = L i)) := by
  refine Ctr.ofV (by decide) rfl (Nat.le_of_ble_eq_true rfl) ?_
  intro K hKl hKd hRm hnm X hret
  have X : VX K cX12_cut 8 wsX12_cut RX12 := X
  show V K 8 0 0 N sh ad M L R [(0, .ref (ad 53))] [] 0
  refine v_aload_n X 0 dX12_cut_0 rfl rfl ?_
  refine v_iconst X dX12_cut_1 ?_
  refine pt_X12_tokens X iwX12 (Std.lt hS rfl) (Std.k hS rfl rfl) (List.mem_cons_of_mem _ bw_19_23) ⟨by decide, by decide⟩ dX12_cut_2 ?_
  refine v_iconst X dX12_cut_5 ?_
  refine v_istore_n X [(1, .int (iz 0)), (0, .ref (ad 53))] dX12_cut_6 rfl (by decide) rfl ?_
  have hl1 : ∀ (n3 : Nat) (Mx : MI) (Lx : MI) (i : Int) (j : Nat), (TokTo (bt (M 55) (M 53 4)) (M 53 4) M j Mx) → (j ≤ 401) → (0 ≤ i ∧ i ≤ M 53 4) → (lexP (bt (M 55) (M 53 4)) (M 53 4) i = plT (bt (M 55) (M 53 4)) (M 53 4) j) → (∀ i : Nat, i ≠ 59 → Lx i = L i) → (M 53 4 - i).toNat < n3 → V K 8 0 0 N sh ad Mx Lx R [(0, .ref (ad 53)), (1, .int (iz i))] [] 7 := by
    intro n3
    induction n3 with
    | zero => intro Mx Lx i j hT hj hi hp hL hn4; exact absurd hn4 (Nat.not_lt_zero _)
    | succ n3 ih2 =>
      intro Mx Lx i j hT hj hi hp hL hn4
      have e4 : Mx 53 4 = M 53 4 := hT.2.2.2 4 (by decide)
      have e55 : Mx 55 = M 55 := hT.2.2.1 55 (by decide) (by decide)
      have e10 : Mx 53 10 = (j : Int) := hT.1
      have hKx : keyOk Lx := fun k k1 k2 => by rw [hL 60 (by decide)]; exact hK k k1 k2
      refine v_aload_n X 0 dX12_cut_7 rfl rfl ?_
      refine gt_X12_tokens X iwX12 (Std.lt hS rfl) (Std.k hS rfl rfl) (List.mem_cons_of_mem _ bw_19_23) dX12_cut_8 (Mx 53 10) rfl (fun hr5 => ?_)
      refine v_sipush X dX12_cut_11 (by decide) ?_
      refine v_icmp_gt X 294 dX12_cut_14 (by decide) ⟨by omega, by omega⟩ ⟨by decide, by decide⟩ (fun u6 => ?_) (fun u6 => ?_)
      · skip
        refine hret _ _ _ _ _ _ _ _ _ _ _ none dX12_cut_294 ⟨rfl, rfl⟩ (by decide) (by decide) (fun hmok => ?_)
        exact ⟨rfl, rfl, rfl, rfl, rfl, fun k k1 k2 => (hT.2.1 k (by omega)).2, hT.2.2.1, hT.2.2.2, hL⟩
      · skip
        refine v_aload_n X 0 dX12_cut_17 rfl rfl ?_
        refine v_iload_n X 1 dX12_cut_18 rfl rfl ?_
        refine v_callV X [.int (iz i)] hRm (c_X12_at _ _ _ hS i (by omega) (show 0 ≤ (Mx 53 4) ∧ (Mx 53 4) ≤ 2000 by omega)) (gV bw_20_0 bw_20_1 bw_20_2 bw_1_5 bw_20_3) rfl ddX12_at (by decide) (Std.lt hS rfl) (Std.k hS rfl rfl) ⟨rfl, by decide⟩ (Nat.le_of_ble_eq_true rfl) dX12_cut_19 (k_pI (fun r7 hr8 e9 => ?_))
        replace e9 : r7 = u8 ((bt (M 55) (M 53 4)) i) ∧ -128 ≤ (bt (M 55) (M 53 4)) i ∧ (bt (M 55) (M 53 4)) i < 128 := by have e0 := e9; rw [e55, e4] at e0; exact e0
        refine v_istore_n X [(2, .int (iz r7)), (0, .ref (ad 53)), (1, .int (iz i))] dX12_cut_22 rfl (by decide) rfl ?_
        refine v_iload_n X 2 dX12_cut_23 rfl rfl ?_
        refine v_aload_n X 1 dX12_cut_24 rfl rfl ?_
        refine gt_X12_size X iwX12 (Std.lt hS rfl) (Std.k hS rfl rfl) (List.mem_cons_of_mem _ bw_19_10) dX12_cut_25 (Mx 53 4) rfl (fun hr10 => ?_)
        refine v_icmp_lt X 43 dX12_cut_28 (by decide) ⟨by omega, by omega⟩ ⟨by omega, by omega⟩ (fun u11 => ?_) (fun u11 => ?_)
        · skip
          refine v_iload_n X 0 dX12_cut_43 rfl rfl ?_
          refine v_bipush X dX12_cut_44 (by decide) ?_
          refine v_icmp_eq X 67 dX12_cut_46 (by decide) ⟨by omega, by omega⟩ ⟨by decide, by decide⟩ (fun u12 => ?_) (fun u12 => ?_)
          · skip
            refine v_iinc X 2 [(1, .int (iz (i + 1))), (2, .int (iz r7)), (0, .ref (ad 53))] dX12_cut_67 rfl (by decide) rfl ?_
            refine v_goto X 291 dX12_cut_70 (by decide) ?_
            refine v_goto X 7 dX12_cut_291 (by decide) ?_
            refine v_lv [2, 0] rfl ?_
            exact ih2 Mx Lx (i + 1) j (hT) (by omega) (by omega) (by rw [← hp]; exact (skp_go (by omega) (blB_t.mpr ((u8_bl e9.2).mp (by rw [← e9.1]; omega)))).symm) (hL) (by omega)
          · skip
            refine v_iload_n X 0 dX12_cut_49 rfl rfl ?_
            refine v_bipush X dX12_cut_50 (by decide) ?_
            refine v_icmp_eq X 67 dX12_cut_52 (by decide) ⟨by omega, by omega⟩ ⟨by decide, by decide⟩ (fun u13 => ?_) (fun u13 => ?_)
            · skip
              refine v_iinc X 2 [(1, .int (iz (i + 1))), (2, .int (iz r7)), (0, .ref (ad 53))] dX12_cut_67 rfl (by decide) rfl ?_
              refine v_goto X 291 dX12_cut_70 (by decide) ?_
              refine v_goto X 7 dX12_cut_291 (by decide) ?_
              refine v_lv [2, 0] rfl ?_
              exact ih2 Mx Lx (i + 1) j (hT) (by omega) (by omega) (by rw [← hp]; exact (skp_go (by omega) (blB_t.mpr ((u8_bl e9.2).mp (by rw [← e9.1]; omega)))).symm) (hL) (by omega)
            · skip
              refine v_iload_n X 0 dX12_cut_55 rfl rfl ?_
              refine v_bipush X dX12_cut_56 (by decide) ?_
              refine v_icmp_eq X 67 dX12_cut_58 (by decide) ⟨by omega, by omega⟩ ⟨by decide, by decide⟩ (fun u14 => ?_) (fun u14 => ?_)
              · skip
                refine v_iinc X 2 [(1, .int (iz (i + 1))), (2, .int (iz r7)), (0, .ref (ad 53))] dX12_cut_67 rfl (by decide) rfl ?_
                refine v_goto X 291 dX12_cut_70 (by decide) ?_
                refine v_goto X 7 dX12_cut_291 (by decide) ?_
                refine v_lv [2, 0] rfl ?_
                exact ih2 Mx Lx (i + 1) j (hT) (by omega) (by omega) (by rw [← hp]; exact (skp_go (by omega) (blB_t.mpr ((u8_bl e9.2).mp (by rw [← e9.1]; omega)))).symm) (hL) (by omega)
              · skip
                refine v_iload_n X 0 dX12_cut_61 rfl rfl ?_
                refine v_bipush X dX12_cut_62 (by decide) ?_
                refine v_icmp_ne X 73 dX12_cut_64 (by decide) ⟨by omega, by omega⟩ ⟨by decide, by decide⟩ (fun u15 => ?_) (fun u15 => ?_)
                · skip
                  have hpi : plT (bt (M 55) (M 53 4)) (M 53 4) j = i := by rw [← hp]; exact skp_st (fun z => by have z2 := (u8_bl e9.2).mpr (blB_t.mp z.2); rw [← e9.1] at z2; omega)
                  have hin : i < M 53 4 := by omega
                  refine v_iload_n X 0 dX12_cut_73 rfl rfl ?_
                  refine v_callS X [.int (iz r7)] hRm (c_X12_isLetter _ _ _ r7 ⟨by omega, by omega⟩) (gS bw_20_8 bw_20_9 bw_1_5 bw_20_10) rfl ddX12_isLetter (by decide) (Nat.le_of_ble_eq_true rfl) dX12_cut_74 (k_pB (fun b16 => ?_) (fun b16 => ?_))
                  · skip
                    refine v_if_eq X 196 dX12_cut_77 (by decide) ⟨by decide, by decide⟩ (fun q => absurd q (by decide)) (fun _ => ?_)
                    have hlt0 : ltB ((bt (M 55) (M 53 4)) i) = true := ltB_t.mpr ((u8_lt e9.2).mp (by rw [← e9.1]; omega))
                    refine v_iconst X dX12_cut_80 ?_
                    refine v_istore_n X [(3, .int (iz 0)), (2, .int (iz r7)), (0, .ref (ad 53)), (1, .int (iz i))] dX12_cut_81 rfl (by decide) rfl ?_
                    refine v_lconst X dX12_cut_82 (by decide) ?_
                    refine v_lstore X [(4, .long (lz 0)), (3, .int (iz 0)), (2, .int (iz r7)), (0, .ref (ad 53)), (1, .int (iz i))] dX12_cut_83 (by decide) rfl ?_
                    have hl17 : ∀ (n19 : Nat) (x : Int) (nm : Int), (0 ≤ x ∧ i + x ≤ M 53 4) → (skp ltB (bt (M 55) (M 53 4)) (M 53 4) (i + x) = skp ltB (bt (M 55) (M 53 4)) (M 53 4) i) → (nm = nmV (bt (M 55) (M 53 4)) i (min x 8).toNat) → (∀ k : Nat, (k : Int) < x → 97 ≤ (bt (M 55) (M 53 4)) (i + (k : Int)) ∧ (bt (M 55) (M 53 4)) (i + (k : Int)) ≤ 122) → (M 53 4 - (i + x)).toNat < n19 → V K 8 0 0 N sh ad Mx Lx R [(0, .ref (ad 53)), (1, .int (iz i)), (3, .int (iz x)), (4, .long (lz nm))] [] 85 := by
                      intro n19
                      induction n19 with
                      | zero => intro x nm hx hs hnm hlt hn20; exact absurd hn20 (Nat.not_lt_zero _)
                      | succ n19 ih18 =>
                        intro x nm hx hs hnm hlt hn20
                        refine v_aload_n X 0 dX12_cut_85 rfl rfl ?_
                        refine v_iload_n X 1 dX12_cut_86 rfl rfl ?_
                        refine v_iload_n X 2 dX12_cut_87 rfl rfl ?_
                        refine v_iadd X dX12_cut_88 ?_
                        refine v_callV X [.int (iz (i + x))] hRm (c_X12_at _ _ _ hS (i + x) (by omega) (show 0 ≤ (Mx 53 4) ∧ (Mx 53 4) ≤ 2000 by omega)) (gV bw_20_0 bw_20_1 bw_20_2 bw_1_5 bw_20_3) rfl ddX12_at (by decide) (Std.lt hS rfl) (Std.k hS rfl rfl) ⟨rfl, by decide⟩ (Nat.le_of_ble_eq_true rfl) dX12_cut_89 (k_pI (fun r21 hr22 e23 => ?_))
                        replace e23 : r21 = u8 ((bt (M 55) (M 53 4)) (i + x)) ∧ -128 ≤ (bt (M 55) (M 53 4)) (i + x) ∧ (bt (M 55) (M 53 4)) (i + x) < 128 := by have e0 := e23; rw [e55, e4] at e0; exact e0
                        refine v_callS X [.int (iz r21)] hRm (c_X12_isLetter _ _ _ r21 ⟨by omega, by omega⟩) (gS bw_20_8 bw_20_9 bw_1_5 bw_20_10) rfl ddX12_isLetter (by decide) (Nat.le_of_ble_eq_true rfl) dX12_cut_92 (k_pB (fun b24 => ?_) (fun b24 => ?_))
                        · skip
                          refine v_if_eq X 124 dX12_cut_95 (by decide) ⟨by decide, by decide⟩ (fun q => absurd q (by decide)) (fun _ => ?_)
                          have hltx : ltB ((bt (M 55) (M 53 4)) (i + x)) = true := ltB_t.mpr ((u8_lt e23.2).mp (by rw [← e23.1]; omega))
                          have hxn : i + x < M 53 4 := bt_lt (f := M 55) (by have := ltB_t.mp hltx; omega)
                          refine v_iload_n X 2 dX12_cut_98 rfl rfl ?_
                          refine v_bipush X dX12_cut_99 (by decide) ?_
                          refine v_icmp_ge X 118 dX12_cut_101 (by decide) ⟨by omega, by omega⟩ ⟨by decide, by decide⟩ (fun u25 => ?_) (fun u25 => ?_)
                          · skip
                            refine v_iinc X 2 [(3, .int (iz (x + 1))), (0, .ref (ad 53)), (1, .int (iz i)), (4, .long (lz nm))] dX12_cut_118 rfl (by decide) rfl ?_
                            refine v_goto X 85 dX12_cut_121 (by decide) ?_
                            refine v_lv [1, 2, 0, 3] rfl ?_
                            exact ih18 (x + 1) nm (by omega) (by rw [← hs, ← Int.add_assoc]; exact (skp_go hxn hltx).symm) (by rw [hnm, show (min (x + 1) 8).toNat = (min x 8).toNat by omega]) (fun k hk => by by_cases c : (k : Int) = x; (rw [c]; exact ltB_t.mp hltx); exact hlt k (by omega)) (by omega)
                          · skip
                            refine v_lload X 3 dX12_cut_104 rfl ?_
                            refine v_aload_n X 0 dX12_cut_106 rfl rfl ?_
                            refine v_iload_n X 1 dX12_cut_107 rfl rfl ?_
                            refine v_iload_n X 2 dX12_cut_108 rfl rfl ?_
                            refine v_iadd X dX12_cut_109 ?_
                            refine v_callV X [.int (iz (i + x))] hRm (c_X12_at _ _ _ hS (i + x) (by omega) (show 0 ≤ (Mx 53 4) ∧ (Mx 53 4) ≤ 2000 by omega)) (gV bw_20_0 bw_20_1 bw_20_2 bw_1_5 bw_20_3) rfl ddX12_at (by decide) (Std.lt hS rfl) (Std.k hS rfl rfl) ⟨rfl, by decide⟩ (Nat.le_of_ble_eq_true rfl) dX12_cut_110 (k_pI (fun r26 hr27 e28 => ?_))
                            replace e28 : r26 = u8 ((bt (M 55) (M 53 4)) (i + x)) ∧ -128 ≤ (bt (M 55) (M 53 4)) (i + x) ∧ (bt (M 55) (M 53 4)) (i + x) < 128 := by have e0 := e28; rw [e55, e4] at e0; exact e0
                            have hu9 := u8_id (z := (bt (M 55) (M 53 4)) (i + x)) (by have := ltB_t.mp hltx; omega)
                            have hu8 := ltB_t.mp hltx
                            have hu7 := e28.1
                            refine v_callS X [.long (lz nm), .int (iz r26)] hRm (c_X12_more _ _ _ nm r26 ⟨by omega, by omega⟩) (gS bw_10_7 bw_10_8 bw_1_5 bw_10_9) rfl ddX12_more (by decide) (Nat.le_of_ble_eq_true rfl) dX12_cut_113 (k_pL (fun r29 e30 => ?_))
                            refine v_lstore X [(4, .long (lz r29)), (0, .ref (ad 53)), (1, .int (iz i)), (3, .int (iz x))] dX12_cut_116 (by decide) rfl ?_
                            refine v_iinc X 3 [(3, .int (iz (x + 1))), (4, .long (lz r29)), (0, .ref (ad 53)), (1, .int (iz i))] dX12_cut_118 rfl (by decide) rfl ?_
                            refine v_goto X 85 dX12_cut_121 (by decide) ?_
                            refine v_lv [2, 3, 0, 1] rfl ?_
                            exact ih18 (x + 1) r29 (by omega) (by rw [← hs, ← Int.add_assoc]; exact (skp_go hxn hltx).symm) (by rw [e30, show (min (x + 1) 8).toNat = x.toNat + 1 by omega, nmV_s, show (x.toNat : Int) = x by omega, if_neg (by omega), hnm, show (min x 8).toNat = x.toNat by omega]; have q9 := u8_id (z := (bt (M 55) (M 53 4)) (i + x)) (by have := ltB_t.mp hltx; omega); omega) (fun k hk => by by_cases c : (k : Int) = x; (rw [c]; exact ltB_t.mp hltx); exact hlt k (by omega)) (by omega)
                        · skip
                          refine v_if_eq X 124 dX12_cut_95 (by decide) ⟨by decide, by decide⟩ (fun _ => ?_) (fun q => absurd (by decide) q)
                          have hE : skp ltB (bt (M 55) (M 53 4)) (M 53 4) i = i + x := by rw [← hs]; exact skp_st (fun z => by have z2 := (u8_lt e23.2).mpr (ltB_t.mp z.2); rw [← e23.1] at z2; omega)
                          have hx1 : 1 ≤ x := by have q9 := skp_go (n := M 53 4) hin hlt0; rw [hE] at q9; have q8 : i + 1 ≤ skp ltB (bt (M 55) (M 53 4)) (M 53 4) (i + 1) := skp_le; omega
                          have htw := tk_word hin hlt0
                          have hte : tkE (bt (M 55) (M 53 4)) (M 53 4) i = i + x := htw.2.2.trans hE
                          have hkd : kdT (bt (M 55) (M 53 4)) (M 53 4) j = wdK (bt (M 55) (M 53 4)) i (i + (x.toNat : Int)) := by unfold kdT; rw [hpi, htw.1, hE, show (x.toNat : Int) = x by omega]
                          have hll : ∀ k : Nat, k < x.toNat → 97 ≤ (bt (M 55) (M 53 4)) (i + (k : Int)) ∧ (bt (M 55) (M 53 4)) (i + (k : Int)) ≤ 122 := fun k hk => hlt k (by omega)
                          have hnb := nmV_L (g := (bt (M 55) (M 53 4))) (p := i) (k := (min x 8).toNat) (by omega) (fun k hk => hlt k (by omega))
                          rw [← hnm] at hnb
                          refine v_iload_n X 2 dX12_cut_124 rfl rfl ?_
                          refine v_bipush X dX12_cut_125 (by decide) ?_
                          refine v_icmp_le X 134 dX12_cut_127 (by decide) ⟨by omega, by omega⟩ ⟨by decide, by decide⟩ (fun u31 => ?_) (fun u31 => ?_)
                          · skip
                            refine v_iconst X dX12_cut_134 ?_
                            refine v_istore X [(6, .int (iz 1)), (0, .ref (ad 53)), (1, .int (iz i)), (3, .int (iz x)), (4, .long (lz nm))] dX12_cut_135 (by decide) rfl ?_
                            refine v_iload_n X 3 dX12_cut_137 rfl rfl ?_
                            refine v_bipush X dX12_cut_138 (by decide) ?_
                            refine v_icmp_gt X 179 dX12_cut_140 (by decide) ⟨by omega, by omega⟩ ⟨by decide, by decide⟩ (fun u32 => ?_) (fun u32 => ?_)
                            · skip
                              refine v_aload_n X 1 dX12_cut_179 rfl rfl ?_
                              refine v_iload X 0 dX12_cut_180 rfl ?_
                              refine v_iload_n X 2 dX12_cut_182 rfl rfl ?_
                              refine v_iconst X dX12_cut_183 ?_
                              refine v_lload X 4 dX12_cut_184 rfl ?_
                              refine v_callV X [.int (iz 1), .int (iz i), .int (iz 0), .long (lz nm)] hRm (c_X12_token _ _ _ hS 1 i 0 nm ⟨by omega, by omega⟩ ⟨by omega, by omega⟩ ⟨by omega, by omega⟩ (show 0 ≤ (Mx 53 10) ∧ (Mx 53 10) ≤ 402 by omega)) (gV bw_20_4 bw_20_5 bw_20_6 bw_1_5 bw_20_7) rfl ddX12_token (by decide) (Std.lt hS rfl) (Std.k hS rfl rfl) ⟨rfl, by decide⟩ (Nat.le_of_ble_eq_true rfl) dX12_cut_186 (k_eVL (fun M33 L34 e35 => ?_))
                              have hnx : TokTo (bt (M 55) (M 53 4)) (M 53 4) M (j + 1) M33 := Tok_next hT e35.1 (by rw [hkd, word_long (by omega) hll]; rfl) hpi.symm (fun z => by rw [hkd] at z; exfalso; have q9 := firstN_in (p := isWB (bt (M 55) (M 53 4)) i (i + (x.toNat : Int))) 15; unfold wdK at z; split at z <;> omega) (by rw [hkd]; exact wdK_26 _ _ _)
                              refine v_iload_n X 2 dX12_cut_189 rfl rfl ?_
                              refine v_iload_n X 3 dX12_cut_190 rfl rfl ?_
                              refine v_iadd X dX12_cut_191 ?_
                              refine v_istore_n X [(1, .int (iz (i + x))), (6, .int (iz 1)), (0, .ref (ad 53)), (3, .int (iz x)), (4, .long (lz nm))] dX12_cut_192 rfl (by decide) rfl ?_
                              refine v_goto X 291 dX12_cut_193 (by decide) ?_
                              refine v_goto X 7 dX12_cut_291 (by decide) ?_
                              refine v_lv [2, 0] rfl ?_
                              exact ih2 M33 L34 (i + x) (j + 1) (hnx) (by omega) (by have h9 := tkE_in (f := M 55) (n := M 53 4) (p := i) (by omega) (by omega); rw [hte] at h9; omega) (plT_s hpi hte) (fun q hq => (e35.2 q hq).trans (hL q hq)) (by omega)
                            · skip
                              refine v_iconst X dX12_cut_143 ?_
                              refine v_istore X [(7, .int (iz 0)), (6, .int (iz 1)), (0, .ref (ad 53)), (1, .int (iz i)), (3, .int (iz x)), (4, .long (lz nm))] dX12_cut_144 (by decide) rfl ?_
                              have hl36 : ∀ (n38 : Nat) (k : Int) (kd : Int), (0 ≤ k ∧ k ≤ 15) → (x ≤ 7) → (kd = kyK (Lx 60) nm 1 k.toNat) → (0 ≤ kd ∧ kd ≤ 40) → (15 - k).toNat < n38 → V K 8 0 0 N sh ad Mx Lx R [(0, .ref (ad 53)), (1, .int (iz i)), (3, .int (iz x)), (4, .long (lz nm)), (6, .int (iz kd)), (7, .int (iz k))] [] 146 := by
                                intro n38
                                induction n38 with
                                | zero => intro k kd hk h7 hkk hkd2 hn39; exact absurd hn39 (Nat.not_lt_zero _)
                                | succ n38 ih37 =>
                                  intro k kd hk h7 hkk hkd2 hn39
                                  refine v_iload X 5 dX12_cut_146 rfl ?_
                                  refine v_bipush X dX12_cut_148 (by decide) ?_
                                  refine v_icmp_ge X 179 dX12_cut_150 (by decide) ⟨by omega, by omega⟩ ⟨by decide, by decide⟩ (fun u40 => ?_) (fun u40 => ?_)
                                  · skip
                                    refine v_aload_n X 0 dX12_cut_179 rfl rfl ?_
                                    refine v_iload X 4 dX12_cut_180 rfl ?_
                                    refine v_iload_n X 1 dX12_cut_182 rfl rfl ?_
                                    refine v_iconst X dX12_cut_183 ?_
                                    refine v_lload X 3 dX12_cut_184 rfl ?_
                                    refine v_callV X [.int (iz kd), .int (iz i), .int (iz 0), .long (lz nm)] hRm (c_X12_token _ _ _ hS kd i 0 nm ⟨by omega, by omega⟩ ⟨by omega, by omega⟩ ⟨by omega, by omega⟩ (show 0 ≤ (Mx 53 10) ∧ (Mx 53 10) ≤ 402 by omega)) (gV bw_20_4 bw_20_5 bw_20_6 bw_1_5 bw_20_7) rfl ddX12_token (by decide) (Std.lt hS rfl) (Std.k hS rfl rfl) ⟨rfl, by decide⟩ (Nat.le_of_ble_eq_true rfl) dX12_cut_186 (k_eVL (fun M41 L42 e43 => ?_))
                                    have hnx : TokTo (bt (M 55) (M 53 4)) (M 53 4) M (j + 1) M41 := Tok_next hT e43.1 (by have q9 := word_same hKx (g := (bt (M 55) (M 53 4))) (p := i) (n := x.toNat) (by omega) hll; rw [show (min x 8).toNat = x.toNat by omega] at hnm; obtain rfl : k = 15 := (by omega); rw [hkk, hnm, hkd]; exact q9) hpi.symm (fun z => by rw [hkd] at z; exfalso; have q9 := firstN_in (p := isWB (bt (M 55) (M 53 4)) i (i + (x.toNat : Int))) 15; unfold wdK at z; split at z <;> omega) (by rw [hkd]; exact wdK_26 _ _ _)
                                    refine v_iload_n X 1 dX12_cut_189 rfl rfl ?_
                                    refine v_iload_n X 2 dX12_cut_190 rfl rfl ?_
                                    refine v_iadd X dX12_cut_191 ?_
                                    refine v_istore_n X [(1, .int (iz (i + x))), (0, .ref (ad 53)), (3, .int (iz x)), (4, .long (lz nm)), (6, .int (iz kd)), (7, .int (iz k))] dX12_cut_192 rfl (by decide) rfl ?_
                                    refine v_goto X 291 dX12_cut_193 (by decide) ?_
                                    refine v_goto X 7 dX12_cut_291 (by decide) ?_
                                    refine v_lv [1, 0] rfl ?_
                                    exact ih2 M41 L42 (i + x) (j + 1) (hnx) (by omega) (by have h9 := tkE_in (f := M 55) (n := M 53 4) (p := i) (by omega) (by omega); rw [hte] at h9; omega) (plT_s hpi hte) (fun q hq => (e43.2 q hq).trans (hL q hq)) (by omega)
                                  · skip
                                    refine v_aload_n X 0 dX12_cut_153 rfl rfl ?_
                                    refine gt_X12_keys X iwX12 (Std.lt hS rfl) (Std.k hS rfl rfl) (List.mem_cons_of_mem _ bw_7_21) dX12_cut_154 60 (Std.r hS 9 rfl) ?_
                                    refine v_iload X 5 dX12_cut_157 rfl ?_
                                    refine v_lald X (Lx 60 k) (Std.lt hS rfl) (Std.at hS rfl rfl) (by omega) (by omega) dX12_cut_159 rfl ?_
                                    refine v_lload X 3 dX12_cut_160 rfl ?_
                                    have hkv := keyV_L ⟨k.toNat, by omega⟩
                                    have hkq : Lx 60 k = keyV ((k.toNat : Nat) : Int) := by rw [show ((k.toNat : Nat) : Int) = k by omega]; exact hKx k (by omega) (by omega)
                                    dsimp only at hkv
                                    rw [← hkq] at hkv
                                    obtain ⟨z, hz1, hz2, hz3⟩ := lcmp_c (a := (Lx 60 k)) (b := nm) ⟨by omega, by omega⟩ ⟨by omega, by omega⟩
                                    refine v_lcmp X z dX12_cut_162 hz1 ?_
                                    refine v_if_ne X 173 dX12_cut_163 (by decide) ⟨by omega, by omega⟩ (fun u44 => ?_) (fun u44 => ?_)
                                    · skip
                                      refine v_iinc X 5 [(7, .int (iz (k + 1))), (0, .ref (ad 53)), (1, .int (iz i)), (3, .int (iz x)), (4, .long (lz nm)), (6, .int (iz kd))] dX12_cut_173 rfl (by decide) rfl ?_
                                      refine v_goto X 146 dX12_cut_176 (by decide) ?_
                                      refine v_lv [1, 2, 3, 4, 5, 0] rfl ?_
                                      exact ih37 (k + 1) kd (by omega) (by omega) (by rw [show (k + 1).toNat = k.toNat + 1 by omega, kyK_s, show (k.toNat : Int) = k by omega, if_neg (fun z => absurd (hz3.mpr z) (by omega))]; exact hkk) (by omega) (by omega)
                                    · skip
                                      refine v_bipush X dX12_cut_166 (by decide) ?_
                                      refine v_iload X 5 dX12_cut_168 rfl ?_
                                      refine v_iadd X dX12_cut_170 ?_
                                      refine v_istore X [(6, .int (iz (20 + k))), (0, .ref (ad 53)), (1, .int (iz i)), (3, .int (iz x)), (4, .long (lz nm)), (7, .int (iz k))] dX12_cut_171 (by decide) rfl ?_
                                      refine v_iinc X 5 [(7, .int (iz (k + 1))), (6, .int (iz (20 + k))), (0, .ref (ad 53)), (1, .int (iz i)), (3, .int (iz x)), (4, .long (lz nm))] dX12_cut_173 rfl (by decide) rfl ?_
                                      refine v_goto X 146 dX12_cut_176 (by decide) ?_
                                      refine v_lv [2, 3, 4, 5, 1, 0] rfl ?_
                                      exact ih37 (k + 1) (20 + k) (by omega) (by omega) (by rw [show (k + 1).toNat = k.toNat + 1 by omega, kyK_s, show (k.toNat : Int) = k by omega, if_pos (hz3.mp (by omega))]) (by omega) (by omega)
                              refine v_lv [2, 3, 4, 5, 1, 0] rfl ?_
                              exact hl36 _ 0 1 (by omega) (by omega) (by first | rfl | (exfalso; omega)) (by omega) (Nat.lt_succ_self _)
                          · skip
                            refine v_iconst X dX12_cut_130 ?_
                            refine v_goto X 135 dX12_cut_131 (by decide) ?_
                            refine v_istore X [(6, .int (iz 3)), (0, .ref (ad 53)), (1, .int (iz i)), (3, .int (iz x)), (4, .long (lz nm))] dX12_cut_135 (by decide) rfl ?_
                            refine v_iload_n X 3 dX12_cut_137 rfl rfl ?_
                            refine v_bipush X dX12_cut_138 (by decide) ?_
                            refine v_icmp_gt X 179 dX12_cut_140 (by decide) ⟨by omega, by omega⟩ ⟨by decide, by decide⟩ (fun u45 => ?_) (fun u45 => ?_)
                            · skip
                              refine v_aload_n X 1 dX12_cut_179 rfl rfl ?_
                              refine v_iload X 0 dX12_cut_180 rfl ?_
                              refine v_iload_n X 2 dX12_cut_182 rfl rfl ?_
                              refine v_iconst X dX12_cut_183 ?_
                              refine v_lload X 4 dX12_cut_184 rfl ?_
                              refine v_callV X [.int (iz 3), .int (iz i), .int (iz 0), .long (lz nm)] hRm (c_X12_token _ _ _ hS 3 i 0 nm ⟨by omega, by omega⟩ ⟨by omega, by omega⟩ ⟨by omega, by omega⟩ (show 0 ≤ (Mx 53 10) ∧ (Mx 53 10) ≤ 402 by omega)) (gV bw_20_4 bw_20_5 bw_20_6 bw_1_5 bw_20_7) rfl ddX12_token (by decide) (Std.lt hS rfl) (Std.k hS rfl rfl) ⟨rfl, by decide⟩ (Nat.le_of_ble_eq_true rfl) dX12_cut_186 (k_eVL (fun M46 L47 e48 => ?_))
                              have hnx : TokTo (bt (M 55) (M 53 4)) (M 53 4) M (j + 1) M46 := Tok_next hT e48.1 (by rw [hkd, word_long (by omega) hll]; rfl) hpi.symm (fun z => by rw [hkd] at z; exfalso; have q9 := firstN_in (p := isWB (bt (M 55) (M 53 4)) i (i + (x.toNat : Int))) 15; unfold wdK at z; split at z <;> omega) (by rw [hkd]; exact wdK_26 _ _ _)
                              refine v_iload_n X 2 dX12_cut_189 rfl rfl ?_
                              refine v_iload_n X 3 dX12_cut_190 rfl rfl ?_
                              refine v_iadd X dX12_cut_191 ?_
                              refine v_istore_n X [(1, .int (iz (i + x))), (6, .int (iz 3)), (0, .ref (ad 53)), (3, .int (iz x)), (4, .long (lz nm))] dX12_cut_192 rfl (by decide) rfl ?_
                              refine v_goto X 291 dX12_cut_193 (by decide) ?_
                              refine v_goto X 7 dX12_cut_291 (by decide) ?_
                              refine v_lv [2, 0] rfl ?_
                              exact ih2 M46 L47 (i + x) (j + 1) (hnx) (by omega) (by have h9 := tkE_in (f := M 55) (n := M 53 4) (p := i) (by omega) (by omega); rw [hte] at h9; omega) (plT_s hpi hte) (fun q hq => (e48.2 q hq).trans (hL q hq)) (by omega)
                            · skip
                              refine v_iconst X dX12_cut_143 ?_
                              refine v_istore X [(7, .int (iz 0)), (6, .int (iz 3)), (0, .ref (ad 53)), (1, .int (iz i)), (3, .int (iz x)), (4, .long (lz nm))] dX12_cut_144 (by decide) rfl ?_
                              have hl49 : ∀ (n51 : Nat) (k : Int) (kd : Int), (0 ≤ k ∧ k ≤ 15) → (x ≤ 7) → (kd = kyK (Lx 60) nm 1 k.toNat) → (0 ≤ kd ∧ kd ≤ 40) → (15 - k).toNat < n51 → V K 8 0 0 N sh ad Mx Lx R [(0, .ref (ad 53)), (1, .int (iz i)), (3, .int (iz x)), (4, .long (lz nm)), (6, .int (iz kd)), (7, .int (iz k))] [] 146 := by
                                intro n51
                                induction n51 with
                                | zero => intro k kd hk h7 hkk hkd2 hn52; exact absurd hn52 (Nat.not_lt_zero _)
                                | succ n51 ih50 =>
                                  intro k kd hk h7 hkk hkd2 hn52
                                  refine v_iload X 5 dX12_cut_146 rfl ?_
                                  refine v_bipush X dX12_cut_148 (by decide) ?_
                                  refine v_icmp_ge X 179 dX12_cut_150 (by decide) ⟨by omega, by omega⟩ ⟨by decide, by decide⟩ (fun u53 => ?_) (fun u53 => ?_)
                                  · skip
                                    refine v_aload_n X 0 dX12_cut_179 rfl rfl ?_
                                    refine v_iload X 4 dX12_cut_180 rfl ?_
                                    refine v_iload_n X 1 dX12_cut_182 rfl rfl ?_
                                    refine v_iconst X dX12_cut_183 ?_
                                    refine v_lload X 3 dX12_cut_184 rfl ?_
                                    refine v_callV X [.int (iz kd), .int (iz i), .int (iz 0), .long (lz nm)] hRm (c_X12_token _ _ _ hS kd i 0 nm ⟨by omega, by omega⟩ ⟨by omega, by omega⟩ ⟨by omega, by omega⟩ (show 0 ≤ (Mx 53 10) ∧ (Mx 53 10) ≤ 402 by omega)) (gV bw_20_4 bw_20_5 bw_20_6 bw_1_5 bw_20_7) rfl ddX12_token (by decide) (Std.lt hS rfl) (Std.k hS rfl rfl) ⟨rfl, by decide⟩ (Nat.le_of_ble_eq_true rfl) dX12_cut_186 (k_eVL (fun M54 L55 e56 => ?_))
                                    have hnx : TokTo (bt (M 55) (M 53 4)) (M 53 4) M (j + 1) M54 := Tok_next hT e56.1 (by have q9 := word_same hKx (g := (bt (M 55) (M 53 4))) (p := i) (n := x.toNat) (by omega) hll; rw [show (min x 8).toNat = x.toNat by omega] at hnm; obtain rfl : k = 15 := (by omega); rw [hkk, hnm, hkd]; exact q9) hpi.symm (fun z => by rw [hkd] at z; exfalso; have q9 := firstN_in (p := isWB (bt (M 55) (M 53 4)) i (i + (x.toNat : Int))) 15; unfold wdK at z; split at z <;> omega) (by rw [hkd]; exact wdK_26 _ _ _)
                                    refine v_iload_n X 1 dX12_cut_189 rfl rfl ?_
                                    refine v_iload_n X 2 dX12_cut_190 rfl rfl ?_
                                    refine v_iadd X dX12_cut_191 ?_
                                    refine v_istore_n X [(1, .int (iz (i + x))), (0, .ref (ad 53)), (3, .int (iz x)), (4, .long (lz nm)), (6, .int (iz kd)), (7, .int (iz k))] dX12_cut_192 rfl (by decide) rfl ?_
                                    refine v_goto X 291 dX12_cut_193 (by decide) ?_
                                    refine v_goto X 7 dX12_cut_291 (by decide) ?_
                                    refine v_lv [1, 0] rfl ?_
                                    exact ih2 M54 L55 (i + x) (j + 1) (hnx) (by omega) (by have h9 := tkE_in (f := M 55) (n := M 53 4) (p := i) (by omega) (by omega); rw [hte] at h9; omega) (plT_s hpi hte) (fun q hq => (e56.2 q hq).trans (hL q hq)) (by omega)
                                  · skip
                                    refine v_aload_n X 0 dX12_cut_153 rfl rfl ?_
                                    refine gt_X12_keys X iwX12 (Std.lt hS rfl) (Std.k hS rfl rfl) (List.mem_cons_of_mem _ bw_7_21) dX12_cut_154 60 (Std.r hS 9 rfl) ?_
                                    refine v_iload X 5 dX12_cut_157 rfl ?_
                                    refine v_lald X (Lx 60 k) (Std.lt hS rfl) (Std.at hS rfl rfl) (by omega) (by omega) dX12_cut_159 rfl ?_
                                    refine v_lload X 3 dX12_cut_160 rfl ?_
                                    have hkv := keyV_L ⟨k.toNat, by omega⟩
                                    have hkq : Lx 60 k = keyV ((k.toNat : Nat) : Int) := by rw [show ((k.toNat : Nat) : Int) = k by omega]; exact hKx k (by omega) (by omega)
                                    dsimp only at hkv
                                    rw [← hkq] at hkv
                                    obtain ⟨z, hz1, hz2, hz3⟩ := lcmp_c (a := (Lx 60 k)) (b := nm) ⟨by omega, by omega⟩ ⟨by omega, by omega⟩
                                    refine v_lcmp X z dX12_cut_162 hz1 ?_
                                    refine v_if_ne X 173 dX12_cut_163 (by decide) ⟨by omega, by omega⟩ (fun u57 => ?_) (fun u57 => ?_)
                                    · skip
                                      refine v_iinc X 5 [(7, .int (iz (k + 1))), (0, .ref (ad 53)), (1, .int (iz i)), (3, .int (iz x)), (4, .long (lz nm)), (6, .int (iz kd))] dX12_cut_173 rfl (by decide) rfl ?_
                                      refine v_goto X 146 dX12_cut_176 (by decide) ?_
                                      refine v_lv [1, 2, 3, 4, 5, 0] rfl ?_
                                      exact ih50 (k + 1) kd (by omega) (by omega) (by rw [show (k + 1).toNat = k.toNat + 1 by omega, kyK_s, show (k.toNat : Int) = k by omega, if_neg (fun z => absurd (hz3.mpr z) (by omega))]; exact hkk) (by omega) (by omega)
                                    · skip
                                      refine v_bipush X dX12_cut_166 (by decide) ?_
                                      refine v_iload X 5 dX12_cut_168 rfl ?_
                                      refine v_iadd X dX12_cut_170 ?_
                                      refine v_istore X [(6, .int (iz (20 + k))), (0, .ref (ad 53)), (1, .int (iz i)), (3, .int (iz x)), (4, .long (lz nm)), (7, .int (iz k))] dX12_cut_171 (by decide) rfl ?_
                                      refine v_iinc X 5 [(7, .int (iz (k + 1))), (6, .int (iz (20 + k))), (0, .ref (ad 53)), (1, .int (iz i)), (3, .int (iz x)), (4, .long (lz nm))] dX12_cut_173 rfl (by decide) rfl ?_
                                      refine v_goto X 146 dX12_cut_176 (by decide) ?_
                                      refine v_lv [2, 3, 4, 5, 1, 0] rfl ?_
                                      exact ih50 (k + 1) (20 + k) (by omega) (by omega) (by rw [show (k + 1).toNat = k.toNat + 1 by omega, kyK_s, show (k.toNat : Int) = k by omega, if_pos (hz3.mp (by omega))]) (by omega) (by omega)
                              refine v_lv [2, 3, 4, 5, 1, 0] rfl ?_
                              exact hl49 _ 0 3 (by omega) (by omega) (by first | rfl | (exfalso; omega)) (by omega) (Nat.lt_succ_self _)
                    refine v_lv [3, 4, 1, 0] rfl ?_
                    exact hl17 _ 0 0 (by omega) (by rw [Int.add_zero]) (rfl) (fun k hk => by omega) (Nat.lt_succ_self _)
                  · skip
                    refine v_if_eq X 196 dX12_cut_77 (by decide) ⟨by decide, by decide⟩ (fun _ => ?_) (fun q => absurd (by decide) q)
                    refine v_iload_n X 0 dX12_cut_196 rfl rfl ?_
                    refine v_callS X [.int (iz r7)] hRm (c_X12_isDigit _ _ _ r7 ⟨by omega, by omega⟩) (gS bw_20_11 bw_20_12 bw_1_5 bw_20_13) rfl ddX12_isDigit (by decide) (Nat.le_of_ble_eq_true rfl) dX12_cut_197 (k_pB (fun b58 => ?_) (fun b58 => ?_))
                    · skip
                      refine v_if_eq X 275 dX12_cut_200 (by decide) ⟨by decide, by decide⟩ (fun q => absurd q (by decide)) (fun _ => ?_)
                      have hnl : ¬ ltB ((bt (M 55) (M 53 4)) i) = true := fun z => by have z2 := (u8_lt e9.2).mpr (ltB_t.mp z); rw [← e9.1] at z2; omega
                      have hdg0 : dgB ((bt (M 55) (M 53 4)) i) = true := dgB_t.mpr ((u8_dg e9.2).mp (by rw [← e9.1]; omega))
                      refine v_iconst X dX12_cut_203 ?_
                      refine v_istore_n X [(3, .int (iz 0)), (2, .int (iz r7)), (0, .ref (ad 53)), (1, .int (iz i))] dX12_cut_204 rfl (by decide) rfl ?_
                      refine v_iconst X dX12_cut_205 ?_
                      refine v_istore X [(4, .int (iz 0)), (3, .int (iz 0)), (2, .int (iz r7)), (0, .ref (ad 53)), (1, .int (iz i))] dX12_cut_206 (by decide) rfl ?_
                      have hl59 : ∀ (n61 : Nat) (x : Int) (y : Int), (0 ≤ x ∧ i + x ≤ M 53 4) → (skp dgB (bt (M 55) (M 53 4)) (M 53 4) (i + x) = skp dgB (bt (M 55) (M 53 4)) (M 53 4) i) → (y = dgU (bt (M 55) (M 53 4)) i (min x 4).toNat) → (0 ≤ y ∧ y < 10000) → (∀ k : Nat, (k : Int) < x → 48 ≤ (bt (M 55) (M 53 4)) (i + (k : Int)) ∧ (bt (M 55) (M 53 4)) (i + (k : Int)) ≤ 57) → (M 53 4 - (i + x)).toNat < n61 → V K 8 0 0 N sh ad Mx Lx R [(0, .ref (ad 53)), (1, .int (iz i)), (3, .int (iz x)), (4, .int (iz y))] [] 208 := by
                        intro n61
                        induction n61 with
                        | zero => intro x y hx hs hy hyb hdg hn62; exact absurd hn62 (Nat.not_lt_zero _)
                        | succ n61 ih60 =>
                          intro x y hx hs hy hyb hdg hn62
                          refine v_aload_n X 0 dX12_cut_208 rfl rfl ?_
                          refine v_iload_n X 1 dX12_cut_209 rfl rfl ?_
                          refine v_iload_n X 2 dX12_cut_210 rfl rfl ?_
                          refine v_iadd X dX12_cut_211 ?_
                          refine v_callV X [.int (iz (i + x))] hRm (c_X12_at _ _ _ hS (i + x) (by omega) (show 0 ≤ (Mx 53 4) ∧ (Mx 53 4) ≤ 2000 by omega)) (gV bw_20_0 bw_20_1 bw_20_2 bw_1_5 bw_20_3) rfl ddX12_at (by decide) (Std.lt hS rfl) (Std.k hS rfl rfl) ⟨rfl, by decide⟩ (Nat.le_of_ble_eq_true rfl) dX12_cut_212 (k_pI (fun r63 hr64 e65 => ?_))
                          replace e65 : r63 = u8 ((bt (M 55) (M 53 4)) (i + x)) ∧ -128 ≤ (bt (M 55) (M 53 4)) (i + x) ∧ (bt (M 55) (M 53 4)) (i + x) < 128 := by have e0 := e65; rw [e55, e4] at e0; exact e0
                          refine v_callS X [.int (iz r63)] hRm (c_X12_isDigit _ _ _ r63 ⟨by omega, by omega⟩) (gS bw_20_11 bw_20_12 bw_1_5 bw_20_13) rfl ddX12_isDigit (by decide) (Nat.le_of_ble_eq_true rfl) dX12_cut_215 (k_pB (fun b66 => ?_) (fun b66 => ?_))
                          · skip
                            refine v_if_eq X 250 dX12_cut_218 (by decide) ⟨by decide, by decide⟩ (fun q => absurd q (by decide)) (fun _ => ?_)
                            have hdgx : dgB ((bt (M 55) (M 53 4)) (i + x)) = true := dgB_t.mpr ((u8_dg e65.2).mp (by rw [← e65.1]; omega))
                            have hxn : i + x < M 53 4 := bt_lt (f := M 55) (by have := dgB_t.mp hdgx; omega)
                            refine v_iload_n X 2 dX12_cut_221 rfl rfl ?_
                            refine v_iconst X dX12_cut_222 ?_
                            refine v_icmp_ge X 244 dX12_cut_223 (by decide) ⟨by omega, by omega⟩ ⟨by decide, by decide⟩ (fun u67 => ?_) (fun u67 => ?_)
                            · skip
                              refine v_iinc X 2 [(3, .int (iz (x + 1))), (0, .ref (ad 53)), (1, .int (iz i)), (4, .int (iz y))] dX12_cut_244 rfl (by decide) rfl ?_
                              refine v_goto X 208 dX12_cut_247 (by decide) ?_
                              refine v_lv [1, 2, 0, 3] rfl ?_
                              exact ih60 (x + 1) y (by omega) (by rw [← hs, ← Int.add_assoc]; exact (skp_go hxn hdgx).symm) (by rw [hy, show (min (x + 1) 4).toNat = (min x 4).toNat by omega]) (by omega) (fun k hk => by by_cases c : (k : Int) = x; (rw [c]; exact dgB_t.mp hdgx); exact hdg k (by omega)) (by omega)
                            · skip
                              refine v_bipush X dX12_cut_226 (by decide) ?_
                              refine v_iload X 3 dX12_cut_228 rfl ?_
                              refine v_imul X dX12_cut_230 ?_
                              refine v_aload_n X 0 dX12_cut_231 rfl rfl ?_
                              refine v_iload_n X 1 dX12_cut_232 rfl rfl ?_
                              refine v_iload_n X 2 dX12_cut_233 rfl rfl ?_
                              refine v_iadd X dX12_cut_234 ?_
                              refine v_callV X [.int (iz (i + x))] hRm (c_X12_at _ _ _ hS (i + x) (by omega) (show 0 ≤ (Mx 53 4) ∧ (Mx 53 4) ≤ 2000 by omega)) (gV bw_20_0 bw_20_1 bw_20_2 bw_1_5 bw_20_3) rfl ddX12_at (by decide) (Std.lt hS rfl) (Std.k hS rfl rfl) ⟨rfl, by decide⟩ (Nat.le_of_ble_eq_true rfl) dX12_cut_235 (k_pI (fun r68 hr69 e70 => ?_))
                              replace e70 : r68 = u8 ((bt (M 55) (M 53 4)) (i + x)) ∧ -128 ≤ (bt (M 55) (M 53 4)) (i + x) ∧ (bt (M 55) (M 53 4)) (i + x) < 128 := by have e0 := e70; rw [e55, e4] at e0; exact e0
                              refine v_iadd X dX12_cut_238 ?_
                              refine v_bipush X dX12_cut_239 (by decide) ?_
                              refine v_isub X dX12_cut_241 ?_
                              have hdq := dgB_t.mp hdgx
                              have hu9 := u8_id (z := (bt (M 55) (M 53 4)) (i + x)) (by omega)
                              have hu7 := e70.1
                              have hyn0 : (((10 * y) + r68) - 48) = dgU (bt (M 55) (M 53 4)) i (x.toNat + 1) := by rw [dgU_s, show (x.toNat : Int) = x by omega, ← (show (min x 4).toNat = x.toNat by omega), ← hy]; omega
                              have hyn : 0 ≤ (((10 * y) + r68) - 48) ∧ (((10 * y) + r68) - 48) < 10000 := by rw [hyn0]; exact dgU_4 (by omega) (fun k hk => by by_cases c : (k : Int) = x; (rw [c]; exact hdq); exact hdg k (by omega))
                              refine v_istore X [(4, .int (iz (((10 * y) + r68) - 48))), (0, .ref (ad 53)), (1, .int (iz i)), (3, .int (iz x))] dX12_cut_242 (by decide) rfl ?_
                              refine v_iinc X 3 [(3, .int (iz (x + 1))), (4, .int (iz (((10 * y) + r68) - 48))), (0, .ref (ad 53)), (1, .int (iz i))] dX12_cut_244 rfl (by decide) rfl ?_
                              refine v_goto X 208 dX12_cut_247 (by decide) ?_
                              refine v_lv [2, 3, 0, 1] rfl ?_
                              exact ih60 (x + 1) (((10 * y) + r68) - 48) (by omega) (by rw [← hs, ← Int.add_assoc]; exact (skp_go hxn hdgx).symm) (by rw [hyn0, show (min (x + 1) 4).toNat = x.toNat + 1 by omega]) (hyn) (fun k hk => by by_cases c : (k : Int) = x; (rw [c]; exact dgB_t.mp hdgx); exact hdg k (by omega)) (by omega)
                          · skip
                            refine v_if_eq X 250 dX12_cut_218 (by decide) ⟨by decide, by decide⟩ (fun _ => ?_) (fun q => absurd (by decide) q)
                            have hE : skp dgB (bt (M 55) (M 53 4)) (M 53 4) i = i + x := by rw [← hs]; exact skp_st (fun z => by have z2 := (u8_dg e65.2).mpr (dgB_t.mp z.2); rw [← e65.1] at z2; omega)
                            have hx1 : 1 ≤ x := by have q9 := skp_go (n := M 53 4) hin hdg0; rw [hE] at q9; have q8 : i + 1 ≤ skp dgB (bt (M 55) (M 53 4)) (M 53 4) (i + 1) := skp_le; omega
                            have htw := tk_int hin hnl hdg0
                            have hte : tkE (bt (M 55) (M 53 4)) (M 53 4) i = i + x := htw.2.2.trans hE
                            have hkd : kdT (bt (M 55) (M 53 4)) (M 53 4) j = if x ≤ 4 then 25 else 27 := by unfold kdT; rw [hpi, htw.1, hE, show i + x - i = x by omega]
                            have hvv : x ≤ 4 → y = vlT (bt (M 55) (M 53 4)) (M 53 4) j := fun z => by unfold vlT; rw [hpi, htw.2.1, hE, show i + x - i = x by omega, hy, show (min x 4).toNat = x.toNat by omega]; exact (dgV_U _ (by omega) (fun k hk => hdg k (by omega))).symm
                            refine v_aload_n X 0 dX12_cut_250 rfl rfl ?_
                            refine v_iload_n X 2 dX12_cut_251 rfl rfl ?_
                            refine v_iconst X dX12_cut_252 ?_
                            refine v_icmp_le X 260 dX12_cut_253 (by decide) ⟨by omega, by omega⟩ ⟨by decide, by decide⟩ (fun u71 => ?_) (fun u71 => ?_)
                            · skip
                              refine v_iconst X dX12_cut_260 ?_
                              refine v_iload_n X 1 dX12_cut_261 rfl rfl ?_
                              refine v_iload X 3 dX12_cut_262 rfl ?_
                              refine v_lconst X dX12_cut_264 (by decide) ?_
                              refine v_callV X [.int (iz 2), .int (iz i), .int (iz y), .long (lz 0)] hRm (c_X12_token _ _ _ hS 2 i y 0 ⟨by omega, by omega⟩ ⟨by omega, by omega⟩ ⟨by omega, by omega⟩ (show 0 ≤ (Mx 53 10) ∧ (Mx 53 10) ≤ 402 by omega)) (gV bw_20_4 bw_20_5 bw_20_6 bw_1_5 bw_20_7) rfl ddX12_token (by decide) (Std.lt hS rfl) (Std.k hS rfl rfl) ⟨rfl, by decide⟩ (Nat.le_of_ble_eq_true rfl) dX12_cut_265 (k_eVL (fun M72 L73 e74 => ?_))
                              have hnx : TokTo (bt (M 55) (M 53 4)) (M 53 4) M (j + 1) M72 := Tok_next hT e74.1 (by rw [hkd]; rw [if_pos (by omega)]; rfl) hpi.symm (fun z => hvv (by rw [hkd] at z; split at z <;> omega)) (by rw [hkd]; split <;> decide)
                              refine v_iload_n X 1 dX12_cut_268 rfl rfl ?_
                              refine v_iload_n X 2 dX12_cut_269 rfl rfl ?_
                              refine v_iadd X dX12_cut_270 ?_
                              refine v_istore_n X [(1, .int (iz (i + x))), (0, .ref (ad 53)), (3, .int (iz x)), (4, .int (iz y))] dX12_cut_271 rfl (by decide) rfl ?_
                              refine v_goto X 291 dX12_cut_272 (by decide) ?_
                              refine v_goto X 7 dX12_cut_291 (by decide) ?_
                              refine v_lv [1, 0] rfl ?_
                              exact ih2 M72 L73 (i + x) (j + 1) (hnx) (by omega) (by have h9 := tkE_in (f := M 55) (n := M 53 4) (p := i) (by omega) (by omega); rw [hte] at h9; omega) (plT_s hpi hte) (fun q hq => (e74.2 q hq).trans (hL q hq)) (by omega)
                            · skip
                              refine v_iconst X dX12_cut_256 ?_
                              refine v_goto X 261 dX12_cut_257 (by decide) ?_
                              refine v_iload_n X 1 dX12_cut_261 rfl rfl ?_
                              refine v_iload X 3 dX12_cut_262 rfl ?_
                              refine v_lconst X dX12_cut_264 (by decide) ?_
                              refine v_callV X [.int (iz 3), .int (iz i), .int (iz y), .long (lz 0)] hRm (c_X12_token _ _ _ hS 3 i y 0 ⟨by omega, by omega⟩ ⟨by omega, by omega⟩ ⟨by omega, by omega⟩ (show 0 ≤ (Mx 53 10) ∧ (Mx 53 10) ≤ 402 by omega)) (gV bw_20_4 bw_20_5 bw_20_6 bw_1_5 bw_20_7) rfl ddX12_token (by decide) (Std.lt hS rfl) (Std.k hS rfl rfl) ⟨rfl, by decide⟩ (Nat.le_of_ble_eq_true rfl) dX12_cut_265 (k_eVL (fun M75 L76 e77 => ?_))
                              have hnx : TokTo (bt (M 55) (M 53 4)) (M 53 4) M (j + 1) M75 := Tok_next hT e77.1 (by rw [hkd]; rw [if_neg (by omega)]; rfl) hpi.symm (fun z => hvv (by rw [hkd] at z; split at z <;> omega)) (by rw [hkd]; split <;> decide)
                              refine v_iload_n X 1 dX12_cut_268 rfl rfl ?_
                              refine v_iload_n X 2 dX12_cut_269 rfl rfl ?_
                              refine v_iadd X dX12_cut_270 ?_
                              refine v_istore_n X [(1, .int (iz (i + x))), (0, .ref (ad 53)), (3, .int (iz x)), (4, .int (iz y))] dX12_cut_271 rfl (by decide) rfl ?_
                              refine v_goto X 291 dX12_cut_272 (by decide) ?_
                              refine v_goto X 7 dX12_cut_291 (by decide) ?_
                              refine v_lv [1, 0] rfl ?_
                              exact ih2 M75 L76 (i + x) (j + 1) (hnx) (by omega) (by have h9 := tkE_in (f := M 55) (n := M 53 4) (p := i) (by omega) (by omega); rw [hte] at h9; omega) (plT_s hpi hte) (fun q hq => (e77.2 q hq).trans (hL q hq)) (by omega)
                      refine v_lv [3, 4, 1, 0] rfl ?_
                      exact hl59 _ 0 0 (by omega) (by rw [Int.add_zero]) (rfl) (by omega) (fun k hk => by omega) (Nat.lt_succ_self _)
                    · skip
                      refine v_if_eq X 275 dX12_cut_200 (by decide) ⟨by decide, by decide⟩ (fun _ => ?_) (fun q => absurd (by decide) q)
                      have hnl : ¬ ltB ((bt (M 55) (M 53 4)) i) = true := fun z => by have z2 := (u8_lt e9.2).mpr (ltB_t.mp z); rw [← e9.1] at z2; omega
                      have hnd : ¬ dgB ((bt (M 55) (M 53 4)) i) = true := fun z => by have z2 := (u8_dg e9.2).mpr (dgB_t.mp z); rw [← e9.1] at z2; omega
                      refine v_iload_n X 2 dX12_cut_275 rfl rfl ?_
                      refine v_aload_n X 1 dX12_cut_276 rfl rfl ?_
                      refine v_iload_n X 2 dX12_cut_277 rfl rfl ?_
                      refine v_iload_n X 0 dX12_cut_278 rfl rfl ?_
                      refine v_aload_n X 1 dX12_cut_279 rfl rfl ?_
                      refine v_iload_n X 2 dX12_cut_280 rfl rfl ?_
                      refine v_iconst X dX12_cut_281 ?_
                      refine v_iadd X dX12_cut_282 ?_
                      refine v_callV X [.int (iz (i + 1))] hRm (c_X12_at _ _ _ hS (i + 1) (by omega) (show 0 ≤ (Mx 53 4) ∧ (Mx 53 4) ≤ 2000 by omega)) (gV bw_20_0 bw_20_1 bw_20_2 bw_1_5 bw_20_3) rfl ddX12_at (by decide) (Std.lt hS rfl) (Std.k hS rfl rfl) ⟨rfl, by decide⟩ (Nat.le_of_ble_eq_true rfl) dX12_cut_283 (k_pI (fun r78 hr79 e80 => ?_))
                      replace e80 : r78 = u8 ((bt (M 55) (M 53 4)) (i + 1)) ∧ -128 ≤ (bt (M 55) (M 53 4)) (i + 1) ∧ (bt (M 55) (M 53 4)) (i + 1) < 128 := by have e0 := e80; rw [e55, e4] at e0; exact e0
                      refine v_callV X [.int (iz i), .int (iz r7), .int (iz r78)] hRm (c_X12_sign _ _ _ hS i r7 r78 ⟨by omega, by omega⟩ ⟨by omega, by omega⟩ ⟨by omega, by omega⟩ (show 0 ≤ (Mx 53 10) ∧ (Mx 53 10) ≤ 402 by omega)) (gV bw_20_14 bw_20_15 bw_20_16 bw_1_5 bw_20_17) rfl ddX12_sign (by decide) (Std.lt hS rfl) (Std.k hS rfl rfl) ⟨rfl, by decide⟩ (Nat.le_of_ble_eq_true rfl) dX12_cut_286 (k_eIL (fun r84 M81 L82 hr85 e83 => ?_))
                      obtain ⟨hsn, kq, hsk, hsm, tkl⟩ := e83
                      rw [e9.1, e80.1, sgN_u8 e9.2 e80.2] at hsn
                      rw [e9.1, e80.1, sgK_u8 e9.2 e80.2] at hsk
                      have htw := tk_sign hin hnl hnd
                      have hte : tkE (bt (M 55) (M 53 4)) (M 53 4) i = i + r84 := by rw [htw.2.2, hsn]
                      have hr1 : 1 ≤ r84 := by rw [hsn]; unfold sgN; split <;> decide
                      have hkd : kdT (bt (M 55) (M 53 4)) (M 53 4) j = sgK ((bt (M 55) (M 53 4)) i) ((bt (M 55) (M 53 4)) (i + 1)) := by unfold kdT; rw [hpi, htw.1]
                      have hnx : TokTo (bt (M 55) (M 53 4)) (M 53 4) M (j + 1) M81 := Tok_next hT hsm (by rw [hkd]; exact hsk) hpi.symm (fun z => by rw [hkd] at z; have q9 := sgK_25 ((bt (M 55) (M 53 4)) i) ((bt (M 55) (M 53 4)) (i + 1)); omega) (by rw [hkd]; exact sgK_26 _ _)
                      refine v_iadd X dX12_cut_289 ?_
                      refine v_istore_n X [(1, .int (iz (i + r84))), (2, .int (iz r7)), (0, .ref (ad 53))] dX12_cut_290 rfl (by decide) rfl ?_
                      refine v_goto X 7 dX12_cut_291 (by decide) ?_
                      refine v_lv [2, 0] rfl ?_
                      exact ih2 M81 L82 (i + r84) (j + 1) (hnx) (by omega) (by have h9 := tkE_in (f := M 55) (n := M 53 4) (p := i) (by omega) (by omega); rw [hte] at h9; omega) (plT_s hpi hte) (fun q hq => (tkl q hq).trans (hL q hq)) (by omega)
                · skip
                  refine v_iinc X 2 [(1, .int (iz (i + 1))), (2, .int (iz r7)), (0, .ref (ad 53))] dX12_cut_67 rfl (by decide) rfl ?_
                  refine v_goto X 291 dX12_cut_70 (by decide) ?_
                  refine v_goto X 7 dX12_cut_291 (by decide) ?_
                  refine v_lv [2, 0] rfl ?_
                  exact ih2 Mx Lx (i + 1) j (hT) (by omega) (by omega) (by rw [← hp]; exact (skp_go (by omega) (blB_t.mpr ((u8_bl e9.2).mp (by rw [← e9.1]; omega)))).symm) (hL) (by omega)
        · skip
          have hpi : plT (bt (M 55) (M 53 4)) (M 53 4) j = i := by rw [← hp]; exact skp_st (fun z => by omega)
          refine v_aload_n X 1 dX12_cut_31 rfl rfl ?_
          refine v_iconst X dX12_cut_32 ?_
          refine v_aload_n X 1 dX12_cut_33 rfl rfl ?_
          refine gt_X12_size X iwX12 (Std.lt hS rfl) (Std.k hS rfl rfl) (List.mem_cons_of_mem _ bw_19_10) dX12_cut_34 (Mx 53 4) rfl (fun hr86 => ?_)
          refine v_iconst X dX12_cut_37 ?_
          refine v_lconst X dX12_cut_38 (by decide) ?_
          refine v_callV X [.int (iz 0), .int (iz (Mx 53 4)), .int (iz 0), .long (lz 0)] hRm (c_X12_token _ _ _ hS 0 (Mx 53 4) 0 0 ⟨by omega, by omega⟩ ⟨by omega, by omega⟩ ⟨by omega, by omega⟩ (show 0 ≤ (Mx 53 10) ∧ (Mx 53 10) ≤ 402 by omega)) (gV bw_20_4 bw_20_5 bw_20_6 bw_1_5 bw_20_7) rfl ddX12_token (by decide) (Std.lt hS rfl) (Std.k hS rfl rfl) ⟨rfl, by decide⟩ (Nat.le_of_ble_eq_true rfl) dX12_cut_39 (k_eVL (fun M87 L88 e89 => ?_))
          refine hret _ _ _ _ _ _ _ _ _ _ _ none dX12_cut_42 ⟨rfl, rfl⟩ (by decide) (by decide) (fun hmok => ?_)
          have hte := tk_end (g := (bt (M 55) (M 53 4))) (n := M 53 4) (p := i) (by omega)
          have hkd : kdT (bt (M 55) (M 53 4)) (M 53 4) j = 26 := by unfold kdT; rw [hpi]; exact hte.1
          have q9 := Tok_put hT e89.1 (by rw [hkd]; rfl) (by rw [hpi]; omega) (fun z => by rw [hkd] at z; omega)
          refine ⟨rfl, rfl, rfl, rfl, rfl, fun k k1 k2 => ?_, q9.2.2.1, q9.2.2.2, fun q hq => (e89.2 q hq).trans (hL q hq)⟩
          by_cases c : k ≤ j
          · exact q9.1 k c
          · exact absurd hkd (k2 j (by omega))
  refine v_lv [1, 0] rfl ?_
  exact hl1 _ (mu M 53 10 0) L 0 0 (⟨rfl, fun k hk => absurd hk (Nat.not_lt_zero k), fun i i1 i2 => mu_i _ _ _ i1, fun z hz => mu_z _ _ _ hz⟩) (by omega) (by omega) (rfl) (fun _ _ => rfl) (Nat.lt_succ_self _)

