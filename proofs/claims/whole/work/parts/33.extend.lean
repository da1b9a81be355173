/-! EXTEND -/
def cS (pl : List Fl → Int → Option Fl) (w g : Int → Int) (A : Nat) : Nat → List Fl → List Fl → List Fl
  | 0, p, q => lkS w g p q
  | n + 1, p, q => if hopL A w g p (lkS w g p q) = true then lkS w g p q else kidsF (pl p) (cS pl w g A n) p A 0 (lkS w g p q)
theorem cS_s (pl : List Fl → Int → Option Fl) (w g : Int → Int) (A n : Nat) (p q : List Fl) : cS pl w g A (n + 1) p q = if hopL A w g p (lkS w g p q) = true then lkS w g p q else kidsF (pl p) (cS pl w g A n) p A 0 (lkS w g p q) := rfl
theorem kidsF_s (pl : Int → Option Fl) (F : List Fl → List Fl → List Fl) (p : List Fl) (k : Nat) (a : Int) (q : List Fl) : kidsF pl F p (k + 1) a q = kidsF pl F p k (a + 1) (if inF p a = true then q else match pl a with
    | none => q
    | some f => F (f :: p) q) := rfl
theorem rpX_copy {w : Int → Int} {z y : Int} {r t b m l r' t' b' m' l' : Int → Int} {p : List Fl} (hl : p.length ≤ 6) (h : rpX w z y r t b m l p) (e : ∀ k : Int, 0 ≤ k → k < 6 → r' k = r k ∧ t' k = t k ∧ b' k = b k ∧ m' k = m k ∧ l' k = l k) : rpX w z y r' t' b' m' l' p :=
  ⟨h.1, rpO_congr h.2.1 (fun k k1 k2 => (e k k1 (by omega)).1), fun k k1 k2 => (e k (by omega) k2).1.trans (h.2.2.1 k k1 k2), fun a a1 a2 => by
    obtain ⟨_, e2, e3, e4, e5⟩ := e a a1 a2
    rw [e2, e3, e4, e5]
    exact h.2.2.2 a a1 a2⟩
theorem rQ_fr {w : Int → Int} {M M' : MI} {q : List Fl} (h : rQ w M q) (e : ∀ i : Nat, 35 ≤ i → i ≤ 40 → M' i = M i) : rQ w M' q := by
  unfold rQ at h ⊢
  rw [e 35 (by decide) (by decide), e 36 (by decide) (by decide), e 37 (by decide) (by decide), e 38 (by decide) (by decide), e 39 (by decide) (by decide), e 40 (by decide) (by decide)]
  exact h
theorem lkS_ok {A : Int} {w g : Int → Int} {p q : List Fl} (h1 : okF A p) (h2 : okF A q) : okF A (lkS w g p q) := by
  unfold lkS
  split
  · exact h1
  · exact h2

-- extend at depth 6
set_option maxHeartbeats 4000000 in
set_option maxRecDepth 100000 in
theorem c_X4_extend_6 (l : Launch) (D : va_G) (cy : Nat → ClassId) {N : Nat} {sh : MS} {ad : Nat → Nat} {M L : MI} {R : MR} (hS : Std N sh R) (wo : Int → Int) (p q : List Fl) (t : Nat) (ht : isT t) (hRt : R 31 7 = some t) (hX : cTxt M t) (hO : ShowOk M R sh N) (hT : rT wo M p) (hK : rK M p) (hQ : rQ wo M q) (ho : okF (M 6 1) p) (hoq : okF (M 6 1) q) (hl : p.length = 6) (hwa : ∀ a : Int, 0 ≤ a → a < M 6 1 → wo a = cWo M R a) (hP : plPre M) (PL : List Fl → Int → Option Fl) (hPL : ∀ (p : List Fl) (a : Int), okF (M 6 1) p → 0 ≤ a → a < M 6 1 → cpl M R t p a = PL p a) : Ctr l D cy yX4_extend wsX4_extend ({ frames := 3, cells := 0, slots := 0, locals := 58 } : Room) N sh ad M L R [.ref (ad 31), .ref (ad 47), .int (iz 6)] (eV N sh ad L R (fun M' => rT wo M' p ∧ rK M' p ∧ rQ wo M' (cS PL wo (M 50) (M 6 1).toNat 0 p q) ∧ okF (M 6 1) (cS PL wo (M 50) (M 6 1).toNat 0 p q) ∧ frC M M')) := by
  refine Ctr.ofV (by decide) rfl (Nat.le_of_ble_eq_true rfl) ?_
  intro K hKl hKd hRm hnm X hret
  have X : VX K cX4_extend 4 wsX4_extend RX4 := X
  show V K 4 0 0 N sh ad M L R [(0, .ref (ad 31)), (1, .ref (ad 47)), (2, .int (iz 6))] [] 0
  have hA := hO.1
  obtain ⟨q1, hq1⟩ : ∃ X, X = lkS wo (M 50) p q := ⟨_, rfl⟩
  have hoq1 : okF (M 6 1) q1 := by rw [hq1]; exact lkS_ok ho hoq
  obtain ⟨FIN, hFIN⟩ : ∃ X, X = (cS PL wo (M 50) (M 6 1).toNat 0 p q) := ⟨_, rfl⟩
  have hj1 : ∀ (Mx : MI), (frC M Mx) → (rT wo Mx p) → (rK Mx p) → (rQ wo Mx q1) →  V K 4 0 0 N sh ad Mx L R [(0, .ref (ad 31)), (1, .ref (ad 47)), (2, .int (iz 6))] [] 19 := by
    intro Mx hfr hT1 hK1 hQ1
    have g61 : Mx 6 1 = M 6 1 := by rw [hfr.1 6 (by omega)]
    have g50 : Mx 50 = M 50 := hfr.1 50 (by omega)
    have hwa1 : ∀ a : Int, 0 ≤ a → a < Mx 6 1 → wo a = cWo Mx R a := fun a a1 a2 => by rw [g61] at a2; rw [hwa a a1 a2]; unfold cWo; rw [row_fr hfr hO a1 a2]
    refine v_iload_n X 2 dX4_extend_19 rfl rfl ?_
    refine v_bipush X dX4_extend_20 (by decide) ?_
    refine v_icmp_ge X 33 dX4_extend_22 (by decide) ⟨by decide, by decide⟩ ⟨by decide, by decide⟩ (fun _ => ?_) (fun q => absurd (by decide) q)
    refine hret _ _ _ _ _ _ _ _ _ _ _ none dX4_extend_33 ⟨rfl, rfl⟩ (by decide) (by decide) (fun hmok => ?_)
    refine ⟨rfl, rfl, rfl, rfl, rfl, rfl, ?_⟩
    rw [← hFIN]
    have hF : FIN = q1 := by rw [hFIN]; exact hq1.symm
    rw [hF]
    exact ⟨hT1, hK1, hQ1, hoq1, hfr⟩
  refine v_aload_n X 0 dX4_extend_0 rfl rfl ?_
  refine v_aload_n X 1 dX4_extend_1 rfl rfl ?_
  refine v_callV X [.ref (ad 47)] hRm (c_X4_isBetter _ _ _ hS wo p q hA hT hQ ho hoq) (gV bw_33_20 bw_33_21 bw_33_22 bw_2_15 bw_33_23) rfl ddX4_isBetter (by decide) (Std.lt hS rfl) (Std.k hS rfl rfl) ⟨rfl, by decide⟩ (Nat.le_of_ble_eq_true rfl) dX4_extend_2 (k_pB (fun b2 => ?_) (fun b2 => ?_))
  · skip
    refine v_if_eq X 19 dX4_extend_5 (by decide) ⟨by decide, by decide⟩ (fun q => absurd q (by decide)) (fun _ => ?_)
    refine v_aload_n X 0 dX4_extend_8 rfl rfl ?_
    refine gt_X4_best X iwX4 (Std.lt hS rfl) (Std.k hS rfl rfl) (List.mem_cons_of_mem _ bw_6_12) dX4_extend_9 35 (Std.r hS 5 rfl) ?_
    refine v_aload_n X 0 dX4_extend_12 rfl rfl ?_
    refine gt_X4_trial X iwX4 (Std.lt hS rfl) (Std.k hS rfl rfl) (List.mem_cons_of_mem _ bw_6_13) dX4_extend_13 41 (Std.r hS 6 rfl) ?_
    refine v_callV X [.ref (ad 41)] hRm (c_X3_copy_35_41 _ _ _ hS) (gV bw_34_9 bw_34_10 bw_34_11 bw_2_19 bw_34_12) rfl ddX3_copy (by decide) (Std.lt hS rfl) (Std.k hS rfl rfl) ⟨rfl, by decide⟩ (Nat.le_of_ble_eq_true rfl) dX4_extend_16 (k_eV (fun M4 e3 => ?_))
    replace e3 : M4 = (mu (mu (mrow (mrow (mrow (mrow (mrow M 36 (fun z => if 0 ≤ z ∧ z < 6 then (M 42 z) else (M 36 z))) 37 (fun z => if 0 ≤ z ∧ z < 6 then (M 43 z) else (M 37 z))) 38 (fun z => if 0 ≤ z ∧ z < 6 then (M 44 z) else (M 38 z))) 39 (fun z => if 0 ≤ z ∧ z < 6 then (M 45 z) else (M 39 z))) 40 (fun z => if 0 ≤ z ∧ z < 6 then (M 46 z) else (M 40 z))) 35 5 (M 41 5)) 35 6 (M 41 6)) := e3
    subst e3
    exact hj1 (mu (mu (mrow (mrow (mrow (mrow (mrow M 36 (fun z => if 0 ≤ z ∧ z < 6 then (M 42 z) else (M 36 z))) 37 (fun z => if 0 ≤ z ∧ z < 6 then (M 43 z) else (M 37 z))) 38 (fun z => if 0 ≤ z ∧ z < 6 then (M 44 z) else (M 38 z))) 39 (fun z => if 0 ≤ z ∧ z < 6 then (M 45 z) else (M 39 z))) 40 (fun z => if 0 ≤ z ∧ z < 6 then (M 46 z) else (M 40 z))) 35 5 (M 41 5)) 35 6 (M 41 6)) (⟨fun i hi => (by rw [mu_i _ _ _ (by omega), mu_i _ _ _ (by omega), mrow_i _ _ (by omega), mrow_i _ _ (by omega), mrow_i _ _ (by omega), mrow_i _ _ (by omega), mrow_i _ _ (by omega)]), fun _ _ => rfl⟩) (hT) (hK) (by rw [hq1]; unfold lkS; rw [if_pos b2]; exact rpX_copy (by omega) hT (fun k k1 k2 => ⟨(show (if 0 ≤ k ∧ k < 6 then M 42 k else M 36 k) = M 42 k from if_pos ⟨k1, k2⟩), (show (if 0 ≤ k ∧ k < 6 then M 43 k else M 37 k) = M 43 k from if_pos ⟨k1, k2⟩), (show (if 0 ≤ k ∧ k < 6 then M 44 k else M 38 k) = M 44 k from if_pos ⟨k1, k2⟩), (show (if 0 ≤ k ∧ k < 6 then M 45 k else M 39 k) = M 45 k from if_pos ⟨k1, k2⟩), (show (if 0 ≤ k ∧ k < 6 then M 46 k else M 40 k) = M 46 k from if_pos ⟨k1, k2⟩)⟩)) 
  · skip
    refine v_if_eq X 19 dX4_extend_5 (by decide) ⟨by decide, by decide⟩ (fun _ => ?_) (fun q => absurd (by decide) q)
    exact hj1 M ((frC_refl _)) (hT) (hK) (by rw [hq1]; unfold lkS; rw [if_neg b2]; exact hQ) 

-- extend at depth 5
set_option maxHeartbeats 4000000 in
set_option maxRecDepth 100000 in
theorem c_X4_extend_5 (l : Launch) (D : va_G) (cy : Nat → ClassId) {N : Nat} {sh : MS} {ad : Nat → Nat} {M L : MI} {R : MR} (hS : Std N sh R) (wo : Int → Int) (p q : List Fl) (t : Nat) (ht : isT t) (hRt : R 31 7 = some t) (hX : cTxt M t) (hO : ShowOk M R sh N) (hT : rT wo M p) (hK : rK M p) (hQ : rQ wo M q) (ho : okF (M 6 1) p) (hoq : okF (M 6 1) q) (hl : p.length = 5) (hwa : ∀ a : Int, 0 ≤ a → a < M 6 1 → wo a = cWo M R a) (hP : plPre M) (PL : List Fl → Int → Option Fl) (hPL : ∀ (p : List Fl) (a : Int), okF (M 6 1) p → 0 ≤ a → a < M 6 1 → cpl M R t p a = PL p a) : Ctr l D cy yX4_extend wsX4_extend ({ frames := 5, cells := 0, slots := 0, locals := 127 } : Room) N sh ad M L R [.ref (ad 31), .ref (ad 47), .int (iz 5)] (eV N sh ad L R (fun M' => rT wo M' p ∧ rK M' p ∧ rQ wo M' (cS PL wo (M 50) (M 6 1).toNat 1 p q) ∧ okF (M 6 1) (cS PL wo (M 50) (M 6 1).toNat 1 p q) ∧ frC M M')) := by
  refine Ctr.ofV (by decide) rfl (Nat.le_of_ble_eq_true rfl) ?_
  intro K hKl hKd hRm hnm X hret
  have X : VX K cX4_extend 4 wsX4_extend RX4 := X
  show V K 4 0 0 N sh ad M L R [(0, .ref (ad 31)), (1, .ref (ad 47)), (2, .int (iz 5))] [] 0
  have hA := hO.1
  obtain ⟨q1, hq1⟩ : ∃ X, X = lkS wo (M 50) p q := ⟨_, rfl⟩
  have hoq1 : okF (M 6 1) q1 := by rw [hq1]; exact lkS_ok ho hoq
  obtain ⟨FIN, hFIN⟩ : ∃ X, X = (cS PL wo (M 50) (M 6 1).toNat 1 p q) := ⟨_, rfl⟩
  have hj1 : ∀ (Mx : MI), (frC M Mx) → (rT wo Mx p) → (rK Mx p) → (rQ wo Mx q1) →  V K 4 0 0 N sh ad Mx L R [(0, .ref (ad 31)), (1, .ref (ad 47)), (2, .int (iz 5))] [] 19 := by
    intro Mx hfr hT1 hK1 hQ1
    have g61 : Mx 6 1 = M 6 1 := by rw [hfr.1 6 (by omega)]
    have g50 : Mx 50 = M 50 := hfr.1 50 (by omega)
    have hwa1 : ∀ a : Int, 0 ≤ a → a < Mx 6 1 → wo a = cWo Mx R a := fun a a1 a2 => by rw [g61] at a2; rw [hwa a a1 a2]; unfold cWo; rw [row_fr hfr hO a1 a2]
    refine v_iload_n X 2 dX4_extend_19 rfl rfl ?_
    refine v_bipush X dX4_extend_20 (by decide) ?_
    refine v_icmp_ge X 33 dX4_extend_22 (by decide) ⟨by decide, by decide⟩ ⟨by decide, by decide⟩ (fun q => absurd q (by decide)) (fun _ => ?_)
    refine v_aload_n X 0 dX4_extend_25 rfl rfl ?_
    refine v_aload_n X 1 dX4_extend_26 rfl rfl ?_
    refine v_callV X [.ref (ad 47)] hRm (c_X4_isHopeless _ _ _ hS wo p q1 (ShowOk_fr hfr hO) hT1 hQ1 (by rw [g61]; exact ho) (by rw [g61]; exact hoq1) hwa1) (gV bw_34_17 bw_34_18 bw_34_19 bw_2_15 bw_34_20) rfl ddX4_isHopeless (by decide) (Std.lt hS rfl) (Std.k hS rfl rfl) ⟨rfl, by decide⟩ (Nat.le_of_ble_eq_true rfl) dX4_extend_27 (k_pB (fun b2 => ?_) (fun b2 => ?_))
    · skip
      rw [g61, g50] at b2
      refine v_if_eq X 34 dX4_extend_30 (by decide) ⟨by decide, by decide⟩ (fun q => absurd q (by decide)) (fun _ => ?_)
      refine hret _ _ _ _ _ _ _ _ _ _ _ none dX4_extend_33 ⟨rfl, rfl⟩ (by decide) (by decide) (fun hmok => ?_)
      refine ⟨rfl, rfl, rfl, rfl, rfl, rfl, ?_⟩
      rw [← hFIN]
      have hF : FIN = q1 := by rw [hFIN, cS_s, ← hq1, if_pos b2]
      rw [hF]
      exact ⟨hT1, hK1, hQ1, hoq1, hfr⟩
    · skip
      rw [g61, g50] at b2
      refine v_if_eq X 34 dX4_extend_30 (by decide) ⟨by decide, by decide⟩ (fun _ => ?_) (fun q => absurd (by decide) q)
      refine v_iconst X dX4_extend_34 ?_
      refine v_istore_n X [(3, .int (iz 0)), (0, .ref (ad 31)), (1, .ref (ad 47)), (2, .int (iz 5))] dX4_extend_35 rfl (by decide) rfl ?_
      have hl3 : ∀ (n5 : Nat) (My : MI) (i : Int) (Q : List Fl), (0 ≤ i ∧ i ≤ M 6 1) → (frC M My) → (rT wo My p) → (rK My p) → (rQ wo My Q) → (okF (M 6 1) Q) → (kidsF (PL p) (cS PL wo (M 50) (M 6 1).toNat 0) p ((M 6 1).toNat - i.toNat) i Q = FIN) → (6 - i).toNat < n5 → V K 4 0 0 N sh ad My L R [(0, .ref (ad 31)), (1, .ref (ad 47)), (2, .int (iz 5)), (3, .int (iz i))] [] 36 := by
        intro n5
        induction n5 with
        | zero => intro My i Q hi hfr2 hT2 hK2 hQ2 hoQ hk hn6; exact absurd hn6 (Nat.not_lt_zero _)
        | succ n5 ih4 =>
          intro My i Q hi hfr2 hT2 hK2 hQ2 hoQ hk hn6
          have g62 : My 6 1 = M 6 1 := by rw [hfr2.1 6 (by omega)]
          have g52 : My 50 = M 50 := hfr2.1 50 (by omega)
          have hwa2 : ∀ a : Int, 0 ≤ a → a < My 6 1 → wo a = cWo My R a := fun a a1 a2 => by rw [g62] at a2; rw [hwa a a1 a2]; unfold cWo; rw [row_fr hfr2 hO a1 a2]
          refine v_iload_n X 3 dX4_extend_36 rfl rfl ?_
          refine v_aload_n X 0 dX4_extend_37 rfl rfl ?_
          refine gt_X4_show X iwX4 (Std.lt hS rfl) (Std.k hS rfl rfl) (List.mem_cons_of_mem _ bw_6_14) dX4_extend_38 6 (Std.r hS 0 rfl) ?_
          refine gt_X7_size X iwX7 (Std.lt hS rfl) (Std.k hS rfl rfl) (List.mem_cons_of_mem _ bw_33_19) dX4_extend_41 (My 6 1) rfl (fun hr7 => ?_)
          refine v_icmp_ge X 84 dX4_extend_44 (by decide) ⟨by omega, by omega⟩ ⟨by omega, by omega⟩ (fun u8 => ?_) (fun u8 => ?_)
          · skip
            refine hret _ _ _ _ _ _ _ _ _ _ _ none dX4_extend_84 ⟨rfl, rfl⟩ (by decide) (by decide) (fun hmok => ?_)
            refine ⟨rfl, rfl, rfl, rfl, rfl, rfl, ?_⟩
            rw [← hFIN]
            have hF : FIN = Q := by rw [← hk, show (M 6 1).toNat - i.toNat = 0 by omega]; rfl
            rw [hF]
            exact ⟨hT2, hK2, hQ2, hoQ, hfr2⟩
          · skip
            refine v_aload_n X 0 dX4_extend_47 rfl rfl ?_
            refine gt_X4_trial X iwX4 (Std.lt hS rfl) (Std.k hS rfl rfl) (List.mem_cons_of_mem _ bw_6_13) dX4_extend_48 41 (Std.r hS 6 rfl) ?_
            refine v_iload_n X 3 dX4_extend_51 rfl rfl ?_
            refine v_callV X [.int (iz i)] hRm (c_X3_has_41 _ _ _ hS i ⟨by omega, by omega⟩) (gV bw_34_22 bw_34_23 bw_35_0 bw_2_19 bw_35_1) rfl ddX3_has (by decide) (Std.lt hS rfl) (Std.k hS rfl rfl) ⟨rfl, by decide⟩ (Nat.le_of_ble_eq_true rfl) dX4_extend_52 (k_pB (fun b9 => ?_) (fun b9 => ?_))
            · skip
              have hin : inF p i = true := (lkF_has ho).mp (by rw [← (hT2.2.2.2 i (by omega) (by omega)).2.1]; exact b9.2.2)
              refine v_if_ne X 78 dX4_extend_55 (by decide) ⟨by decide, by decide⟩ (fun _ => ?_) (fun q => absurd (by decide) q)
              refine v_iinc X 3 [(3, .int (iz (i + 1))), (0, .ref (ad 31)), (1, .ref (ad 47)), (2, .int (iz 5))] dX4_extend_78 rfl (by decide) rfl ?_
              refine v_goto X 36 dX4_extend_81 (by decide) ?_
              refine v_lv [1, 2, 3, 0] rfl ?_
              exact ih4 My (i + 1) Q (by omega) (hfr2) (hT2) (hK2) (hQ2) (hoQ) (by rw [← hk, show (M 6 1).toNat - i.toNat = ((M 6 1).toNat - (i + 1).toNat) + 1 by omega, kidsF_s, if_pos hin]) (by omega)
            · skip
              have hin : inF p i = false := Bool.eq_false_iff.mpr (fun z => b9 ⟨by omega, by omega, by rw [(hT2.2.2.2 i (by omega) (by omega)).2.1]; exact (lkF_has ho).mpr z⟩)
              refine v_if_ne X 78 dX4_extend_55 (by decide) ⟨by decide, by decide⟩ (fun q => absurd q (by decide)) (fun _ => ?_)
              refine v_aload_n X 0 dX4_extend_58 rfl rfl ?_
              refine v_iload_n X 3 dX4_extend_59 rfl rfl ?_
              refine v_callV X [.int (iz i)] hRm (c_X4_fly _ _ _ hS i ⟨by omega, by omega⟩ wo p t ht hRt (cTxt_fr hfr2 ht hX) (ShowOk_fr hfr2 hO) hT2 hK2 (by rw [g62]; exact ho) hin hwa2 (plPre_fr hfr2 hP)) (gV bw_35_2 bw_35_3 bw_35_4 bw_2_15 bw_35_5) rfl ddX4_fly (by decide) (Std.lt hS rfl) (Std.k hS rfl rfl) ⟨rfl, by decide⟩ (Nat.le_of_ble_eq_true rfl) dX4_extend_60 (k_eB (fun M10 e11 => ?_) (fun M10 e11 => ?_))
              · skip
                obtain ⟨f, y1, y2, y3, y4, y5, y6⟩ := e11
                rw [g62] at y2
                rw [cpl_fr hfr2 hO ht ho (by omega) (by omega)] at y1
                have hfr3 : frC M M10 := frC_trans hfr2 y5
                have g63 : M10 6 1 = M 6 1 := by rw [hfr3.1 6 (by omega)]
                have g53 : M10 50 = M 50 := hfr3.1 50 (by omega)
                have hwa3 : ∀ a : Int, 0 ≤ a → a < M10 6 1 → wo a = cWo M10 R a := fun a a1 a2 => by rw [g63] at a2; rw [hwa a a1 a2]; unfold cWo; rw [row_fr hfr3 hO a1 a2]
                refine v_if_eq X 78 dX4_extend_63 (by decide) ⟨by decide, by decide⟩ (fun q => absurd q (by decide)) (fun _ => ?_)
                refine v_aload_n X 0 dX4_extend_66 rfl rfl ?_
                refine v_aload_n X 1 dX4_extend_67 rfl rfl ?_
                refine v_iload_n X 2 dX4_extend_68 rfl rfl ?_
                refine v_iconst X dX4_extend_69 ?_
                refine v_iadd X dX4_extend_70 ?_
                refine v_st (st' := [.int (iz 6), .ref (ad 47), .ref (ad 31)]) rfl ?_
                refine v_callV X [.ref (ad 47), .int (iz 6)] hRm (c_X4_extend_6 _ _ _ hS wo (f :: p) Q t ht hRt (cTxt_fr hfr3 ht hX) (ShowOk_fr hfr3 hO) y3 y4 (rQ_fr hQ2 y6) (by rw [g63]; exact y2) (by rw [g63]; exact hoQ) (by simp only [List.length_cons]; omega) hwa3 (plPre_fr hfr3 hP) PL (fun p a h1 h2 h3 => by rw [g63] at h1 h3; rw [cpl_fr hfr3 hO ht h1 h2 h3]; exact hPL p a h1 h2 h3)) (gV bw_33_15 bw_33_16 bw_33_17 bw_2_15 bw_33_18) rfl ddX4_extend (by decide) (Std.lt hS rfl) (Std.k hS rfl rfl) ⟨rfl, by decide⟩ (Nat.le_of_ble_eq_true rfl) dX4_extend_71 (k_eV (fun M13 e12 => ?_))
                obtain ⟨v1, v2, v3, v4, v5⟩ := e12
                rw [g63, g53] at v3 v4
                have hfr4 : frC M M13 := frC_trans hfr3 v5
                have g64 : M13 6 1 = M 6 1 := by rw [hfr4.1 6 (by omega)]
                have hwa4 : ∀ a : Int, 0 ≤ a → a < M13 6 1 → wo a = cWo M13 R a := fun a a1 a2 => by rw [g64] at a2; rw [hwa a a1 a2]; unfold cWo; rw [row_fr hfr4 hO a1 a2]
                refine v_aload_n X 0 dX4_extend_74 rfl rfl ?_
                refine v_callV X [] hRm (c_X4_callBack _ _ _ hS wo f p (ShowOk_fr hfr4 hO) v1 v2 (by rw [g64]; exact y2) hwa4) (gV bw_38_5 bw_38_6 bw_38_7 bw_2_15 bw_38_8) rfl ddX4_callBack (by decide) (Std.lt hS rfl) (Std.k hS rfl rfl) ⟨rfl, by decide⟩ (Nat.le_of_ble_eq_true rfl) dX4_extend_75 (k_eV (fun M15 e14 => ?_))
                obtain ⟨z1, z2, z3, z4⟩ := e14
                refine v_iinc X 3 [(3, .int (iz (i + 1))), (0, .ref (ad 31)), (1, .ref (ad 47)), (2, .int (iz 5))] dX4_extend_78 rfl (by decide) rfl ?_
                refine v_goto X 36 dX4_extend_81 (by decide) ?_
                refine v_lv [1, 2, 3, 0] rfl ?_
                exact ih4 M15 (i + 1) (cS PL wo (M 50) (M 6 1).toNat 0 (f :: p) Q) (by omega) (frC_trans hfr4 z3) (z1) (z2) (rQ_fr v3 z4) (v4) (by rw [← hk, show (M 6 1).toNat - i.toNat = ((M 6 1).toNat - (i + 1).toNat) + 1 by omega, kidsF_s, if_neg (by rw [hin]; decide), ← hPL p i ho (by omega) (by omega), y1]) (by omega)
              · skip
                obtain ⟨y1, y2, y3, y4, y5⟩ := e11
                rw [cpl_fr hfr2 hO ht ho (by omega) (by omega)] at y1
                refine v_if_eq X 78 dX4_extend_63 (by decide) ⟨by decide, by decide⟩ (fun _ => ?_) (fun q => absurd (by decide) q)
                refine v_iinc X 3 [(3, .int (iz (i + 1))), (0, .ref (ad 31)), (1, .ref (ad 47)), (2, .int (iz 5))] dX4_extend_78 rfl (by decide) rfl ?_
                refine v_goto X 36 dX4_extend_81 (by decide) ?_
                refine v_lv [1, 2, 3, 0] rfl ?_
                exact ih4 M10 (i + 1) Q (by omega) (frC_trans hfr2 y4) (y2) (y3) (rQ_fr hQ2 y5) (hoQ) (by rw [← hk, show (M 6 1).toNat - i.toNat = ((M 6 1).toNat - (i + 1).toNat) + 1 by omega, kidsF_s, if_neg (by rw [hin]; decide), ← hPL p i ho (by omega) (by omega), y1]) (by omega)
      refine v_lv [1, 2, 3, 0] rfl ?_
      exact hl3 _ Mx 0 q1 (by omega) (hfr) (hT1) (hK1) (hQ1) (hoq1) (by rw [hFIN, cS_s, ← hq1, if_neg b2]; rfl) (Nat.lt_succ_self _)
  refine v_aload_n X 0 dX4_extend_0 rfl rfl ?_
  refine v_aload_n X 1 dX4_extend_1 rfl rfl ?_
  refine v_callV X [.ref (ad 47)] hRm (c_X4_isBetter _ _ _ hS wo p q hA hT hQ ho hoq) (gV bw_33_20 bw_33_21 bw_33_22 bw_2_15 bw_33_23) rfl ddX4_isBetter (by decide) (Std.lt hS rfl) (Std.k hS rfl rfl) ⟨rfl, by decide⟩ (Nat.le_of_ble_eq_true rfl) dX4_extend_2 (k_pB (fun b16 => ?_) (fun b16 => ?_))
  · skip
    refine v_if_eq X 19 dX4_extend_5 (by decide) ⟨by decide, by decide⟩ (fun q => absurd q (by decide)) (fun _ => ?_)
    refine v_aload_n X 0 dX4_extend_8 rfl rfl ?_
    refine gt_X4_best X iwX4 (Std.lt hS rfl) (Std.k hS rfl rfl) (List.mem_cons_of_mem _ bw_6_12) dX4_extend_9 35 (Std.r hS 5 rfl) ?_
    refine v_aload_n X 0 dX4_extend_12 rfl rfl ?_
    refine gt_X4_trial X iwX4 (Std.lt hS rfl) (Std.k hS rfl rfl) (List.mem_cons_of_mem _ bw_6_13) dX4_extend_13 41 (Std.r hS 6 rfl) ?_
    refine v_callV X [.ref (ad 41)] hRm (c_X3_copy_35_41 _ _ _ hS) (gV bw_34_9 bw_34_10 bw_34_11 bw_2_19 bw_34_12) rfl ddX3_copy (by decide) (Std.lt hS rfl) (Std.k hS rfl rfl) ⟨rfl, by decide⟩ (Nat.le_of_ble_eq_true rfl) dX4_extend_16 (k_eV (fun M18 e17 => ?_))
    replace e17 : M18 = (mu (mu (mrow (mrow (mrow (mrow (mrow M 36 (fun z => if 0 ≤ z ∧ z < 6 then (M 42 z) else (M 36 z))) 37 (fun z => if 0 ≤ z ∧ z < 6 then (M 43 z) else (M 37 z))) 38 (fun z => if 0 ≤ z ∧ z < 6 then (M 44 z) else (M 38 z))) 39 (fun z => if 0 ≤ z ∧ z < 6 then (M 45 z) else (M 39 z))) 40 (fun z => if 0 ≤ z ∧ z < 6 then (M 46 z) else (M 40 z))) 35 5 (M 41 5)) 35 6 (M 41 6)) := e17
    subst e17
    exact hj1 (mu (mu (mrow (mrow (mrow (mrow (mrow M 36 (fun z => if 0 ≤ z ∧ z < 6 then (M 42 z) else (M 36 z))) 37 (fun z => if 0 ≤ z ∧ z < 6 then (M 43 z) else (M 37 z))) 38 (fun z => if 0 ≤ z ∧ z < 6 then (M 44 z) else (M 38 z))) 39 (fun z => if 0 ≤ z ∧ z < 6 then (M 45 z) else (M 39 z))) 40 (fun z => if 0 ≤ z ∧ z < 6 then (M 46 z) else (M 40 z))) 35 5 (M 41 5)) 35 6 (M 41 6)) (⟨fun i hi => (by rw [mu_i _ _ _ (by omega), mu_i _ _ _ (by omega), mrow_i _ _ (by omega), mrow_i _ _ (by omega), mrow_i _ _ (by omega), mrow_i _ _ (by omega), mrow_i _ _ (by omega)]), fun _ _ => rfl⟩) (hT) (hK) (by rw [hq1]; unfold lkS; rw [if_pos b16]; exact rpX_copy (by omega) hT (fun k k1 k2 => ⟨(show (if 0 ≤ k ∧ k < 6 then M 42 k else M 36 k) = M 42 k from if_pos ⟨k1, k2⟩), (show (if 0 ≤ k ∧ k < 6 then M 43 k else M 37 k) = M 43 k from if_pos ⟨k1, k2⟩), (show (if 0 ≤ k ∧ k < 6 then M 44 k else M 38 k) = M 44 k from if_pos ⟨k1, k2⟩), (show (if 0 ≤ k ∧ k < 6 then M 45 k else M 39 k) = M 45 k from if_pos ⟨k1, k2⟩), (show (if 0 ≤ k ∧ k < 6 then M 46 k else M 40 k) = M 46 k from if_pos ⟨k1, k2⟩)⟩)) 
  · skip
    refine v_if_eq X 19 dX4_extend_5 (by decide) ⟨by decide, by decide⟩ (fun _ => ?_) (fun q => absurd (by decide) q)
    exact hj1 M ((frC_refl _)) (hT) (hK) (by rw [hq1]; unfold lkS; rw [if_neg b16]; exact hQ) 

-- extend at depth 4
set_option maxHeartbeats 4000000 in
set_option maxRecDepth 100000 in
theorem c_X4_extend_4 (l : Launch) (D : va_G) (cy : Nat → ClassId) {N : Nat} {sh : MS} {ad : Nat → Nat} {M L : MI} {R : MR} (hS : Std N sh R) (wo : Int → Int) (p q : List Fl) (t : Nat) (ht : isT t) (hRt : R 31 7 = some t) (hX : cTxt M t) (hO : ShowOk M R sh N) (hT : rT wo M p) (hK : rK M p) (hQ : rQ wo M q) (ho : okF (M 6 1) p) (hoq : okF (M 6 1) q) (hl : p.length = 4) (hwa : ∀ a : Int, 0 ≤ a → a < M 6 1 → wo a = cWo M R a) (hP : plPre M) (PL : List Fl → Int → Option Fl) (hPL : ∀ (p : List Fl) (a : Int), okF (M 6 1) p → 0 ≤ a → a < M 6 1 → cpl M R t p a = PL p a) : Ctr l D cy yX4_extend wsX4_extend ({ frames := 6, cells := 0, slots := 0, locals := 150 } : Room) N sh ad M L R [.ref (ad 31), .ref (ad 47), .int (iz 4)] (eV N sh ad L R (fun M' => rT wo M' p ∧ rK M' p ∧ rQ wo M' (cS PL wo (M 50) (M 6 1).toNat 2 p q) ∧ okF (M 6 1) (cS PL wo (M 50) (M 6 1).toNat 2 p q) ∧ frC M M')) := by
  refine Ctr.ofV (by decide) rfl (Nat.le_of_ble_eq_true rfl) ?_
  intro K hKl hKd hRm hnm X hret
  have X : VX K cX4_extend 4 wsX4_extend RX4 := X
  show V K 4 0 0 N sh ad M L R [(0, .ref (ad 31)), (1, .ref (ad 47)), (2, .int (iz 4))] [] 0
  have hA := hO.1
  obtain ⟨q1, hq1⟩ : ∃ X, X = lkS wo (M 50) p q := ⟨_, rfl⟩
  have hoq1 : okF (M 6 1) q1 := by rw [hq1]; exact lkS_ok ho hoq
  obtain ⟨FIN, hFIN⟩ : ∃ X, X = (cS PL wo (M 50) (M 6 1).toNat 2 p q) := ⟨_, rfl⟩
  have hj1 : ∀ (Mx : MI), (frC M Mx) → (rT wo Mx p) → (rK Mx p) → (rQ wo Mx q1) →  V K 4 0 0 N sh ad Mx L R [(0, .ref (ad 31)), (1, .ref (ad 47)), (2, .int (iz 4))] [] 19 := by
    intro Mx hfr hT1 hK1 hQ1
    have g61 : Mx 6 1 = M 6 1 := by rw [hfr.1 6 (by omega)]
    have g50 : Mx 50 = M 50 := hfr.1 50 (by omega)
    have hwa1 : ∀ a : Int, 0 ≤ a → a < Mx 6 1 → wo a = cWo Mx R a := fun a a1 a2 => by rw [g61] at a2; rw [hwa a a1 a2]; unfold cWo; rw [row_fr hfr hO a1 a2]
    refine v_iload_n X 2 dX4_extend_19 rfl rfl ?_
    refine v_bipush X dX4_extend_20 (by decide) ?_
    refine v_icmp_ge X 33 dX4_extend_22 (by decide) ⟨by decide, by decide⟩ ⟨by decide, by decide⟩ (fun q => absurd q (by decide)) (fun _ => ?_)
    refine v_aload_n X 0 dX4_extend_25 rfl rfl ?_
    refine v_aload_n X 1 dX4_extend_26 rfl rfl ?_
    refine v_callV X [.ref (ad 47)] hRm (c_X4_isHopeless _ _ _ hS wo p q1 (ShowOk_fr hfr hO) hT1 hQ1 (by rw [g61]; exact ho) (by rw [g61]; exact hoq1) hwa1) (gV bw_34_17 bw_34_18 bw_34_19 bw_2_15 bw_34_20) rfl ddX4_isHopeless (by decide) (Std.lt hS rfl) (Std.k hS rfl rfl) ⟨rfl, by decide⟩ (Nat.le_of_ble_eq_true rfl) dX4_extend_27 (k_pB (fun b2 => ?_) (fun b2 => ?_))
    · skip
      rw [g61, g50] at b2
      refine v_if_eq X 34 dX4_extend_30 (by decide) ⟨by decide, by decide⟩ (fun q => absurd q (by decide)) (fun _ => ?_)
      refine hret _ _ _ _ _ _ _ _ _ _ _ none dX4_extend_33 ⟨rfl, rfl⟩ (by decide) (by decide) (fun hmok => ?_)
      refine ⟨rfl, rfl, rfl, rfl, rfl, rfl, ?_⟩
      rw [← hFIN]
      have hF : FIN = q1 := by rw [hFIN, cS_s, ← hq1, if_pos b2]
      rw [hF]
      exact ⟨hT1, hK1, hQ1, hoq1, hfr⟩
    · skip
      rw [g61, g50] at b2
      refine v_if_eq X 34 dX4_extend_30 (by decide) ⟨by decide, by decide⟩ (fun _ => ?_) (fun q => absurd (by decide) q)
      refine v_iconst X dX4_extend_34 ?_
      refine v_istore_n X [(3, .int (iz 0)), (0, .ref (ad 31)), (1, .ref (ad 47)), (2, .int (iz 4))] dX4_extend_35 rfl (by decide) rfl ?_
      have hl3 : ∀ (n5 : Nat) (My : MI) (i : Int) (Q : List Fl), (0 ≤ i ∧ i ≤ M 6 1) → (frC M My) → (rT wo My p) → (rK My p) → (rQ wo My Q) → (okF (M 6 1) Q) → (kidsF (PL p) (cS PL wo (M 50) (M 6 1).toNat 1) p ((M 6 1).toNat - i.toNat) i Q = FIN) → (6 - i).toNat < n5 → V K 4 0 0 N sh ad My L R [(0, .ref (ad 31)), (1, .ref (ad 47)), (2, .int (iz 4)), (3, .int (iz i))] [] 36 := by
        intro n5
        induction n5 with
        | zero => intro My i Q hi hfr2 hT2 hK2 hQ2 hoQ hk hn6; exact absurd hn6 (Nat.not_lt_zero _)
        | succ n5 ih4 =>
          intro My i Q hi hfr2 hT2 hK2 hQ2 hoQ hk hn6
          have g62 : My 6 1 = M 6 1 := by rw [hfr2.1 6 (by omega)]
          have g52 : My 50 = M 50 := hfr2.1 50 (by omega)
          have hwa2 : ∀ a : Int, 0 ≤ a → a < My 6 1 → wo a = cWo My R a := fun a a1 a2 => by rw [g62] at a2; rw [hwa a a1 a2]; unfold cWo; rw [row_fr hfr2 hO a1 a2]
          refine v_iload_n X 3 dX4_extend_36 rfl rfl ?_
          refine v_aload_n X 0 dX4_extend_37 rfl rfl ?_
          refine gt_X4_show X iwX4 (Std.lt hS rfl) (Std.k hS rfl rfl) (List.mem_cons_of_mem _ bw_6_14) dX4_extend_38 6 (Std.r hS 0 rfl) ?_
          refine gt_X7_size X iwX7 (Std.lt hS rfl) (Std.k hS rfl rfl) (List.mem_cons_of_mem _ bw_33_19) dX4_extend_41 (My 6 1) rfl (fun hr7 => ?_)
          refine v_icmp_ge X 84 dX4_extend_44 (by decide) ⟨by omega, by omega⟩ ⟨by omega, by omega⟩ (fun u8 => ?_) (fun u8 => ?_)
          · skip
            refine hret _ _ _ _ _ _ _ _ _ _ _ none dX4_extend_84 ⟨rfl, rfl⟩ (by decide) (by decide) (fun hmok => ?_)
            refine ⟨rfl, rfl, rfl, rfl, rfl, rfl, ?_⟩
            rw [← hFIN]
            have hF : FIN = Q := by rw [← hk, show (M 6 1).toNat - i.toNat = 0 by omega]; rfl
            rw [hF]
            exact ⟨hT2, hK2, hQ2, hoQ, hfr2⟩
          · skip
            refine v_aload_n X 0 dX4_extend_47 rfl rfl ?_
            refine gt_X4_trial X iwX4 (Std.lt hS rfl) (Std.k hS rfl rfl) (List.mem_cons_of_mem _ bw_6_13) dX4_extend_48 41 (Std.r hS 6 rfl) ?_
            refine v_iload_n X 3 dX4_extend_51 rfl rfl ?_
            refine v_callV X [.int (iz i)] hRm (c_X3_has_41 _ _ _ hS i ⟨by omega, by omega⟩) (gV bw_34_22 bw_34_23 bw_35_0 bw_2_19 bw_35_1) rfl ddX3_has (by decide) (Std.lt hS rfl) (Std.k hS rfl rfl) ⟨rfl, by decide⟩ (Nat.le_of_ble_eq_true rfl) dX4_extend_52 (k_pB (fun b9 => ?_) (fun b9 => ?_))
            · skip
              have hin : inF p i = true := (lkF_has ho).mp (by rw [← (hT2.2.2.2 i (by omega) (by omega)).2.1]; exact b9.2.2)
              refine v_if_ne X 78 dX4_extend_55 (by decide) ⟨by decide, by decide⟩ (fun _ => ?_) (fun q => absurd (by decide) q)
              refine v_iinc X 3 [(3, .int (iz (i + 1))), (0, .ref (ad 31)), (1, .ref (ad 47)), (2, .int (iz 4))] dX4_extend_78 rfl (by decide) rfl ?_
              refine v_goto X 36 dX4_extend_81 (by decide) ?_
              refine v_lv [1, 2, 3, 0] rfl ?_
              exact ih4 My (i + 1) Q (by omega) (hfr2) (hT2) (hK2) (hQ2) (hoQ) (by rw [← hk, show (M 6 1).toNat - i.toNat = ((M 6 1).toNat - (i + 1).toNat) + 1 by omega, kidsF_s, if_pos hin]) (by omega)
            · skip
              have hin : inF p i = false := Bool.eq_false_iff.mpr (fun z => b9 ⟨by omega, by omega, by rw [(hT2.2.2.2 i (by omega) (by omega)).2.1]; exact (lkF_has ho).mpr z⟩)
              refine v_if_ne X 78 dX4_extend_55 (by decide) ⟨by decide, by decide⟩ (fun q => absurd q (by decide)) (fun _ => ?_)
              refine v_aload_n X 0 dX4_extend_58 rfl rfl ?_
              refine v_iload_n X 3 dX4_extend_59 rfl rfl ?_
              refine v_callV X [.int (iz i)] hRm (c_X4_fly _ _ _ hS i ⟨by omega, by omega⟩ wo p t ht hRt (cTxt_fr hfr2 ht hX) (ShowOk_fr hfr2 hO) hT2 hK2 (by rw [g62]; exact ho) hin hwa2 (plPre_fr hfr2 hP)) (gV bw_35_2 bw_35_3 bw_35_4 bw_2_15 bw_35_5) rfl ddX4_fly (by decide) (Std.lt hS rfl) (Std.k hS rfl rfl) ⟨rfl, by decide⟩ (Nat.le_of_ble_eq_true rfl) dX4_extend_60 (k_eB (fun M10 e11 => ?_) (fun M10 e11 => ?_))
              · skip
                obtain ⟨f, y1, y2, y3, y4, y5, y6⟩ := e11
                rw [g62] at y2
                rw [cpl_fr hfr2 hO ht ho (by omega) (by omega)] at y1
                have hfr3 : frC M M10 := frC_trans hfr2 y5
                have g63 : M10 6 1 = M 6 1 := by rw [hfr3.1 6 (by omega)]
                have g53 : M10 50 = M 50 := hfr3.1 50 (by omega)
                have hwa3 : ∀ a : Int, 0 ≤ a → a < M10 6 1 → wo a = cWo M10 R a := fun a a1 a2 => by rw [g63] at a2; rw [hwa a a1 a2]; unfold cWo; rw [row_fr hfr3 hO a1 a2]
                refine v_if_eq X 78 dX4_extend_63 (by decide) ⟨by decide, by decide⟩ (fun q => absurd q (by decide)) (fun _ => ?_)
                refine v_aload_n X 0 dX4_extend_66 rfl rfl ?_
                refine v_aload_n X 1 dX4_extend_67 rfl rfl ?_
                refine v_iload_n X 2 dX4_extend_68 rfl rfl ?_
                refine v_iconst X dX4_extend_69 ?_
                refine v_iadd X dX4_extend_70 ?_
                refine v_st (st' := [.int (iz 5), .ref (ad 47), .ref (ad 31)]) rfl ?_
                refine v_callV X [.ref (ad 47), .int (iz 5)] hRm (c_X4_extend_5 _ _ _ hS wo (f :: p) Q t ht hRt (cTxt_fr hfr3 ht hX) (ShowOk_fr hfr3 hO) y3 y4 (rQ_fr hQ2 y6) (by rw [g63]; exact y2) (by rw [g63]; exact hoQ) (by simp only [List.length_cons]; omega) hwa3 (plPre_fr hfr3 hP) PL (fun p a h1 h2 h3 => by rw [g63] at h1 h3; rw [cpl_fr hfr3 hO ht h1 h2 h3]; exact hPL p a h1 h2 h3)) (gV bw_33_15 bw_33_16 bw_33_17 bw_2_15 bw_33_18) rfl ddX4_extend (by decide) (Std.lt hS rfl) (Std.k hS rfl rfl) ⟨rfl, by decide⟩ (Nat.le_of_ble_eq_true rfl) dX4_extend_71 (k_eV (fun M13 e12 => ?_))
                obtain ⟨v1, v2, v3, v4, v5⟩ := e12
                rw [g63, g53] at v3 v4
                have hfr4 : frC M M13 := frC_trans hfr3 v5
                have g64 : M13 6 1 = M 6 1 := by rw [hfr4.1 6 (by omega)]
                have hwa4 : ∀ a : Int, 0 ≤ a → a < M13 6 1 → wo a = cWo M13 R a := fun a a1 a2 => by rw [g64] at a2; rw [hwa a a1 a2]; unfold cWo; rw [row_fr hfr4 hO a1 a2]
                refine v_aload_n X 0 dX4_extend_74 rfl rfl ?_
                refine v_callV X [] hRm (c_X4_callBack _ _ _ hS wo f p (ShowOk_fr hfr4 hO) v1 v2 (by rw [g64]; exact y2) hwa4) (gV bw_38_5 bw_38_6 bw_38_7 bw_2_15 bw_38_8) rfl ddX4_callBack (by decide) (Std.lt hS rfl) (Std.k hS rfl rfl) ⟨rfl, by decide⟩ (Nat.le_of_ble_eq_true rfl) dX4_extend_75 (k_eV (fun M15 e14 => ?_))
                obtain ⟨z1, z2, z3, z4⟩ := e14
                refine v_iinc X 3 [(3, .int (iz (i + 1))), (0, .ref (ad 31)), (1, .ref (ad 47)), (2, .int (iz 4))] dX4_extend_78 rfl (by decide) rfl ?_
                refine v_goto X 36 dX4_extend_81 (by decide) ?_
                refine v_lv [1, 2, 3, 0] rfl ?_
                exact ih4 M15 (i + 1) (cS PL wo (M 50) (M 6 1).toNat 1 (f :: p) Q) (by omega) (frC_trans hfr4 z3) (z1) (z2) (rQ_fr v3 z4) (v4) (by rw [← hk, show (M 6 1).toNat - i.toNat = ((M 6 1).toNat - (i + 1).toNat) + 1 by omega, kidsF_s, if_neg (by rw [hin]; decide), ← hPL p i ho (by omega) (by omega), y1]) (by omega)
              · skip
                obtain ⟨y1, y2, y3, y4, y5⟩ := e11
                rw [cpl_fr hfr2 hO ht ho (by omega) (by omega)] at y1
                refine v_if_eq X 78 dX4_extend_63 (by decide) ⟨by decide, by decide⟩ (fun _ => ?_) (fun q => absurd (by decide) q)
                refine v_iinc X 3 [(3, .int (iz (i + 1))), (0, .ref (ad 31)), (1, .ref (ad 47)), (2, .int (iz 4))] dX4_extend_78 rfl (by decide) rfl ?_
                refine v_goto X 36 dX4_extend_81 (by decide) ?_
                refine v_lv [1, 2, 3, 0] rfl ?_
                exact ih4 M10 (i + 1) Q (by omega) (frC_trans hfr2 y4) (y2) (y3) (rQ_fr hQ2 y5) (hoQ) (by rw [← hk, show (M 6 1).toNat - i.toNat = ((M 6 1).toNat - (i + 1).toNat) + 1 by omega, kidsF_s, if_neg (by rw [hin]; decide), ← hPL p i ho (by omega) (by omega), y1]) (by omega)
      refine v_lv [1, 2, 3, 0] rfl ?_
      exact hl3 _ Mx 0 q1 (by omega) (hfr) (hT1) (hK1) (hQ1) (hoq1) (by rw [hFIN, cS_s, ← hq1, if_neg b2]; rfl) (Nat.lt_succ_self _)
  refine v_aload_n X 0 dX4_extend_0 rfl rfl ?_
  refine v_aload_n X 1 dX4_extend_1 rfl rfl ?_
  refine v_callV X [.ref (ad 47)] hRm (c_X4_isBetter _ _ _ hS wo p q hA hT hQ ho hoq) (gV bw_33_20 bw_33_21 bw_33_22 bw_2_15 bw_33_23) rfl ddX4_isBetter (by decide) (Std.lt hS rfl) (Std.k hS rfl rfl) ⟨rfl, by decide⟩ (Nat.le_of_ble_eq_true rfl) dX4_extend_2 (k_pB (fun b16 => ?_) (fun b16 => ?_))
  · skip
    refine v_if_eq X 19 dX4_extend_5 (by decide) ⟨by decide, by decide⟩ (fun q => absurd q (by decide)) (fun _ => ?_)
    refine v_aload_n X 0 dX4_extend_8 rfl rfl ?_
    refine gt_X4_best X iwX4 (Std.lt hS rfl) (Std.k hS rfl rfl) (List.mem_cons_of_mem _ bw_6_12) dX4_extend_9 35 (Std.r hS 5 rfl) ?_
    refine v_aload_n X 0 dX4_extend_12 rfl rfl ?_
    refine gt_X4_trial X iwX4 (Std.lt hS rfl) (Std.k hS rfl rfl) (List.mem_cons_of_mem _ bw_6_13) dX4_extend_13 41 (Std.r hS 6 rfl) ?_
    refine v_callV X [.ref (ad 41)] hRm (c_X3_copy_35_41 _ _ _ hS) (gV bw_34_9 bw_34_10 bw_34_11 bw_2_19 bw_34_12) rfl ddX3_copy (by decide) (Std.lt hS rfl) (Std.k hS rfl rfl) ⟨rfl, by decide⟩ (Nat.le_of_ble_eq_true rfl) dX4_extend_16 (k_eV (fun M18 e17 => ?_))
    replace e17 : M18 = (mu (mu (mrow (mrow (mrow (mrow (mrow M 36 (fun z => if 0 ≤ z ∧ z < 6 then (M 42 z) else (M 36 z))) 37 (fun z => if 0 ≤ z ∧ z < 6 then (M 43 z) else (M 37 z))) 38 (fun z => if 0 ≤ z ∧ z < 6 then (M 44 z) else (M 38 z))) 39 (fun z => if 0 ≤ z ∧ z < 6 then (M 45 z) else (M 39 z))) 40 (fun z => if 0 ≤ z ∧ z < 6 then (M 46 z) else (M 40 z))) 35 5 (M 41 5)) 35 6 (M 41 6)) := e17
    subst e17
    exact hj1 (mu (mu (mrow (mrow (mrow (mrow (mrow M 36 (fun z => if 0 ≤ z ∧ z < 6 then (M 42 z) else (M 36 z))) 37 (fun z => if 0 ≤ z ∧ z < 6 then (M 43 z) else (M 37 z))) 38 (fun z => if 0 ≤ z ∧ z < 6 then (M 44 z) else (M 38 z))) 39 (fun z => if 0 ≤ z ∧ z < 6 then (M 45 z) else (M 39 z))) 40 (fun z => if 0 ≤ z ∧ z < 6 then (M 46 z) else (M 40 z))) 35 5 (M 41 5)) 35 6 (M 41 6)) (⟨fun i hi => (by rw [mu_i _ _ _ (by omega), mu_i _ _ _ (by omega), mrow_i _ _ (by omega), mrow_i _ _ (by omega), mrow_i _ _ (by omega), mrow_i _ _ (by omega), mrow_i _ _ (by omega)]), fun _ _ => rfl⟩) (hT) (hK) (by rw [hq1]; unfold lkS; rw [if_pos b16]; exact rpX_copy (by omega) hT (fun k k1 k2 => ⟨(show (if 0 ≤ k ∧ k < 6 then M 42 k else M 36 k) = M 42 k from if_pos ⟨k1, k2⟩), (show (if 0 ≤ k ∧ k < 6 then M 43 k else M 37 k) = M 43 k from if_pos ⟨k1, k2⟩), (show (if 0 ≤ k ∧ k < 6 then M 44 k else M 38 k) = M 44 k from if_pos ⟨k1, k2⟩), (show (if 0 ≤ k ∧ k < 6 then M 45 k else M 39 k) = M 45 k from if_pos ⟨k1, k2⟩), (show (if 0 ≤ k ∧ k < 6 then M 46 k else M 40 k) = M 46 k from if_pos ⟨k1, k2⟩)⟩)) 
  · skip
    refine v_if_eq X 19 dX4_extend_5 (by decide) ⟨by decide, by decide⟩ (fun _ => ?_) (fun q => absurd (by decide) q)
    exact hj1 M ((frC_refl _)) (hT) (hK) (by rw [hq1]; unfold lkS; rw [if_neg b16]; exact hQ) 

-- extend at depth 3
set_option maxHeartbeats 4000000 in
set_option maxRecDepth 100000 in
theorem c_X4_extend_3 (l : Launch) (D : va_G) (cy : Nat → ClassId) {N : Nat} {sh : MS} {ad : Nat → Nat} {M L : MI} {R : MR} (hS : Std N sh R) (wo : Int → Int) (p q : List Fl) (t : Nat) (ht : isT t) (hRt : R 31 7 = some t) (hX : cTxt M t) (hO : ShowOk M R sh N) (hT : rT wo M p) (hK : rK M p) (hQ : rQ wo M q) (ho : okF (M 6 1) p) (hoq : okF (M 6 1) q) (hl : p.length = 3) (hwa : ∀ a : Int, 0 ≤ a → a < M 6 1 → wo a = cWo M R a) (hP : plPre M) (PL : List Fl → Int → Option Fl) (hPL : ∀ (p : List Fl) (a : Int), okF (M 6 1) p → 0 ≤ a → a < M 6 1 → cpl M R t p a = PL p a) : Ctr l D cy yX4_extend wsX4_extend ({ frames := 7, cells := 0, slots := 0, locals := 173 } : Room) N sh ad M L R [.ref (ad 31), .ref (ad 47), .int (iz 3)] (eV N sh ad L R (fun M' => rT wo M' p ∧ rK M' p ∧ rQ wo M' (cS PL wo (M 50) (M 6 1).toNat 3 p q) ∧ okF (M 6 1) (cS PL wo (M 50) (M 6 1).toNat 3 p q) ∧ frC M M')) := by
  refine Ctr.ofV (by decide) rfl (Nat.le_of_ble_eq_true rfl) ?_
  intro K hKl hKd hRm hnm X hret
  have X : VX K cX4_extend 4 wsX4_extend RX4 := X
  show V K 4 0 0 N sh ad M L R [(0, .ref (ad 31)), (1, .ref (ad 47)), (2, .int (iz 3))] [] 0
  have hA := hO.1
  obtain ⟨q1, hq1⟩ : ∃ X, X = lkS wo (M 50) p q := ⟨_, rfl⟩
  have hoq1 : okF (M 6 1) q1 := by rw [hq1]; exact lkS_ok ho hoq
  obtain ⟨FIN, hFIN⟩ : ∃ X, X = (cS PL wo (M 50) (M 6 1).toNat 3 p q) := ⟨_, rfl⟩
  have hj1 : ∀ (Mx : MI), (frC M Mx) → (rT wo Mx p) → (rK Mx p) → (rQ wo Mx q1) →  V K 4 0 0 N sh ad Mx L R [(0, .ref (ad 31)), (1, .ref (ad 47)), (2, .int (iz 3))] [] 19 := by
    intro Mx hfr hT1 hK1 hQ1
    have g61 : Mx 6 1 = M 6 1 := by rw [hfr.1 6 (by omega)]
    have g50 : Mx 50 = M 50 := hfr.1 50 (by omega)
    have hwa1 : ∀ a : Int, 0 ≤ a → a < Mx 6 1 → wo a = cWo Mx R a := fun a a1 a2 => by rw [g61] at a2; rw [hwa a a1 a2]; unfold cWo; rw [row_fr hfr hO a1 a2]
    refine v_iload_n X 2 dX4_extend_19 rfl rfl ?_
    refine v_bipush X dX4_extend_20 (by decide) ?_
    refine v_icmp_ge X 33 dX4_extend_22 (by decide) ⟨by decide, by decide⟩ ⟨by decide, by decide⟩ (fun q => absurd q (by decide)) (fun _ => ?_)
    refine v_aload_n X 0 dX4_extend_25 rfl rfl ?_
    refine v_aload_n X 1 dX4_extend_26 rfl rfl ?_
    refine v_callV X [.ref (ad 47)] hRm (c_X4_isHopeless _ _ _ hS wo p q1 (ShowOk_fr hfr hO) hT1 hQ1 (by rw [g61]; exact ho) (by rw [g61]; exact hoq1) hwa1) (gV bw_34_17 bw_34_18 bw_34_19 bw_2_15 bw_34_20) rfl ddX4_isHopeless (by decide) (Std.lt hS rfl) (Std.k hS rfl rfl) ⟨rfl, by decide⟩ (Nat.le_of_ble_eq_true rfl) dX4_extend_27 (k_pB (fun b2 => ?_) (fun b2 => ?_))
    · skip
      rw [g61, g50] at b2
      refine v_if_eq X 34 dX4_extend_30 (by decide) ⟨by decide, by decide⟩ (fun q => absurd q (by decide)) (fun _ => ?_)
      refine hret _ _ _ _ _ _ _ _ _ _ _ none dX4_extend_33 ⟨rfl, rfl⟩ (by decide) (by decide) (fun hmok => ?_)
      refine ⟨rfl, rfl, rfl, rfl, rfl, rfl, ?_⟩
      rw [← hFIN]
      have hF : FIN = q1 := by rw [hFIN, cS_s, ← hq1, if_pos b2]
      rw [hF]
      exact ⟨hT1, hK1, hQ1, hoq1, hfr⟩
    · skip
      rw [g61, g50] at b2
      refine v_if_eq X 34 dX4_extend_30 (by decide) ⟨by decide, by decide⟩ (fun _ => ?_) (fun q => absurd (by decide) q)
      refine v_iconst X dX4_extend_34 ?_
      refine v_istore_n X [(3, .int (iz 0)), (0, .ref (ad 31)), (1, .ref (ad 47)), (2, .int (iz 3))] dX4_extend_35 rfl (by decide) rfl ?_
      have hl3 : ∀ (n5 : Nat) (My : MI) (i : Int) (Q : List Fl), (0 ≤ i ∧ i ≤ M 6 1) → (frC M My) → (rT wo My p) → (rK My p) → (rQ wo My Q) → (okF (M 6 1) Q) → (kidsF (PL p) (cS PL wo (M 50) (M 6 1).toNat 2) p ((M 6 1).toNat - i.toNat) i Q = FIN) → (6 - i).toNat < n5 → V K 4 0 0 N sh ad My L R [(0, .ref (ad 31)), (1, .ref (ad 47)), (2, .int (iz 3)), (3, .int (iz i))] [] 36 := by
        intro n5
        induction n5 with
        | zero => intro My i Q hi hfr2 hT2 hK2 hQ2 hoQ hk hn6; exact absurd hn6 (Nat.not_lt_zero _)
        | succ n5 ih4 =>
          intro My i Q hi hfr2 hT2 hK2 hQ2 hoQ hk hn6
          have g62 : My 6 1 = M 6 1 := by rw [hfr2.1 6 (by omega)]
          have g52 : My 50 = M 50 := hfr2.1 50 (by omega)
          have hwa2 : ∀ a : Int, 0 ≤ a → a < My 6 1 → wo a = cWo My R a := fun a a1 a2 => by rw [g62] at a2; rw [hwa a a1 a2]; unfold cWo; rw [row_fr hfr2 hO a1 a2]
          refine v_iload_n X 3 dX4_extend_36 rfl rfl ?_
          refine v_aload_n X 0 dX4_extend_37 rfl rfl ?_
          refine gt_X4_show X iwX4 (Std.lt hS rfl) (Std.k hS rfl rfl) (List.mem_cons_of_mem _ bw_6_14) dX4_extend_38 6 (Std.r hS 0 rfl) ?_
          refine gt_X7_size X iwX7 (Std.lt hS rfl) (Std.k hS rfl rfl) (List.mem_cons_of_mem _ bw_33_19) dX4_extend_41 (My 6 1) rfl (fun hr7 => ?_)
          refine v_icmp_ge X 84 dX4_extend_44 (by decide) ⟨by omega, by omega⟩ ⟨by omega, by omega⟩ (fun u8 => ?_) (fun u8 => ?_)
          · skip
            refine hret _ _ _ _ _ _ _ _ _ _ _ none dX4_extend_84 ⟨rfl, rfl⟩ (by decide) (by decide) (fun hmok => ?_)
            refine ⟨rfl, rfl, rfl, rfl, rfl, rfl, ?_⟩
            rw [← hFIN]
            have hF : FIN = Q := by rw [← hk, show (M 6 1).toNat - i.toNat = 0 by omega]; rfl
            rw [hF]
            exact ⟨hT2, hK2, hQ2, hoQ, hfr2⟩
          · skip
            refine v_aload_n X 0 dX4_extend_47 rfl rfl ?_
            refine gt_X4_trial X iwX4 (Std.lt hS rfl) (Std.k hS rfl rfl) (List.mem_cons_of_mem _ bw_6_13) dX4_extend_48 41 (Std.r hS 6 rfl) ?_
            refine v_iload_n X 3 dX4_extend_51 rfl rfl ?_
            refine v_callV X [.int (iz i)] hRm (c_X3_has_41 _ _ _ hS i ⟨by omega, by omega⟩) (gV bw_34_22 bw_34_23 bw_35_0 bw_2_19 bw_35_1) rfl ddX3_has (by decide) (Std.lt hS rfl) (Std.k hS rfl rfl) ⟨rfl, by decide⟩ (Nat.le_of_ble_eq_true rfl) dX4_extend_52 (k_pB (fun b9 => ?_) (fun b9 => ?_))
            · skip
              have hin : inF p i = true := (lkF_has ho).mp (by rw [← (hT2.2.2.2 i (by omega) (by omega)).2.1]; exact b9.2.2)
              refine v_if_ne X 78 dX4_extend_55 (by decide) ⟨by decide, by decide⟩ (fun _ => ?_) (fun q => absurd (by decide) q)
              refine v_iinc X 3 [(3, .int (iz (i + 1))), (0, .ref (ad 31)), (1, .ref (ad 47)), (2, .int (iz 3))] dX4_extend_78 rfl (by decide) rfl ?_
              refine v_goto X 36 dX4_extend_81 (by decide) ?_
              refine v_lv [1, 2, 3, 0] rfl ?_
              exact ih4 My (i + 1) Q (by omega) (hfr2) (hT2) (hK2) (hQ2) (hoQ) (by rw [← hk, show (M 6 1).toNat - i.toNat = ((M 6 1).toNat - (i + 1).toNat) + 1 by omega, kidsF_s, if_pos hin]) (by omega)
            · skip
              have hin : inF p i = false := Bool.eq_false_iff.mpr (fun z => b9 ⟨by omega, by omega, by rw [(hT2.2.2.2 i (by omega) (by omega)).2.1]; exact (lkF_has ho).mpr z⟩)
              refine v_if_ne X 78 dX4_extend_55 (by decide) ⟨by decide, by decide⟩ (fun q => absurd q (by decide)) (fun _ => ?_)
              refine v_aload_n X 0 dX4_extend_58 rfl rfl ?_
              refine v_iload_n X 3 dX4_extend_59 rfl rfl ?_
              refine v_callV X [.int (iz i)] hRm (c_X4_fly _ _ _ hS i ⟨by omega, by omega⟩ wo p t ht hRt (cTxt_fr hfr2 ht hX) (ShowOk_fr hfr2 hO) hT2 hK2 (by rw [g62]; exact ho) hin hwa2 (plPre_fr hfr2 hP)) (gV bw_35_2 bw_35_3 bw_35_4 bw_2_15 bw_35_5) rfl ddX4_fly (by decide) (Std.lt hS rfl) (Std.k hS rfl rfl) ⟨rfl, by decide⟩ (Nat.le_of_ble_eq_true rfl) dX4_extend_60 (k_eB (fun M10 e11 => ?_) (fun M10 e11 => ?_))
              · skip
                obtain ⟨f, y1, y2, y3, y4, y5, y6⟩ := e11
                rw [g62] at y2
                rw [cpl_fr hfr2 hO ht ho (by omega) (by omega)] at y1
                have hfr3 : frC M M10 := frC_trans hfr2 y5
                have g63 : M10 6 1 = M 6 1 := by rw [hfr3.1 6 (by omega)]
                have g53 : M10 50 = M 50 := hfr3.1 50 (by omega)
                have hwa3 : ∀ a : Int, 0 ≤ a → a < M10 6 1 → wo a = cWo M10 R a := fun a a1 a2 => by rw [g63] at a2; rw [hwa a a1 a2]; unfold cWo; rw [row_fr hfr3 hO a1 a2]
                refine v_if_eq X 78 dX4_extend_63 (by decide) ⟨by decide, by decide⟩ (fun q => absurd q (by decide)) (fun _ => ?_)
                refine v_aload_n X 0 dX4_extend_66 rfl rfl ?_
                refine v_aload_n X 1 dX4_extend_67 rfl rfl ?_
                refine v_iload_n X 2 dX4_extend_68 rfl rfl ?_
                refine v_iconst X dX4_extend_69 ?_
                refine v_iadd X dX4_extend_70 ?_
                refine v_st (st' := [.int (iz 4), .ref (ad 47), .ref (ad 31)]) rfl ?_
                refine v_callV X [.ref (ad 47), .int (iz 4)] hRm (c_X4_extend_4 _ _ _ hS wo (f :: p) Q t ht hRt (cTxt_fr hfr3 ht hX) (ShowOk_fr hfr3 hO) y3 y4 (rQ_fr hQ2 y6) (by rw [g63]; exact y2) (by rw [g63]; exact hoQ) (by simp only [List.length_cons]; omega) hwa3 (plPre_fr hfr3 hP) PL (fun p a h1 h2 h3 => by rw [g63] at h1 h3; rw [cpl_fr hfr3 hO ht h1 h2 h3]; exact hPL p a h1 h2 h3)) (gV bw_33_15 bw_33_16 bw_33_17 bw_2_15 bw_33_18) rfl ddX4_extend (by decide) (Std.lt hS rfl) (Std.k hS rfl rfl) ⟨rfl, by decide⟩ (Nat.le_of_ble_eq_true rfl) dX4_extend_71 (k_eV (fun M13 e12 => ?_))
                obtain ⟨v1, v2, v3, v4, v5⟩ := e12
                rw [g63, g53] at v3 v4
                have hfr4 : frC M M13 := frC_trans hfr3 v5
                have g64 : M13 6 1 = M 6 1 := by rw [hfr4.1 6 (by omega)]
                have hwa4 : ∀ a : Int, 0 ≤ a → a < M13 6 1 → wo a = cWo M13 R a := fun a a1 a2 => by rw [g64] at a2; rw [hwa a a1 a2]; unfold cWo; rw [row_fr hfr4 hO a1 a2]
                refine v_aload_n X 0 dX4_extend_74 rfl rfl ?_
                refine v_callV X [] hRm (c_X4_callBack _ _ _ hS wo f p (ShowOk_fr hfr4 hO) v1 v2 (by rw [g64]; exact y2) hwa4) (gV bw_38_5 bw_38_6 bw_38_7 bw_2_15 bw_38_8) rfl ddX4_callBack (by decide) (Std.lt hS rfl) (Std.k hS rfl rfl) ⟨rfl, by decide⟩ (Nat.le_of_ble_eq_true rfl) dX4_extend_75 (k_eV (fun M15 e14 => ?_))
                obtain ⟨z1, z2, z3, z4⟩ := e14
                refine v_iinc X 3 [(3, .int (iz (i + 1))), (0, .ref (ad 31)), (1, .ref (ad 47)), (2, .int (iz 3))] dX4_extend_78 rfl (by decide) rfl ?_
                refine v_goto X 36 dX4_extend_81 (by decide) ?_
                refine v_lv [1, 2, 3, 0] rfl ?_
                exact ih4 M15 (i + 1) (cS PL wo (M 50) (M 6 1).toNat 2 (f :: p) Q) (by omega) (frC_trans hfr4 z3) (z1) (z2) (rQ_fr v3 z4) (v4) (by rw [← hk, show (M 6 1).toNat - i.toNat = ((M 6 1).toNat - (i + 1).toNat) + 1 by omega, kidsF_s, if_neg (by rw [hin]; decide), ← hPL p i ho (by omega) (by omega), y1]) (by omega)
              · skip
                obtain ⟨y1, y2, y3, y4, y5⟩ := e11
                rw [cpl_fr hfr2 hO ht ho (by omega) (by omega)] at y1
                refine v_if_eq X 78 dX4_extend_63 (by decide) ⟨by decide, by decide⟩ (fun _ => ?_) (fun q => absurd (by decide) q)
                refine v_iinc X 3 [(3, .int (iz (i + 1))), (0, .ref (ad 31)), (1, .ref (ad 47)), (2, .int (iz 3))] dX4_extend_78 rfl (by decide) rfl ?_
                refine v_goto X 36 dX4_extend_81 (by decide) ?_
                refine v_lv [1, 2, 3, 0] rfl ?_
                exact ih4 M10 (i + 1) Q (by omega) (frC_trans hfr2 y4) (y2) (y3) (rQ_fr hQ2 y5) (hoQ) (by rw [← hk, show (M 6 1).toNat - i.toNat = ((M 6 1).toNat - (i + 1).toNat) + 1 by omega, kidsF_s, if_neg (by rw [hin]; decide), ← hPL p i ho (by omega) (by omega), y1]) (by omega)
      refine v_lv [1, 2, 3, 0] rfl ?_
      exact hl3 _ Mx 0 q1 (by omega) (hfr) (hT1) (hK1) (hQ1) (hoq1) (by rw [hFIN, cS_s, ← hq1, if_neg b2]; rfl) (Nat.lt_succ_self _)
  refine v_aload_n X 0 dX4_extend_0 rfl rfl ?_
  refine v_aload_n X 1 dX4_extend_1 rfl rfl ?_
  refine v_callV X [.ref (ad 47)] hRm (c_X4_isBetter _ _ _ hS wo p q hA hT hQ ho hoq) (gV bw_33_20 bw_33_21 bw_33_22 bw_2_15 bw_33_23) rfl ddX4_isBetter (by decide) (Std.lt hS rfl) (Std.k hS rfl rfl) ⟨rfl, by decide⟩ (Nat.le_of_ble_eq_true rfl) dX4_extend_2 (k_pB (fun b16 => ?_) (fun b16 => ?_))
  · skip
    refine v_if_eq X 19 dX4_extend_5 (by decide) ⟨by decide, by decide⟩ (fun q => absurd q (by decide)) (fun _ => ?_)
    refine v_aload_n X 0 dX4_extend_8 rfl rfl ?_
    refine gt_X4_best X iwX4 (Std.lt hS rfl) (Std.k hS rfl rfl) (List.mem_cons_of_mem _ bw_6_12) dX4_extend_9 35 (Std.r hS 5 rfl) ?_
    refine v_aload_n X 0 dX4_extend_12 rfl rfl ?_
    refine gt_X4_trial X iwX4 (Std.lt hS rfl) (Std.k hS rfl rfl) (List.mem_cons_of_mem _ bw_6_13) dX4_extend_13 41 (Std.r hS 6 rfl) ?_
    refine v_callV X [.ref (ad 41)] hRm (c_X3_copy_35_41 _ _ _ hS) (gV bw_34_9 bw_34_10 bw_34_11 bw_2_19 bw_34_12) rfl ddX3_copy (by decide) (Std.lt hS rfl) (Std.k hS rfl rfl) ⟨rfl, by decide⟩ (Nat.le_of_ble_eq_true rfl) dX4_extend_16 (k_eV (fun M18 e17 => ?_))
    replace e17 : M18 = (mu (mu (mrow (mrow (mrow (mrow (mrow M 36 (fun z => if 0 ≤ z ∧ z < 6 then (M 42 z) else (M 36 z))) 37 (fun z => if 0 ≤ z ∧ z < 6 then (M 43 z) else (M 37 z))) 38 (fun z => if 0 ≤ z ∧ z < 6 then (M 44 z) else (M 38 z))) 39 (fun z => if 0 ≤ z ∧ z < 6 then (M 45 z) else (M 39 z))) 40 (fun z => if 0 ≤ z ∧ z < 6 then (M 46 z) else (M 40 z))) 35 5 (M 41 5)) 35 6 (M 41 6)) := e17
    subst e17
    exact hj1 (mu (mu (mrow (mrow (mrow (mrow (mrow M 36 (fun z => if 0 ≤ z ∧ z < 6 then (M 42 z) else (M 36 z))) 37 (fun z => if 0 ≤ z ∧ z < 6 then (M 43 z) else (M 37 z))) 38 (fun z => if 0 ≤ z ∧ z < 6 then (M 44 z) else (M 38 z))) 39 (fun z => if 0 ≤ z ∧ z < 6 then (M 45 z) else (M 39 z))) 40 (fun z => if 0 ≤ z ∧ z < 6 then (M 46 z) else (M 40 z))) 35 5 (M 41 5)) 35 6 (M 41 6)) (⟨fun i hi => (by rw [mu_i _ _ _ (by omega), mu_i _ _ _ (by omega), mrow_i _ _ (by omega), mrow_i _ _ (by omega), mrow_i _ _ (by omega), mrow_i _ _ (by omega), mrow_i _ _ (by omega)]), fun _ _ => rfl⟩) (hT) (hK) (by rw [hq1]; unfold lkS; rw [if_pos b16]; exact rpX_copy (by omega) hT (fun k k1 k2 => ⟨(show (if 0 ≤ k ∧ k < 6 then M 42 k else M 36 k) = M 42 k from if_pos ⟨k1, k2⟩), (show (if 0 ≤ k ∧ k < 6 then M 43 k else M 37 k) = M 43 k from if_pos ⟨k1, k2⟩), (show (if 0 ≤ k ∧ k < 6 then M 44 k else M 38 k) = M 44 k from if_pos ⟨k1, k2⟩), (show (if 0 ≤ k ∧ k < 6 then M 45 k else M 39 k) = M 45 k from if_pos ⟨k1, k2⟩), (show (if 0 ≤ k ∧ k < 6 then M 46 k else M 40 k) = M 46 k from if_pos ⟨k1, k2⟩)⟩)) 
  · skip
    refine v_if_eq X 19 dX4_extend_5 (by decide) ⟨by decide, by decide⟩ (fun _ => ?_) (fun q => absurd (by decide) q)
    exact hj1 M ((frC_refl _)) (hT) (hK) (by rw [hq1]; unfold lkS; rw [if_neg b16]; exact hQ) 

-- extend at depth 2
set_option maxHeartbeats 4000000 in
set_option maxRecDepth 100000 in
theorem c_X4_extend_2 (l : Launch) (D : va_G) (cy : Nat → ClassId) {N : Nat} {sh : MS} {ad : Nat → Nat} {M L : MI} {R : MR} (hS : Std N sh R) (wo : Int → Int) (p q : List Fl) (t : Nat) (ht : isT t) (hRt : R 31 7 = some t) (hX : cTxt M t) (hO : ShowOk M R sh N) (hT : rT wo M p) (hK : rK M p) (hQ : rQ wo M q) (ho : okF (M 6 1) p) (hoq : okF (M 6 1) q) (hl : p.length = 2) (hwa : ∀ a : Int, 0 ≤ a → a < M 6 1 → wo a = cWo M R a) (hP : plPre M) (PL : List Fl → Int → Option Fl) (hPL : ∀ (p : List Fl) (a : Int), okF (M 6 1) p → 0 ≤ a → a < M 6 1 → cpl M R t p a = PL p a) : Ctr l D cy yX4_extend wsX4_extend ({ frames := 8, cells := 0, slots := 0, locals := 196 } : Room) N sh ad M L R [.ref (ad 31), .ref (ad 47), .int (iz 2)] (eV N sh ad L R (fun M' => rT wo M' p ∧ rK M' p ∧ rQ wo M' (cS PL wo (M 50) (M 6 1).toNat 4 p q) ∧ okF (M 6 1) (cS PL wo (M 50) (M 6 1).toNat 4 p q) ∧ frC M M')) := by
  refine Ctr.ofV (by decide) rfl (Nat.le_of_ble_eq_true rfl) ?_
  intro K hKl hKd hRm hnm X hret
  have X : VX K cX4_extend 4 wsX4_extend RX4 := X
  show V K 4 0 0 N sh ad M L R [(0, .ref (ad 31)), (1, .ref (ad 47)), (2, .int (iz 2))] [] 0
  have hA := hO.1
  obtain ⟨q1, hq1⟩ : ∃ X, X = lkS wo (M 50) p q := ⟨_, rfl⟩
  have hoq1 : okF (M 6 1) q1 := by rw [hq1]; exact lkS_ok ho hoq
  obtain ⟨FIN, hFIN⟩ : ∃ X, X = (cS PL wo (M 50) (M 6 1).toNat 4 p q) := ⟨_, rfl⟩
  have hj1 : ∀ (Mx : MI), (frC M Mx) → (rT wo Mx p) → (rK Mx p) → (rQ wo Mx q1) →  V K 4 0 0 N sh ad Mx L R [(0, .ref (ad 31)), (1, .ref (ad 47)), (2, .int (iz 2))] [] 19 := by
    intro Mx hfr hT1 hK1 hQ1
    have g61 : Mx 6 1 = M 6 1 := by rw [hfr.1 6 (by omega)]
    have g50 : Mx 50 = M 50 := hfr.1 50 (by omega)
    have hwa1 : ∀ a : Int, 0 ≤ a → a < Mx 6 1 → wo a = cWo Mx R a := fun a a1 a2 => by rw [g61] at a2; rw [hwa a a1 a2]; unfold cWo; rw [row_fr hfr hO a1 a2]
    refine v_iload_n X 2 dX4_extend_19 rfl rfl ?_
    refine v_bipush X dX4_extend_20 (by decide) ?_
    refine v_icmp_ge X 33 dX4_extend_22 (by decide) ⟨by decide, by decide⟩ ⟨by decide, by decide⟩ (fun q => absurd q (by decide)) (fun _ => ?_)
    refine v_aload_n X 0 dX4_extend_25 rfl rfl ?_
    refine v_aload_n X 1 dX4_extend_26 rfl rfl ?_
    refine v_callV X [.ref (ad 47)] hRm (c_X4_isHopeless _ _ _ hS wo p q1 (ShowOk_fr hfr hO) hT1 hQ1 (by rw [g61]; exact ho) (by rw [g61]; exact hoq1) hwa1) (gV bw_34_17 bw_34_18 bw_34_19 bw_2_15 bw_34_20) rfl ddX4_isHopeless (by decide) (Std.lt hS rfl) (Std.k hS rfl rfl) ⟨rfl, by decide⟩ (Nat.le_of_ble_eq_true rfl) dX4_extend_27 (k_pB (fun b2 => ?_) (fun b2 => ?_))
    · skip
      rw [g61, g50] at b2
      refine v_if_eq X 34 dX4_extend_30 (by decide) ⟨by decide, by decide⟩ (fun q => absurd q (by decide)) (fun _ => ?_)
      refine hret _ _ _ _ _ _ _ _ _ _ _ none dX4_extend_33 ⟨rfl, rfl⟩ (by decide) (by decide) (fun hmok => ?_)
      refine ⟨rfl, rfl, rfl, rfl, rfl, rfl, ?_⟩
      rw [← hFIN]
      have hF : FIN = q1 := by rw [hFIN, cS_s, ← hq1, if_pos b2]
      rw [hF]
      exact ⟨hT1, hK1, hQ1, hoq1, hfr⟩
    · skip
      rw [g61, g50] at b2
      refine v_if_eq X 34 dX4_extend_30 (by decide) ⟨by decide, by decide⟩ (fun _ => ?_) (fun q => absurd (by decide) q)
      refine v_iconst X dX4_extend_34 ?_
      refine v_istore_n X [(3, .int (iz 0)), (0, .ref (ad 31)), (1, .ref (ad 47)), (2, .int (iz 2))] dX4_extend_35 rfl (by decide) rfl ?_
      have hl3 : ∀ (n5 : Nat) (My : MI) (i : Int) (Q : List Fl), (0 ≤ i ∧ i ≤ M 6 1) → (frC M My) → (rT wo My p) → (rK My p) → (rQ wo My Q) → (okF (M 6 1) Q) → (kidsF (PL p) (cS PL wo (M 50) (M 6 1).toNat 3) p ((M 6 1).toNat - i.toNat) i Q = FIN) → (6 - i).toNat < n5 → V K 4 0 0 N sh ad My L R [(0, .ref (ad 31)), (1, .ref (ad 47)), (2, .int (iz 2)), (3, .int (iz i))] [] 36 := by
        intro n5
        induction n5 with
        | zero => intro My i Q hi hfr2 hT2 hK2 hQ2 hoQ hk hn6; exact absurd hn6 (Nat.not_lt_zero _)
        | succ n5 ih4 =>
          intro My i Q hi hfr2 hT2 hK2 hQ2 hoQ hk hn6
          have g62 : My 6 1 = M 6 1 := by rw [hfr2.1 6 (by omega)]
          have g52 : My 50 = M 50 := hfr2.1 50 (by omega)
          have hwa2 : ∀ a : Int, 0 ≤ a → a < My 6 1 → wo a = cWo My R a := fun a a1 a2 => by rw [g62] at a2; rw [hwa a a1 a2]; unfold cWo; rw [row_fr hfr2 hO a1 a2]
          refine v_iload_n X 3 dX4_extend_36 rfl rfl ?_
          refine v_aload_n X 0 dX4_extend_37 rfl rfl ?_
          refine gt_X4_show X iwX4 (Std.lt hS rfl) (Std.k hS rfl rfl) (List.mem_cons_of_mem _ bw_6_14) dX4_extend_38 6 (Std.r hS 0 rfl) ?_
          refine gt_X7_size X iwX7 (Std.lt hS rfl) (Std.k hS rfl rfl) (List.mem_cons_of_mem _ bw_33_19) dX4_extend_41 (My 6 1) rfl (fun hr7 => ?_)
          refine v_icmp_ge X 84 dX4_extend_44 (by decide) ⟨by omega, by omega⟩ ⟨by omega, by omega⟩ (fun u8 => ?_) (fun u8 => ?_)
          · skip
            refine hret _ _ _ _ _ _ _ _ _ _ _ none dX4_extend_84 ⟨rfl, rfl⟩ (by decide) (by decide) (fun hmok => ?_)
            refine ⟨rfl, rfl, rfl, rfl, rfl, rfl, ?_⟩
            rw [← hFIN]
            have hF : FIN = Q := by rw [← hk, show (M 6 1).toNat - i.toNat = 0 by omega]; rfl
            rw [hF]
            exact ⟨hT2, hK2, hQ2, hoQ, hfr2⟩
          · skip
            refine v_aload_n X 0 dX4_extend_47 rfl rfl ?_
            refine gt_X4_trial X iwX4 (Std.lt hS rfl) (Std.k hS rfl rfl) (List.mem_cons_of_mem _ bw_6_13) dX4_extend_48 41 (Std.r hS 6 rfl) ?_
            refine v_iload_n X 3 dX4_extend_51 rfl rfl ?_
            refine v_callV X [.int (iz i)] hRm (c_X3_has_41 _ _ _ hS i ⟨by omega, by omega⟩) (gV bw_34_22 bw_34_23 bw_35_0 bw_2_19 bw_35_1) rfl ddX3_has (by decide) (Std.lt hS rfl) (Std.k hS rfl rfl) ⟨rfl, by decide⟩ (Nat.le_of_ble_eq_true rfl) dX4_extend_52 (k_pB (fun b9 => ?_) (fun b9 => ?_))
            · skip
              have hin : inF p i = true := (lkF_has ho).mp (by rw [← (hT2.2.2.2 i (by omega) (by omega)).2.1]; exact b9.2.2)
              refine v_if_ne X 78 dX4_extend_55 (by decide) ⟨by decide, by decide⟩ (fun _ => ?_) (fun q => absurd (by decide) q)
              refine v_iinc X 3 [(3, .int (iz (i + 1))), (0, .ref (ad 31)), (1, .ref (ad 47)), (2, .int (iz 2))] dX4_extend_78 rfl (by decide) rfl ?_
              refine v_goto X 36 dX4_extend_81 (by decide) ?_
              refine v_lv [1, 2, 3, 0] rfl ?_
              exact ih4 My (i + 1) Q (by omega) (hfr2) (hT2) (hK2) (hQ2) (hoQ) (by rw [← hk, show (M 6 1).toNat - i.toNat = ((M 6 1).toNat - (i + 1).toNat) + 1 by omega, kidsF_s, if_pos hin]) (by omega)
            · skip
              have hin : inF p i = false := Bool.eq_false_iff.mpr (fun z => b9 ⟨by omega, by omega, by rw [(hT2.2.2.2 i (by omega) (by omega)).2.1]; exact (lkF_has ho).mpr z⟩)
              refine v_if_ne X 78 dX4_extend_55 (by decide) ⟨by decide, by decide⟩ (fun q => absurd q (by decide)) (fun _ => ?_)
              refine v_aload_n X 0 dX4_extend_58 rfl rfl ?_
              refine v_iload_n X 3 dX4_extend_59 rfl rfl ?_
              refine v_callV X [.int (iz i)] hRm (c_X4_fly _ _ _ hS i ⟨by omega, by omega⟩ wo p t ht hRt (cTxt_fr hfr2 ht hX) (ShowOk_fr hfr2 hO) hT2 hK2 (by rw [g62]; exact ho) hin hwa2 (plPre_fr hfr2 hP)) (gV bw_35_2 bw_35_3 bw_35_4 bw_2_15 bw_35_5) rfl ddX4_fly (by decide) (Std.lt hS rfl) (Std.k hS rfl rfl) ⟨rfl, by decide⟩ (Nat.le_of_ble_eq_true rfl) dX4_extend_60 (k_eB (fun M10 e11 => ?_) (fun M10 e11 => ?_))
              · skip
                obtain ⟨f, y1, y2, y3, y4, y5, y6⟩ := e11
                rw [g62] at y2
                rw [cpl_fr hfr2 hO ht ho (by omega) (by omega)] at y1
                have hfr3 : frC M M10 := frC_trans hfr2 y5
                have g63 : M10 6 1 = M 6 1 := by rw [hfr3.1 6 (by omega)]
                have g53 : M10 50 = M 50 := hfr3.1 50 (by omega)
                have hwa3 : ∀ a : Int, 0 ≤ a → a < M10 6 1 → wo a = cWo M10 R a := fun a a1 a2 => by rw [g63] at a2; rw [hwa a a1 a2]; unfold cWo; rw [row_fr hfr3 hO a1 a2]
                refine v_if_eq X 78 dX4_extend_63 (by decide) ⟨by decide, by decide⟩ (fun q => absurd q (by decide)) (fun _ => ?_)
                refine v_aload_n X 0 dX4_extend_66 rfl rfl ?_
                refine v_aload_n X 1 dX4_extend_67 rfl rfl ?_
                refine v_iload_n X 2 dX4_extend_68 rfl rfl ?_
                refine v_iconst X dX4_extend_69 ?_
                refine v_iadd X dX4_extend_70 ?_
                refine v_st (st' := [.int (iz 3), .ref (ad 47), .ref (ad 31)]) rfl ?_
                refine v_callV X [.ref (ad 47), .int (iz 3)] hRm (c_X4_extend_3 _ _ _ hS wo (f :: p) Q t ht hRt (cTxt_fr hfr3 ht hX) (ShowOk_fr hfr3 hO) y3 y4 (rQ_fr hQ2 y6) (by rw [g63]; exact y2) (by rw [g63]; exact hoQ) (by simp only [List.length_cons]; omega) hwa3 (plPre_fr hfr3 hP) PL (fun p a h1 h2 h3 => by rw [g63] at h1 h3; rw [cpl_fr hfr3 hO ht h1 h2 h3]; exact hPL p a h1 h2 h3)) (gV bw_33_15 bw_33_16 bw_33_17 bw_2_15 bw_33_18) rfl ddX4_extend (by decide) (Std.lt hS rfl) (Std.k hS rfl rfl) ⟨rfl, by decide⟩ (Nat.le_of_ble_eq_true rfl) dX4_extend_71 (k_eV (fun M13 e12 => ?_))
                obtain ⟨v1, v2, v3, v4, v5⟩ := e12
                rw [g63, g53] at v3 v4
                have hfr4 : frC M M13 := frC_trans hfr3 v5
                have g64 : M13 6 1 = M 6 1 := by rw [hfr4.1 6 (by omega)]
                have hwa4 : ∀ a : Int, 0 ≤ a → a < M13 6 1 → wo a = cWo M13 R a := fun a a1 a2 => by rw [g64] at a2; rw [hwa a a1 a2]; unfold cWo; rw [row_fr hfr4 hO a1 a2]
                refine v_aload_n X 0 dX4_extend_74 rfl rfl ?_
                refine v_callV X [] hRm (c_X4_callBack _ _ _ hS wo f p (ShowOk_fr hfr4 hO) v1 v2 (by rw [g64]; exact y2) hwa4) (gV bw_38_5 bw_38_6 bw_38_7 bw_2_15 bw_38_8) rfl ddX4_callBack (by decide) (Std.lt hS rfl) (Std.k hS rfl rfl) ⟨rfl, by decide⟩ (Nat.le_of_ble_eq_true rfl) dX4_extend_75 (k_eV (fun M15 e14 => ?_))
                obtain ⟨z1, z2, z3, z4⟩ := e14
                refine v_iinc X 3 [(3, .int (iz (i + 1))), (0, .ref (ad 31)), (1, .ref (ad 47)), (2, .int (iz 2))] dX4_extend_78 rfl (by decide) rfl ?_
                refine v_goto X 36 dX4_extend_81 (by decide) ?_
                refine v_lv [1, 2, 3, 0] rfl ?_
                exact ih4 M15 (i + 1) (cS PL wo (M 50) (M 6 1).toNat 3 (f :: p) Q) (by omega) (frC_trans hfr4 z3) (z1) (z2) (rQ_fr v3 z4) (v4) (by rw [← hk, show (M 6 1).toNat - i.toNat = ((M 6 1).toNat - (i + 1).toNat) + 1 by omega, kidsF_s, if_neg (by rw [hin]; decide), ← hPL p i ho (by omega) (by omega), y1]) (by omega)
              · skip
                obtain ⟨y1, y2, y3, y4, y5⟩ := e11
                rw [cpl_fr hfr2 hO ht ho (by omega) (by omega)] at y1
                refine v_if_eq X 78 dX4_extend_63 (by decide) ⟨by decide, by decide⟩ (fun _ => ?_) (fun q => absurd (by decide) q)
                refine v_iinc X 3 [(3, .int (iz (i + 1))), (0, .ref (ad 31)), (1, .ref (ad 47)), (2, .int (iz 2))] dX4_extend_78 rfl (by decide) rfl ?_
                refine v_goto X 36 dX4_extend_81 (by decide) ?_
                refine v_lv [1, 2, 3, 0] rfl ?_
                exact ih4 M10 (i + 1) Q (by omega) (frC_trans hfr2 y4) (y2) (y3) (rQ_fr hQ2 y5) (hoQ) (by rw [← hk, show (M 6 1).toNat - i.toNat = ((M 6 1).toNat - (i + 1).toNat) + 1 by omega, kidsF_s, if_neg (by rw [hin]; decide), ← hPL p i ho (by omega) (by omega), y1]) (by omega)
      refine v_lv [1, 2, 3, 0] rfl ?_
      exact hl3 _ Mx 0 q1 (by omega) (hfr) (hT1) (hK1) (hQ1) (hoq1) (by rw [hFIN, cS_s, ← hq1, if_neg b2]; rfl) (Nat.lt_succ_self _)
  refine v_aload_n X 0 dX4_extend_0 rfl rfl ?_
  refine v_aload_n X 1 dX4_extend_1 rfl rfl ?_
  refine v_callV X [.ref (ad 47)] hRm (c_X4_isBetter _ _ _ hS wo p q hA hT hQ ho hoq) (gV bw_33_20 bw_33_21 bw_33_22 bw_2_15 bw_33_23) rfl ddX4_isBetter (by decide) (Std.lt hS rfl) (Std.k hS rfl rfl) ⟨rfl, by decide⟩ (Nat.le_of_ble_eq_true rfl) dX4_extend_2 (k_pB (fun b16 => ?_) (fun b16 => ?_))
  · skip
    refine v_if_eq X 19 dX4_extend_5 (by decide) ⟨by decide, by decide⟩ (fun q => absurd q (by decide)) (fun _ => ?_)
    refine v_aload_n X 0 dX4_extend_8 rfl rfl ?_
    refine gt_X4_best X iwX4 (Std.lt hS rfl) (Std.k hS rfl rfl) (List.mem_cons_of_mem _ bw_6_12) dX4_extend_9 35 (Std.r hS 5 rfl) ?_
    refine v_aload_n X 0 dX4_extend_12 rfl rfl ?_
    refine gt_X4_trial X iwX4 (Std.lt hS rfl) (Std.k hS rfl rfl) (List.mem_cons_of_mem _ bw_6_13) dX4_extend_13 41 (Std.r hS 6 rfl) ?_
    refine v_callV X [.ref (ad 41)] hRm (c_X3_copy_35_41 _ _ _ hS) (gV bw_34_9 bw_34_10 bw_34_11 bw_2_19 bw_34_12) rfl ddX3_copy (by decide) (Std.lt hS rfl) (Std.k hS rfl rfl) ⟨rfl, by decide⟩ (Nat.le_of_ble_eq_true rfl) dX4_extend_16 (k_eV (fun M18 e17 => ?_))
    replace e17 : M18 = (mu (mu (mrow (mrow (mrow (mrow (mrow M 36 (fun z => if 0 ≤ z ∧ z < 6 then (M 42 z) else (M 36 z))) 37 (fun z => if 0 ≤ z ∧ z < 6 then (M 43 z) else (M 37 z))) 38 (fun z => if 0 ≤ z ∧ z < 6 then (M 44 z) else (M 38 z))) 39 (fun z => if 0 ≤ z ∧ z < 6 then (M 45 z) else (M 39 z))) 40 (fun z => if 0 ≤ z ∧ z < 6 then (M 46 z) else (M 40 z))) 35 5 (M 41 5)) 35 6 (M 41 6)) := e17
    subst e17
    exact hj1 (mu (mu (mrow (mrow (mrow (mrow (mrow M 36 (fun z => if 0 ≤ z ∧ z < 6 then (M 42 z) else (M 36 z))) 37 (fun z => if 0 ≤ z ∧ z < 6 then (M 43 z) else (M 37 z))) 38 (fun z => if 0 ≤ z ∧ z < 6 then (M 44 z) else (M 38 z))) 39 (fun z => if 0 ≤ z ∧ z < 6 then (M 45 z) else (M 39 z))) 40 (fun z => if 0 ≤ z ∧ z < 6 then (M 46 z) else (M 40 z))) 35 5 (M 41 5)) 35 6 (M 41 6)) (⟨fun i hi => (by rw [mu_i _ _ _ (by omega), mu_i _ _ _ (by omega), mrow_i _ _ (by omega), mrow_i _ _ (by omega), mrow_i _ _ (by omega), mrow_i _ _ (by omega), mrow_i _ _ (by omega)]), fun _ _ => rfl⟩) (hT) (hK) (by rw [hq1]; unfold lkS; rw [if_pos b16]; exact rpX_copy (by omega) hT (fun k k1 k2 => ⟨(show (if 0 ≤ k ∧ k < 6 then M 42 k else M 36 k) = M 42 k from if_pos ⟨k1, k2⟩), (show (if 0 ≤ k ∧ k < 6 then M 43 k else M 37 k) = M 43 k from if_pos ⟨k1, k2⟩), (show (if 0 ≤ k ∧ k < 6 then M 44 k else M 38 k) = M 44 k from if_pos ⟨k1, k2⟩), (show (if 0 ≤ k ∧ k < 6 then M 45 k else M 39 k) = M 45 k from if_pos ⟨k1, k2⟩), (show (if 0 ≤ k ∧ k < 6 then M 46 k else M 40 k) = M 46 k from if_pos ⟨k1, k2⟩)⟩)) 
  · skip
    refine v_if_eq X 19 dX4_extend_5 (by decide) ⟨by decide, by decide⟩ (fun _ => ?_) (fun q => absurd (by decide) q)
    exact hj1 M ((frC_refl _)) (hT) (hK) (by rw [hq1]; unfold lkS; rw [if_neg b16]; exact hQ) 

-- extend at depth 1
set_option maxHeartbeats 4000000 in
set_option maxRecDepth 100000 in
theorem c_X4_extend_1 (l : Launch) (D : va_G) (cy : Nat → ClassId) {N : Nat} {sh : MS} {ad : Nat → Nat} {M L : MI} {R : MR} (hS : Std N sh R) (wo : Int → Int) (p q : List Fl) (t : Nat) (ht : isT t) (hRt : R 31 7 = some t) (hX : cTxt M t) (hO : ShowOk M R sh N) (hT : rT wo M p) (hK : rK M p) (hQ : rQ wo M q) (ho : okF (M 6 1) p) (hoq : okF (M 6 1) q) (hl : p.length = 1) (hwa : ∀ a : Int, 0 ≤ a → a < M 6 1 → wo a = cWo M R a) (hP : plPre M) (PL : List Fl → Int → Option Fl) (hPL : ∀ (p : List Fl) (a : Int), okF (M 6 1) p → 0 ≤ a → a < M 6 1 → cpl M R t p a = PL p a) : Ctr l D cy yX4_extend wsX4_extend ({ frames := 9, cells := 0, slots := 0, locals := 219 } : Room) N sh ad M L R [.ref (ad 31), .ref (ad 47), .int (iz 1)] (eV N sh ad L R (fun M' => rT wo M' p ∧ rK M' p ∧ rQ wo M' (cS PL wo (M 50) (M 6 1).toNat 5 p q) ∧ okF (M 6 1) (cS PL wo (M 50) (M 6 1).toNat 5 p q) ∧ frC M M')) := by
  refine Ctr.ofV (by decide) rfl (Nat.le_of_ble_eq_true rfl) ?_
  intro K hKl hKd hRm hnm X hret
  have X : VX K cX4_extend 4 wsX4_extend RX4 := X
  show V K 4 0 0 N sh ad M L R [(0, .ref (ad 31)), (1, .ref (ad 47)), (2, .int (iz 1))] [] 0
  have hA := hO.1
  obtain ⟨q1, hq1⟩ : ∃ X, X = lkS wo (M 50) p q := ⟨_, rfl⟩
  have hoq1 : okF (M 6 1) q1 := by rw [hq1]; exact lkS_ok ho hoq
  obtain ⟨FIN, hFIN⟩ : ∃ X, X = (cS PL wo (M 50) (M 6 1).toNat 5 p q) := ⟨_, rfl⟩
  have hj1 : ∀ (Mx : MI), (frC M Mx) → (rT wo Mx p) → (rK Mx p) → (rQ wo Mx q1) →  V K 4 0 0 N sh ad Mx L R [(0, .ref (ad 31)), (1, .ref (ad 47)), (2, .int (iz 1))] [] 19 := by
    intro Mx hfr hT1 hK1 hQ1
    have g61 : Mx 6 1 = M 6 1 := by rw [hfr.1 6 (by omega)]
    have g50 : Mx 50 = M 50 := hfr.1 50 (by omega)
    have hwa1 : ∀ a : Int, 0 ≤ a → a < Mx 6 1 → wo a = cWo Mx R a := fun a a1 a2 => by rw [g61] at a2; rw [hwa a a1 a2]; unfold cWo; rw [row_fr hfr hO a1 a2]
    refine v_iload_n X 2 dX4_extend_19 rfl rfl ?_
    refine v_bipush X dX4_extend_20 (by decide) ?_
    refine v_icmp_ge X 33 dX4_extend_22 (by decide) ⟨by decide, by decide⟩ ⟨by decide, by decide⟩ (fun q => absurd q (by decide)) (fun _ => ?_)
    refine v_aload_n X 0 dX4_extend_25 rfl rfl ?_
    refine v_aload_n X 1 dX4_extend_26 rfl rfl ?_
    refine v_callV X [.ref (ad 47)] hRm (c_X4_isHopeless _ _ _ hS wo p q1 (ShowOk_fr hfr hO) hT1 hQ1 (by rw [g61]; exact ho) (by rw [g61]; exact hoq1) hwa1) (gV bw_34_17 bw_34_18 bw_34_19 bw_2_15 bw_34_20) rfl ddX4_isHopeless (by decide) (Std.lt hS rfl) (Std.k hS rfl rfl) ⟨rfl, by decide⟩ (Nat.le_of_ble_eq_true rfl) dX4_extend_27 (k_pB (fun b2 => ?_) (fun b2 => ?_))
    · skip
      rw [g61, g50] at b2
      refine v_if_eq X 34 dX4_extend_30 (by decide) ⟨by decide, by decide⟩ (fun q => absurd q (by decide)) (fun _ => ?_)
      refine hret _ _ _ _ _ _ _ _ _ _ _ none dX4_extend_33 ⟨rfl, rfl⟩ (by decide) (by decide) (fun hmok => ?_)
      refine ⟨rfl, rfl, rfl, rfl, rfl, rfl, ?_⟩
      rw [← hFIN]
      have hF : FIN = q1 := by rw [hFIN, cS_s, ← hq1, if_pos b2]
      rw [hF]
      exact ⟨hT1, hK1, hQ1, hoq1, hfr⟩
    · skip
      rw [g61, g50] at b2
      refine v_if_eq X 34 dX4_extend_30 (by decide) ⟨by decide, by decide⟩ (fun _ => ?_) (fun q => absurd (by decide) q)
      refine v_iconst X dX4_extend_34 ?_
      refine v_istore_n X [(3, .int (iz 0)), (0, .ref (ad 31)), (1, .ref (ad 47)), (2, .int (iz 1))] dX4_extend_35 rfl (by decide) rfl ?_
      have hl3 : ∀ (n5 : Nat) (My : MI) (i : Int) (Q : List Fl), (0 ≤ i ∧ i ≤ M 6 1) → (frC M My) → (rT wo My p) → (rK My p) → (rQ wo My Q) → (okF (M 6 1) Q) → (kidsF (PL p) (cS PL wo (M 50) (M 6 1).toNat 4) p ((M 6 1).toNat - i.toNat) i Q = FIN) → (6 - i).toNat < n5 → V K 4 0 0 N sh ad My L R [(0, .ref (ad 31)), (1, .ref (ad 47)), (2, .int (iz 1)), (3, .int (iz i))] [] 36 := by
        intro n5
        induction n5 with
        | zero => intro My i Q hi hfr2 hT2 hK2 hQ2 hoQ hk hn6; exact absurd hn6 (Nat.not_lt_zero _)
        | succ n5 ih4 =>
          intro My i Q hi hfr2 hT2 hK2 hQ2 hoQ hk hn6
          have g62 : My 6 1 = M 6 1 := by rw [hfr2.1 6 (by omega)]
          have g52 : My 50 = M 50 := hfr2.1 50 (by omega)
          have hwa2 : ∀ a : Int, 0 ≤ a → a < My 6 1 → wo a = cWo My R a := fun a a1 a2 => by rw [g62] at a2; rw [hwa a a1 a2]; unfold cWo; rw [row_fr hfr2 hO a1 a2]
          refine v_iload_n X 3 dX4_extend_36 rfl rfl ?_
          refine v_aload_n X 0 dX4_extend_37 rfl rfl ?_
          refine gt_X4_show X iwX4 (Std.lt hS rfl) (Std.k hS rfl rfl) (List.mem_cons_of_mem _ bw_6_14) dX4_extend_38 6 (Std.r hS 0 rfl) ?_
          refine gt_X7_size X iwX7 (Std.lt hS rfl) (Std.k hS rfl rfl) (List.mem_cons_of_mem _ bw_33_19) dX4_extend_41 (My 6 1) rfl (fun hr7 => ?_)
          refine v_icmp_ge X 84 dX4_extend_44 (by decide) ⟨by omega, by omega⟩ ⟨by omega, by omega⟩ (fun u8 => ?_) (fun u8 => ?_)
          · skip
            refine hret _ _ _ _ _ _ _ _ _ _ _ none dX4_extend_84 ⟨rfl, rfl⟩ (by decide) (by decide) (fun hmok => ?_)
            refine ⟨rfl, rfl, rfl, rfl, rfl, rfl, ?_⟩
            rw [← hFIN]
            have hF : FIN = Q := by rw [← hk, show (M 6 1).toNat - i.toNat = 0 by omega]; rfl
            rw [hF]
            exact ⟨hT2, hK2, hQ2, hoQ, hfr2⟩
          · skip
            refine v_aload_n X 0 dX4_extend_47 rfl rfl ?_
            refine gt_X4_trial X iwX4 (Std.lt hS rfl) (Std.k hS rfl rfl) (List.mem_cons_of_mem _ bw_6_13) dX4_extend_48 41 (Std.r hS 6 rfl) ?_
            refine v_iload_n X 3 dX4_extend_51 rfl rfl ?_
            refine v_callV X [.int (iz i)] hRm (c_X3_has_41 _ _ _ hS i ⟨by omega, by omega⟩) (gV bw_34_22 bw_34_23 bw_35_0 bw_2_19 bw_35_1) rfl ddX3_has (by decide) (Std.lt hS rfl) (Std.k hS rfl rfl) ⟨rfl, by decide⟩ (Nat.le_of_ble_eq_true rfl) dX4_extend_52 (k_pB (fun b9 => ?_) (fun b9 => ?_))
            · skip
              have hin : inF p i = true := (lkF_has ho).mp (by rw [← (hT2.2.2.2 i (by omega) (by omega)).2.1]; exact b9.2.2)
              refine v_if_ne X 78 dX4_extend_55 (by decide) ⟨by decide, by decide⟩ (fun _ => ?_) (fun q => absurd (by decide) q)
              refine v_iinc X 3 [(3, .int (iz (i + 1))), (0, .ref (ad 31)), (1, .ref (ad 47)), (2, .int (iz 1))] dX4_extend_78 rfl (by decide) rfl ?_
              refine v_goto X 36 dX4_extend_81 (by decide) ?_
              refine v_lv [1, 2, 3, 0] rfl ?_
              exact ih4 My (i + 1) Q (by omega) (hfr2) (hT2) (hK2) (hQ2) (hoQ) (by rw [← hk, show (M 6 1).toNat - i.toNat = ((M 6 1).toNat - (i + 1).toNat) + 1 by omega, kidsF_s, if_pos hin]) (by omega)
            · skip
              have hin : inF p i = false := Bool.eq_false_iff.mpr (fun z => b9 ⟨by omega, by omega, by rw [(hT2.2.2.2 i (by omega) (by omega)).2.1]; exact (lkF_has ho).mpr z⟩)
              refine v_if_ne X 78 dX4_extend_55 (by decide) ⟨by decide, by decide⟩ (fun q => absurd q (by decide)) (fun _ => ?_)
              refine v_aload_n X 0 dX4_extend_58 rfl rfl ?_
              refine v_iload_n X 3 dX4_extend_59 rfl rfl ?_
              refine v_callV X [.int (iz i)] hRm (c_X4_fly _ _ _ hS i ⟨by omega, by omega⟩ wo p t ht hRt (cTxt_fr hfr2 ht hX) (ShowOk_fr hfr2 hO) hT2 hK2 (by rw [g62]; exact ho) hin hwa2 (plPre_fr hfr2 hP)) (gV bw_35_2 bw_35_3 bw_35_4 bw_2_15 bw_35_5) rfl ddX4_fly (by decide) (Std.lt hS rfl) (Std.k hS rfl rfl) ⟨rfl, by decide⟩ (Nat.le_of_ble_eq_true rfl) dX4_extend_60 (k_eB (fun M10 e11 => ?_) (fun M10 e11 => ?_))
              · skip
                obtain ⟨f, y1, y2, y3, y4, y5, y6⟩ := e11
                rw [g62] at y2
                rw [cpl_fr hfr2 hO ht ho (by omega) (by omega)] at y1
                have hfr3 : frC M M10 := frC_trans hfr2 y5
                have g63 : M10 6 1 = M 6 1 := by rw [hfr3.1 6 (by omega)]
                have g53 : M10 50 = M 50 := hfr3.1 50 (by omega)
                have hwa3 : ∀ a : Int, 0 ≤ a → a < M10 6 1 → wo a = cWo M10 R a := fun a a1 a2 => by rw [g63] at a2; rw [hwa a a1 a2]; unfold cWo; rw [row_fr hfr3 hO a1 a2]
                refine v_if_eq X 78 dX4_extend_63 (by decide) ⟨by decide, by decide⟩ (fun q => absurd q (by decide)) (fun _ => ?_)
                refine v_aload_n X 0 dX4_extend_66 rfl rfl ?_
                refine v_aload_n X 1 dX4_extend_67 rfl rfl ?_
                refine v_iload_n X 2 dX4_extend_68 rfl rfl ?_
                refine v_iconst X dX4_extend_69 ?_
                refine v_iadd X dX4_extend_70 ?_
                refine v_st (st' := [.int (iz 2), .ref (ad 47), .ref (ad 31)]) rfl ?_
                refine v_callV X [.ref (ad 47), .int (iz 2)] hRm (c_X4_extend_2 _ _ _ hS wo (f :: p) Q t ht hRt (cTxt_fr hfr3 ht hX) (ShowOk_fr hfr3 hO) y3 y4 (rQ_fr hQ2 y6) (by rw [g63]; exact y2) (by rw [g63]; exact hoQ) (by simp only [List.length_cons]; omega) hwa3 (plPre_fr hfr3 hP) PL (fun p a h1 h2 h3 => by rw [g63] at h1 h3; rw [cpl_fr hfr3 hO ht h1 h2 h3]; exact hPL p a h1 h2 h3)) (gV bw_33_15 bw_33_16 bw_33_17 bw_2_15 bw_33_18) rfl ddX4_extend (by decide) (Std.lt hS rfl) (Std.k hS rfl rfl) ⟨rfl, by decide⟩ (Nat.le_of_ble_eq_true rfl) dX4_extend_71 (k_eV (fun M13 e12 => ?_))
                obtain ⟨v1, v2, v3, v4, v5⟩ := e12
                rw [g63, g53] at v3 v4
                have hfr4 : frC M M13 := frC_trans hfr3 v5
                have g64 : M13 6 1 = M 6 1 := by rw [hfr4.1 6 (by omega)]
                have hwa4 : ∀ a : Int, 0 ≤ a → a < M13 6 1 → wo a = cWo M13 R a := fun a a1 a2 => by rw [g64] at a2; rw [hwa a a1 a2]; unfold cWo; rw [row_fr hfr4 hO a1 a2]
                refine v_aload_n X 0 dX4_extend_74 rfl rfl ?_
                refine v_callV X [] hRm (c_X4_callBack _ _ _ hS wo f p (ShowOk_fr hfr4 hO) v1 v2 (by rw [g64]; exact y2) hwa4) (gV bw_38_5 bw_38_6 bw_38_7 bw_2_15 bw_38_8) rfl ddX4_callBack (by decide) (Std.lt hS rfl) (Std.k hS rfl rfl) ⟨rfl, by decide⟩ (Nat.le_of_ble_eq_true rfl) dX4_extend_75 (k_eV (fun M15 e14 => ?_))
                obtain ⟨z1, z2, z3, z4⟩ := e14
                refine v_iinc X 3 [(3, .int (iz (i + 1))), (0, .ref (ad 31)), (1, .ref (ad 47)), (2, .int (iz 1))] dX4_extend_78 rfl (by decide) rfl ?_
                refine v_goto X 36 dX4_extend_81 (by decide) ?_
                refine v_lv [1, 2, 3, 0] rfl ?_
                exact ih4 M15 (i + 1) (cS PL wo (M 50) (M 6 1).toNat 4 (f :: p) Q) (by omega) (frC_trans hfr4 z3) (z1) (z2) (rQ_fr v3 z4) (v4) (by rw [← hk, show (M 6 1).toNat - i.toNat = ((M 6 1).toNat - (i + 1).toNat) + 1 by omega, kidsF_s, if_neg (by rw [hin]; decide), ← hPL p i ho (by omega) (by omega), y1]) (by omega)
              · skip
                obtain ⟨y1, y2, y3, y4, y5⟩ := e11
                rw [cpl_fr hfr2 hO ht ho (by omega) (by omega)] at y1
                refine v_if_eq X 78 dX4_extend_63 (by decide) ⟨by decide, by decide⟩ (fun _ => ?_) (fun q => absurd (by decide) q)
                refine v_iinc X 3 [(3, .int (iz (i + 1))), (0, .ref (ad 31)), (1, .ref (ad 47)), (2, .int (iz 1))] dX4_extend_78 rfl (by decide) rfl ?_
                refine v_goto X 36 dX4_extend_81 (by decide) ?_
                refine v_lv [1, 2, 3, 0] rfl ?_
                exact ih4 M10 (i + 1) Q (by omega) (frC_trans hfr2 y4) (y2) (y3) (rQ_fr hQ2 y5) (hoQ) (by rw [← hk, show (M 6 1).toNat - i.toNat = ((M 6 1).toNat - (i + 1).toNat) + 1 by omega, kidsF_s, if_neg (by rw [hin]; decide), ← hPL p i ho (by omega) (by omega), y1]) (by omega)
      refine v_lv [1, 2, 3, 0] rfl ?_
      exact hl3 _ Mx 0 q1 (by omega) (hfr) (hT1) (hK1) (hQ1) (hoq1) (by rw [hFIN, cS_s, ← hq1, if_neg b2]; rfl) (Nat.lt_succ_self _)
  refine v_aload_n X 0 dX4_extend_0 rfl rfl ?_
  refine v_aload_n X 1 dX4_extend_1 rfl rfl ?_
  refine v_callV X [.ref (ad 47)] hRm (c_X4_isBetter _ _ _ hS wo p q hA hT hQ ho hoq) (gV bw_33_20 bw_33_21 bw_33_22 bw_2_15 bw_33_23) rfl ddX4_isBetter (by decide) (Std.lt hS rfl) (Std.k hS rfl rfl) ⟨rfl, by decide⟩ (Nat.le_of_ble_eq_true rfl) dX4_extend_2 (k_pB (fun b16 => ?_) (fun b16 => ?_))
  · skip
    refine v_if_eq X 19 dX4_extend_5 (by decide) ⟨by decide, by decide⟩ (fun q => absurd q (by decide)) (fun _ => ?_)
    refine v_aload_n X 0 dX4_extend_8 rfl rfl ?_
    refine gt_X4_best X iwX4 (Std.lt hS rfl) (Std.k hS rfl rfl) (List.mem_cons_of_mem _ bw_6_12) dX4_extend_9 35 (Std.r hS 5 rfl) ?_
    refine v_aload_n X 0 dX4_extend_12 rfl rfl ?_
    refine gt_X4_trial X iwX4 (Std.lt hS rfl) (Std.k hS rfl rfl) (List.mem_cons_of_mem _ bw_6_13) dX4_extend_13 41 (Std.r hS 6 rfl) ?_
    refine v_callV X [.ref (ad 41)] hRm (c_X3_copy_35_41 _ _ _ hS) (gV bw_34_9 bw_34_10 bw_34_11 bw_2_19 bw_34_12) rfl ddX3_copy (by decide) (Std.lt hS rfl) (Std.k hS rfl rfl) ⟨rfl, by decide⟩ (Nat.le_of_ble_eq_true rfl) dX4_extend_16 (k_eV (fun M18 e17 => ?_))
    replace e17 : M18 = (mu (mu (mrow (mrow (mrow (mrow (mrow M 36 (fun z => if 0 ≤ z ∧ z < 6 then (M 42 z) else (M 36 z))) 37 (fun z => if 0 ≤ z ∧ z < 6 then (M 43 z) else (M 37 z))) 38 (fun z => if 0 ≤ z ∧ z < 6 then (M 44 z) else (M 38 z))) 39 (fun z => if 0 ≤ z ∧ z < 6 then (M 45 z) else (M 39 z))) 40 (fun z => if 0 ≤ z ∧ z < 6 then (M 46 z) else (M 40 z))) 35 5 (M 41 5)) 35 6 (M 41 6)) := e17
    subst e17
    exact hj1 (mu (mu (mrow (mrow (mrow (mrow (mrow M 36 (fun z => if 0 ≤ z ∧ z < 6 then (M 42 z) else (M 36 z))) 37 (fun z => if 0 ≤ z ∧ z < 6 then (M 43 z) else (M 37 z))) 38 (fun z => if 0 ≤ z ∧ z < 6 then (M 44 z) else (M 38 z))) 39 (fun z => if 0 ≤ z ∧ z < 6 then (M 45 z) else (M 39 z))) 40 (fun z => if 0 ≤ z ∧ z < 6 then (M 46 z) else (M 40 z))) 35 5 (M 41 5)) 35 6 (M 41 6)) (⟨fun i hi => (by rw [mu_i _ _ _ (by omega), mu_i _ _ _ (by omega), mrow_i _ _ (by omega), mrow_i _ _ (by omega), mrow_i _ _ (by omega), mrow_i _ _ (by omega), mrow_i _ _ (by omega)]), fun _ _ => rfl⟩) (hT) (hK) (by rw [hq1]; unfold lkS; rw [if_pos b16]; exact rpX_copy (by omega) hT (fun k k1 k2 => ⟨(show (if 0 ≤ k ∧ k < 6 then M 42 k else M 36 k) = M 42 k from if_pos ⟨k1, k2⟩), (show (if 0 ≤ k ∧ k < 6 then M 43 k else M 37 k) = M 43 k from if_pos ⟨k1, k2⟩), (show (if 0 ≤ k ∧ k < 6 then M 44 k else M 38 k) = M 44 k from if_pos ⟨k1, k2⟩), (show (if 0 ≤ k ∧ k < 6 then M 45 k else M 39 k) = M 45 k from if_pos ⟨k1, k2⟩), (show (if 0 ≤ k ∧ k < 6 then M 46 k else M 40 k) = M 46 k from if_pos ⟨k1, k2⟩)⟩)) 
  · skip
    refine v_if_eq X 19 dX4_extend_5 (by decide) ⟨by decide, by decide⟩ (fun _ => ?_) (fun q => absurd (by decide) q)
    exact hj1 M ((frC_refl _)) (hT) (hK) (by rw [hq1]; unfold lkS; rw [if_neg b16]; exact hQ) 

-- extend at depth 0
set_option maxHeartbeats 4000000 in
set_option maxRecDepth 100000 in
theorem c_X4_extend_0 (l : Launch) (D : va_G) (cy : Nat → ClassId) {N : Nat} {sh : MS} {ad : Nat → Nat} {M L : MI} {R : MR} (hS : Std N sh R) (wo : Int → Int) (p q : List Fl) (t : Nat) (ht : isT t) (hRt : R 31 7 = some t) (hX : cTxt M t) (hO : ShowOk M R sh N) (hT : rT wo M p) (hK : rK M p) (hQ : rQ wo M q) (ho : okF (M 6 1) p) (hoq : okF (M 6 1) q) (hl : p.length = 0) (hwa : ∀ a : Int, 0 ≤ a → a < M 6 1 → wo a = cWo M R a) (hP : plPre M) (PL : List Fl → Int → Option Fl) (hPL : ∀ (p : List Fl) (a : Int), okF (M 6 1) p → 0 ≤ a → a < M 6 1 → cpl M R t p a = PL p a) : Ctr l D cy yX4_extend wsX4_extend ({ frames := 10, cells := 0, slots := 0, locals := 242 } : Room) N sh ad M L R [.ref (ad 31), .ref (ad 47), .int (iz 0)] (eV N sh ad L R (fun M' => rT wo M' p ∧ rK M' p ∧ rQ wo M' (cS PL wo (M 50) (M 6 1).toNat 6 p q) ∧ okF (M 6 1) (cS PL wo (M 50) (M 6 1).toNat 6 p q) ∧ frC M M')) := by
  refine Ctr.ofV (by decide) rfl (Nat.le_of_ble_eq_true rfl) ?_
  intro K hKl hKd hRm hnm X hret
  have X : VX K cX4_extend 4 wsX4_extend RX4 := X
  show V K 4 0 0 N sh ad M L R [(0, .ref (ad 31)), (1, .ref (ad 47)), (2, .int (iz 0))] [] 0
  have hA := hO.1
  obtain ⟨q1, hq1⟩ : ∃ X, X = lkS wo (M 50) p q := ⟨_, rfl⟩
  have hoq1 : okF (M 6 1) q1 := by rw [hq1]; exact lkS_ok ho hoq
  obtain ⟨FIN, hFIN⟩ : ∃ X, X = (cS PL wo (M 50) (M 6 1).toNat 6 p q) := ⟨_, rfl⟩
  have hj1 : ∀ (Mx : MI), (frC M Mx) → (rT wo Mx p) → (rK Mx p) → (rQ wo Mx q1) →  V K 4 0 0 N sh ad Mx L R [(0, .ref (ad 31)), (1, .ref (ad 47)), (2, .int (iz 0))] [] 19 := by
    intro Mx hfr hT1 hK1 hQ1
    have g61 : Mx 6 1 = M 6 1 := by rw [hfr.1 6 (by omega)]
    have g50 : Mx 50 = M 50 := hfr.1 50 (by omega)
    have hwa1 : ∀ a : Int, 0 ≤ a → a < Mx 6 1 → wo a = cWo Mx R a := fun a a1 a2 => by rw [g61] at a2; rw [hwa a a1 a2]; unfold cWo; rw [row_fr hfr hO a1 a2]
    refine v_iload_n X 2 dX4_extend_19 rfl rfl ?_
    refine v_bipush X dX4_extend_20 (by decide) ?_
    refine v_icmp_ge X 33 dX4_extend_22 (by decide) ⟨by decide, by decide⟩ ⟨by decide, by decide⟩ (fun q => absurd q (by decide)) (fun _ => ?_)
    refine v_aload_n X 0 dX4_extend_25 rfl rfl ?_
    refine v_aload_n X 1 dX4_extend_26 rfl rfl ?_
    refine v_callV X [.ref (ad 47)] hRm (c_X4_isHopeless _ _ _ hS wo p q1 (ShowOk_fr hfr hO) hT1 hQ1 (by rw [g61]; exact ho) (by rw [g61]; exact hoq1) hwa1) (gV bw_34_17 bw_34_18 bw_34_19 bw_2_15 bw_34_20) rfl ddX4_isHopeless (by decide) (Std.lt hS rfl) (Std.k hS rfl rfl) ⟨rfl, by decide⟩ (Nat.le_of_ble_eq_true rfl) dX4_extend_27 (k_pB (fun b2 => ?_) (fun b2 => ?_))
    · skip
      rw [g61, g50] at b2
      refine v_if_eq X 34 dX4_extend_30 (by decide) ⟨by decide, by decide⟩ (fun q => absurd q (by decide)) (fun _ => ?_)
      refine hret _ _ _ _ _ _ _ _ _ _ _ none dX4_extend_33 ⟨rfl, rfl⟩ (by decide) (by decide) (fun hmok => ?_)
      refine ⟨rfl, rfl, rfl, rfl, rfl, rfl, ?_⟩
      rw [← hFIN]
      have hF : FIN = q1 := by rw [hFIN, cS_s, ← hq1, if_pos b2]
      rw [hF]
      exact ⟨hT1, hK1, hQ1, hoq1, hfr⟩
    · skip
      rw [g61, g50] at b2
      refine v_if_eq X 34 dX4_extend_30 (by decide) ⟨by decide, by decide⟩ (fun _ => ?_) (fun q => absurd (by decide) q)
      refine v_iconst X dX4_extend_34 ?_
      refine v_istore_n X [(3, .int (iz 0)), (0, .ref (ad 31)), (1, .ref (ad 47)), (2, .int (iz 0))] dX4_extend_35 rfl (by decide) rfl ?_
      have hl3 : ∀ (n5 : Nat) (My : MI) (i : Int) (Q : List Fl), (0 ≤ i ∧ i ≤ M 6 1) → (frC M My) → (rT wo My p) → (rK My p) → (rQ wo My Q) → (okF (M 6 1) Q) → (kidsF (PL p) (cS PL wo (M 50) (M 6 1).toNat 5) p ((M 6 1).toNat - i.toNat) i Q = FIN) → (6 - i).toNat < n5 → V K 4 0 0 N sh ad My L R [(0, .ref (ad 31)), (1, .ref (ad 47)), (2, .int (iz 0)), (3, .int (iz i))] [] 36 := by
        intro n5
        induction n5 with
        | zero => intro My i Q hi hfr2 hT2 hK2 hQ2 hoQ hk hn6; exact absurd hn6 (Nat.not_lt_zero _)
        | succ n5 ih4 =>
          intro My i Q hi hfr2 hT2 hK2 hQ2 hoQ hk hn6
          have g62 : My 6 1 = M 6 1 := by rw [hfr2.1 6 (by omega)]
          have g52 : My 50 = M 50 := hfr2.1 50 (by omega)
          have hwa2 : ∀ a : Int, 0 ≤ a → a < My 6 1 → wo a = cWo My R a := fun a a1 a2 => by rw [g62] at a2; rw [hwa a a1 a2]; unfold cWo; rw [row_fr hfr2 hO a1 a2]
          refine v_iload_n X 3 dX4_extend_36 rfl rfl ?_
          refine v_aload_n X 0 dX4_extend_37 rfl rfl ?_
          refine gt_X4_show X iwX4 (Std.lt hS rfl) (Std.k hS rfl rfl) (List.mem_cons_of_mem _ bw_6_14) dX4_extend_38 6 (Std.r hS 0 rfl) ?_
          refine gt_X7_size X iwX7 (Std.lt hS rfl) (Std.k hS rfl rfl) (List.mem_cons_of_mem _ bw_33_19) dX4_extend_41 (My 6 1) rfl (fun hr7 => ?_)
          refine v_icmp_ge X 84 dX4_extend_44 (by decide) ⟨by omega, by omega⟩ ⟨by omega, by omega⟩ (fun u8 => ?_) (fun u8 => ?_)
          · skip
            refine hret _ _ _ _ _ _ _ _ _ _ _ none dX4_extend_84 ⟨rfl, rfl⟩ (by decide) (by decide) (fun hmok => ?_)
            refine ⟨rfl, rfl, rfl, rfl, rfl, rfl, ?_⟩
            rw [← hFIN]
            have hF : FIN = Q := by rw [← hk, show (M 6 1).toNat - i.toNat = 0 by omega]; rfl
            rw [hF]
            exact ⟨hT2, hK2, hQ2, hoQ, hfr2⟩
          · skip
            refine v_aload_n X 0 dX4_extend_47 rfl rfl ?_
            refine gt_X4_trial X iwX4 (Std.lt hS rfl) (Std.k hS rfl rfl) (List.mem_cons_of_mem _ bw_6_13) dX4_extend_48 41 (Std.r hS 6 rfl) ?_
            refine v_iload_n X 3 dX4_extend_51 rfl rfl ?_
            refine v_callV X [.int (iz i)] hRm (c_X3_has_41 _ _ _ hS i ⟨by omega, by omega⟩) (gV bw_34_22 bw_34_23 bw_35_0 bw_2_19 bw_35_1) rfl ddX3_has (by decide) (Std.lt hS rfl) (Std.k hS rfl rfl) ⟨rfl, by decide⟩ (Nat.le_of_ble_eq_true rfl) dX4_extend_52 (k_pB (fun b9 => ?_) (fun b9 => ?_))
            · skip
              have hin : inF p i = true := (lkF_has ho).mp (by rw [← (hT2.2.2.2 i (by omega) (by omega)).2.1]; exact b9.2.2)
              refine v_if_ne X 78 dX4_extend_55 (by decide) ⟨by decide, by decide⟩ (fun _ => ?_) (fun q => absurd (by decide) q)
              refine v_iinc X 3 [(3, .int (iz (i + 1))), (0, .ref (ad 31)), (1, .ref (ad 47)), (2, .int (iz 0))] dX4_extend_78 rfl (by decide) rfl ?_
              refine v_goto X 36 dX4_extend_81 (by decide) ?_
              refine v_lv [1, 2, 3, 0] rfl ?_
              exact ih4 My (i + 1) Q (by omega) (hfr2) (hT2) (hK2) (hQ2) (hoQ) (by rw [← hk, show (M 6 1).toNat - i.toNat = ((M 6 1).toNat - (i + 1).toNat) + 1 by omega, kidsF_s, if_pos hin]) (by omega)
            · skip
              have hin : inF p i = false := Bool.eq_false_iff.mpr (fun z => b9 ⟨by omega, by omega, by rw [(hT2.2.2.2 i (by omega) (by omega)).2.1]; exact (lkF_has ho).mpr z⟩)
              refine v_if_ne X 78 dX4_extend_55 (by decide) ⟨by decide, by decide⟩ (fun q => absurd q (by decide)) (fun _ => ?_)
              refine v_aload_n X 0 dX4_extend_58 rfl rfl ?_
              refine v_iload_n X 3 dX4_extend_59 rfl rfl ?_
              refine v_callV X [.int (iz i)] hRm (c_X4_fly _ _ _ hS i ⟨by omega, by omega⟩ wo p t ht hRt (cTxt_fr hfr2 ht hX) (ShowOk_fr hfr2 hO) hT2 hK2 (by rw [g62]; exact ho) hin hwa2 (plPre_fr hfr2 hP)) (gV bw_35_2 bw_35_3 bw_35_4 bw_2_15 bw_35_5) rfl ddX4_fly (by decide) (Std.lt hS rfl) (Std.k hS rfl rfl) ⟨rfl, by decide⟩ (Nat.le_of_ble_eq_true rfl) dX4_extend_60 (k_eB (fun M10 e11 => ?_) (fun M10 e11 => ?_))
              · skip
                obtain ⟨f, y1, y2, y3, y4, y5, y6⟩ := e11
                rw [g62] at y2
                rw [cpl_fr hfr2 hO ht ho (by omega) (by omega)] at y1
                have hfr3 : frC M M10 := frC_trans hfr2 y5
                have g63 : M10 6 1 = M 6 1 := by rw [hfr3.1 6 (by omega)]
                have g53 : M10 50 = M 50 := hfr3.1 50 (by omega)
                have hwa3 : ∀ a : Int, 0 ≤ a → a < M10 6 1 → wo a = cWo M10 R a := fun a a1 a2 => by rw [g63] at a2; rw [hwa a a1 a2]; unfold cWo; rw [row_fr hfr3 hO a1 a2]
                refine v_if_eq X 78 dX4_extend_63 (by decide) ⟨by decide, by decide⟩ (fun q => absurd q (by decide)) (fun _ => ?_)
                refine v_aload_n X 0 dX4_extend_66 rfl rfl ?_
                refine v_aload_n X 1 dX4_extend_67 rfl rfl ?_
                refine v_iload_n X 2 dX4_extend_68 rfl rfl ?_
                refine v_iconst X dX4_extend_69 ?_
                refine v_iadd X dX4_extend_70 ?_
                refine v_st (st' := [.int (iz 1), .ref (ad 47), .ref (ad 31)]) rfl ?_
                refine v_callV X [.ref (ad 47), .int (iz 1)] hRm (c_X4_extend_1 _ _ _ hS wo (f :: p) Q t ht hRt (cTxt_fr hfr3 ht hX) (ShowOk_fr hfr3 hO) y3 y4 (rQ_fr hQ2 y6) (by rw [g63]; exact y2) (by rw [g63]; exact hoQ) (by simp only [List.length_cons]; omega) hwa3 (plPre_fr hfr3 hP) PL (fun p a h1 h2 h3 => by rw [g63] at h1 h3; rw [cpl_fr hfr3 hO ht h1 h2 h3]; exact hPL p a h1 h2 h3)) (gV bw_33_15 bw_33_16 bw_33_17 bw_2_15 bw_33_18) rfl ddX4_extend (by decide) (Std.lt hS rfl) (Std.k hS rfl rfl) ⟨rfl, by decide⟩ (Nat.le_of_ble_eq_true rfl) dX4_extend_71 (k_eV (fun M13 e12 => ?_))
                obtain ⟨v1, v2, v3, v4, v5⟩ := e12
                rw [g63, g53] at v3 v4
                have hfr4 : frC M M13 := frC_trans hfr3 v5
                have g64 : M13 6 1 = M 6 1 := by rw [hfr4.1 6 (by omega)]
                have hwa4 : ∀ a : Int, 0 ≤ a → a < M13 6 1 → wo a = cWo M13 R a := fun a a1 a2 => by rw [g64] at a2; rw [hwa a a1 a2]; unfold cWo; rw [row_fr hfr4 hO a1 a2]
                refine v_aload_n X 0 dX4_extend_74 rfl rfl ?_
                refine v_callV X [] hRm (c_X4_callBack _ _ _ hS wo f p (ShowOk_fr hfr4 hO) v1 v2 (by rw [g64]; exact y2) hwa4) (gV bw_38_5 bw_38_6 bw_38_7 bw_2_15 bw_38_8) rfl ddX4_callBack (by decide) (Std.lt hS rfl) (Std.k hS rfl rfl) ⟨rfl, by decide⟩ (Nat.le_of_ble_eq_true rfl) dX4_extend_75 (k_eV (fun M15 e14 => ?_))
                obtain ⟨z1, z2, z3, z4⟩ := e14
                refine v_iinc X 3 [(3, .int (iz (i + 1))), (0, .ref (ad 31)), (1, .ref (ad 47)), (2, .int (iz 0))] dX4_extend_78 rfl (by decide) rfl ?_
                refine v_goto X 36 dX4_extend_81 (by decide) ?_
                refine v_lv [1, 2, 3, 0] rfl ?_
                exact ih4 M15 (i + 1) (cS PL wo (M 50) (M 6 1).toNat 5 (f :: p) Q) (by omega) (frC_trans hfr4 z3) (z1) (z2) (rQ_fr v3 z4) (v4) (by rw [← hk, show (M 6 1).toNat - i.toNat = ((M 6 1).toNat - (i + 1).toNat) + 1 by omega, kidsF_s, if_neg (by rw [hin]; decide), ← hPL p i ho (by omega) (by omega), y1]) (by omega)
              · skip
                obtain ⟨y1, y2, y3, y4, y5⟩ := e11
                rw [cpl_fr hfr2 hO ht ho (by omega) (by omega)] at y1
                refine v_if_eq X 78 dX4_extend_63 (by decide) ⟨by decide, by decide⟩ (fun _ => ?_) (fun q => absurd (by decide) q)
                refine v_iinc X 3 [(3, .int (iz (i + 1))), (0, .ref (ad 31)), (1, .ref (ad 47)), (2, .int (iz 0))] dX4_extend_78 rfl (by decide) rfl ?_
                refine v_goto X 36 dX4_extend_81 (by decide) ?_
                refine v_lv [1, 2, 3, 0] rfl ?_
                exact ih4 M10 (i + 1) Q (by omega) (frC_trans hfr2 y4) (y2) (y3) (rQ_fr hQ2 y5) (hoQ) (by rw [← hk, show (M 6 1).toNat - i.toNat = ((M 6 1).toNat - (i + 1).toNat) + 1 by omega, kidsF_s, if_neg (by rw [hin]; decide), ← hPL p i ho (by omega) (by omega), y1]) (by omega)
      refine v_lv [1, 2, 3, 0] rfl ?_
      exact hl3 _ Mx 0 q1 (by omega) (hfr) (hT1) (hK1) (hQ1) (hoq1) (by rw [hFIN, cS_s, ← hq1, if_neg b2]; rfl) (Nat.lt_succ_self _)
  refine v_aload_n X 0 dX4_extend_0 rfl rfl ?_
  refine v_aload_n X 1 dX4_extend_1 rfl rfl ?_
  refine v_callV X [.ref (ad 47)] hRm (c_X4_isBetter _ _ _ hS wo p q hA hT hQ ho hoq) (gV bw_33_20 bw_33_21 bw_33_22 bw_2_15 bw_33_23) rfl ddX4_isBetter (by decide) (Std.lt hS rfl) (Std.k hS rfl rfl) ⟨rfl, by decide⟩ (Nat.le_of_ble_eq_true rfl) dX4_extend_2 (k_pB (fun b16 => ?_) (fun b16 => ?_))
  · skip
    refine v_if_eq X 19 dX4_extend_5 (by decide) ⟨by decide, by decide⟩ (fun q => absurd q (by decide)) (fun _ => ?_)
    refine v_aload_n X 0 dX4_extend_8 rfl rfl ?_
    refine gt_X4_best X iwX4 (Std.lt hS rfl) (Std.k hS rfl rfl) (List.mem_cons_of_mem _ bw_6_12) dX4_extend_9 35 (Std.r hS 5 rfl) ?_
    refine v_aload_n X 0 dX4_extend_12 rfl rfl ?_
    refine gt_X4_trial X iwX4 (Std.lt hS rfl) (Std.k hS rfl rfl) (List.mem_cons_of_mem _ bw_6_13) dX4_extend_13 41 (Std.r hS 6 rfl) ?_
    refine v_callV X [.ref (ad 41)] hRm (c_X3_copy_35_41 _ _ _ hS) (gV bw_34_9 bw_34_10 bw_34_11 bw_2_19 bw_34_12) rfl ddX3_copy (by decide) (Std.lt hS rfl) (Std.k hS rfl rfl) ⟨rfl, by decide⟩ (Nat.le_of_ble_eq_true rfl) dX4_extend_16 (k_eV (fun M18 e17 => ?_))
    replace e17 : M18 = (mu (mu (mrow (mrow (mrow (mrow (mrow M 36 (fun z => if 0 ≤ z ∧ z < 6 then (M 42 z) else (M 36 z))) 37 (fun z => if 0 ≤ z ∧ z < 6 then (M 43 z) else (M 37 z))) 38 (fun z => if 0 ≤ z ∧ z < 6 then (M 44 z) else (M 38 z))) 39 (fun z => if 0 ≤ z ∧ z < 6 then (M 45 z) else (M 39 z))) 40 (fun z => if 0 ≤ z ∧ z < 6 then (M 46 z) else (M 40 z))) 35 5 (M 41 5)) 35 6 (M 41 6)) := e17
    subst e17
    exact hj1 (mu (mu (mrow (mrow (mrow (mrow (mrow M 36 (fun z => if 0 ≤ z ∧ z < 6 then (M 42 z) else (M 36 z))) 37 (fun z => if 0 ≤ z ∧ z < 6 then (M 43 z) else (M 37 z))) 38 (fun z => if 0 ≤ z ∧ z < 6 then (M 44 z) else (M 38 z))) 39 (fun z => if 0 ≤ z ∧ z < 6 then (M 45 z) else (M 39 z))) 40 (fun z => if 0 ≤ z ∧ z < 6 then (M 46 z) else (M 40 z))) 35 5 (M 41 5)) 35 6 (M 41 6)) (⟨fun i hi => (by rw [mu_i _ _ _ (by omega), mu_i _ _ _ (by omega), mrow_i _ _ (by omega), mrow_i _ _ (by omega), mrow_i _ _ (by omega), mrow_i _ _ (by omega), mrow_i _ _ (by omega)]), fun _ _ => rfl⟩) (hT) (hK) (by rw [hq1]; unfold lkS; rw [if_pos b16]; exact rpX_copy (by omega) hT (fun k k1 k2 => ⟨(show (if 0 ≤ k ∧ k < 6 then M 42 k else M 36 k) = M 42 k from if_pos ⟨k1, k2⟩), (show (if 0 ≤ k ∧ k < 6 then M 43 k else M 37 k) = M 43 k from if_pos ⟨k1, k2⟩), (show (if 0 ≤ k ∧ k < 6 then M 44 k else M 38 k) = M 44 k from if_pos ⟨k1, k2⟩), (show (if 0 ≤ k ∧ k < 6 then M 45 k else M 39 k) = M 45 k from if_pos ⟨k1, k2⟩), (show (if 0 ≤ k ∧ k < 6 then M 46 k else M 40 k) = M 46 k from if_pos ⟨k1, k2⟩)⟩)) 
  · skip
    refine v_if_eq X 19 dX4_extend_5 (by decide) ⟨by decide, by decide⟩ (fun _ => ?_) (fun q => absurd (by decide) q)
    exact hj1 M ((frC_refl _)) (hT) (hK) (by rw [hq1]; unfold lkS; rw [if_neg b16]; exact hQ) 

