/-! REPLACE, PREPARE and what calls them -/
def frD (M M' : MI) : Prop := (∀ i : Nat, ¬ (i = 23 ∨ i = 30 ∨ i = 32 ∨ (34 ≤ i ∧ i ≤ 52)) → M' i = M i) ∧ ∀ z : Int, ¬ (0 ≤ z ∧ z ≤ 8) → M' 32 z = M 32 z
def FINc (PL : List Fl → Int → Option Fl) (wo g : Int → Int) (A : Nat) : List Fl := cS PL wo g A 6 [] []

-- replace
set_option maxHeartbeats 4000000 in
set_option maxRecDepth 100000 in
theorem c_X4_replace (l : Launch) (D : va_G) (cy : Nat → ClassId) {N : Nat} {sh : MS} {ad : Nat → Nat} {M L : MI} {R : MR} (hS : Std N sh R) (wo : Int → Int) (t : Nat) (ht : isT t) (hRt : R 31 7 = some t) (hX : cTxt M t) (hO : ShowOk M R sh N) (hT : rT wo M []) (hK : rK M []) (hwa : ∀ a : Int, 0 ≤ a → a < M 6 1 → wo a = cWo M R a) (hP : plPre M) : Ctr l D cy yX4_replace wsX4_replace ({ frames := 11, cells := 0, slots := 0, locals := 265 } : Room) N sh ad M L R [.ref (ad 31), .ref (ad 47)] (eI N sh ad L R (fun r M' => r = wL wo (FINc (cpl M R t) wo (M 50) (M 6 1).toNat) ∧ rZ wo M' (FINc (cpl M R t) wo (M 50) (M 6 1).toNat) ∧ okF (M 6 1) (FINc (cpl M R t) wo (M 50) (M 6 1).toNat) ∧ frD M M')) := by
  refine Ctr.ofI (by decide) rfl (Nat.le_of_ble_eq_true rfl) ?_
  intro K hKl hKd hRm hnm X hret
  have X : VX K cX4_replace 2 wsX4_replace RX4 := X
  show V K 2 0 0 N sh ad M L R [(0, .ref (ad 31)), (1, .ref (ad 47))] [] 0
  have hA := hO.1
  obtain ⟨FIN, hFIN⟩ : ∃ X, X = (FINc (cpl M R t) wo (M 50) (M 6 1).toNat) := ⟨_, rfl⟩
  refine v_aload_n X 0 dX4_replace_0 rfl rfl ?_
  refine gt_X4_best X iwX4 (Std.lt hS rfl) (Std.k hS rfl rfl) (List.mem_cons_of_mem _ bw_6_12) dX4_replace_1 35 (Std.r hS 5 rfl) ?_
  refine v_callV X [] hRm (c_X3_clear_35 _ _ _ hS) (gV bw_33_7 bw_7_3 bw_7_4 bw_2_19 bw_7_5) rfl ddX3_clear (by decide) (Std.lt hS rfl) (Std.k hS rfl rfl) ⟨rfl, by decide⟩ (Nat.le_of_ble_eq_true rfl) dX4_replace_4 (k_eV (fun M2 e1 => ?_))
  replace e1 : M2 = (mu (mu (mrow (mrow (mrow (mrow (mrow M 36 (filz (M 36) 6 (-1))) 37 (filz (M 37) 6 (-1))) 38 (filz (M 38) 6 (-1))) 39 (filz (M 39) 6 (-1))) 40 (filz (M 40) 6 (-1))) 35 5 0) 35 6 0) := e1
  subst e1
  have hfr0 : frC M (mu (mu (mrow (mrow (mrow (mrow (mrow M 36 (filz (M 36) 6 (-1))) 37 (filz (M 37) 6 (-1))) 38 (filz (M 38) 6 (-1))) 39 (filz (M 39) 6 (-1))) 40 (filz (M 40) 6 (-1))) 35 5 0) 35 6 0) := ⟨fun i hi => (by rw [mu_i _ _ _ (by omega), mu_i _ _ _ (by omega), mrow_i _ _ (by omega), mrow_i _ _ (by omega), mrow_i _ _ (by omega), mrow_i _ _ (by omega), mrow_i _ _ (by omega)]), fun _ _ => rfl⟩
  refine v_aload_n X 0 dX4_replace_7 rfl rfl ?_
  refine v_aload_n X 1 dX4_replace_8 rfl rfl ?_
  refine v_iconst X dX4_replace_9 ?_
  refine v_callV X [.ref (ad 47), .int (iz 0)] hRm (c_X4_extend_0 _ _ _ (M := (mu (mu (mrow (mrow (mrow (mrow (mrow M 36 (filz (M 36) 6 (-1))) 37 (filz (M 37) 6 (-1))) 38 (filz (M 38) 6 (-1))) 39 (filz (M 39) 6 (-1))) 40 (filz (M 40) 6 (-1))) 35 5 0) 35 6 0)) hS wo [] [] t ht hRt (cTxt_fr hfr0 ht hX) (ShowOk_fr hfr0 hO) hT hK ⟨⟨rfl, rfl⟩, trivial, fun k k1 k2 => (show filz (M 36) 6 (-1) k = -1 by have k1 : (0 : Int) ≤ k := k1; unfold filz; rw [if_pos ⟨k1, k2⟩]), fun a a1 a2 => ⟨(show filz (M 37) 6 (-1) a = -1 by unfold filz; rw [if_pos ⟨a1, a2⟩]), (show filz (M 38) 6 (-1) a = -1 by unfold filz; rw [if_pos ⟨a1, a2⟩]), (show filz (M 39) 6 (-1) a = -1 by unfold filz; rw [if_pos ⟨a1, a2⟩]), (show filz (M 40) 6 (-1) a = -1 by unfold filz; rw [if_pos ⟨a1, a2⟩])⟩⟩ trivial trivial rfl (fun a a1 a2 => by rw [hwa a a1 a2]; unfold cWo; rw [row_fr hfr0 hO a1 a2]) (plPre_fr hfr0 hP) (cpl M R t) (fun p a h1 h2 h3 => cpl_fr hfr0 hO ht h1 h2 h3)) (gV bw_33_15 bw_33_16 bw_33_17 bw_2_15 bw_33_18) rfl ddX4_extend (by decide) (Std.lt hS rfl) (Std.k hS rfl rfl) ⟨rfl, by decide⟩ (Nat.le_of_ble_eq_true rfl) dX4_replace_10 (k_eV (fun M4 e3 => ?_))
  obtain ⟨_, _, v3, v4, v5⟩ := e3
  replace v3 : rQ wo M4 FIN := by rw [hFIN]; exact v3
  replace v4 : okF (M 6 1) FIN := by rw [hFIN]; exact v4
  have hfr4 : frC M M4 := frC_trans hfr0 v5
  refine v_aload_n X 1 dX4_replace_13 rfl rfl ?_
  refine v_aload_n X 0 dX4_replace_14 rfl rfl ?_
  refine gt_X4_best X iwX4 (Std.lt hS rfl) (Std.k hS rfl rfl) (List.mem_cons_of_mem _ bw_6_12) dX4_replace_15 35 (Std.r hS 5 rfl) ?_
  refine v_callV X [.ref (ad 35)] hRm (c_X3_copy_47_35 _ _ _ hS) (gV bw_34_9 bw_34_10 bw_34_11 bw_2_19 bw_34_12) rfl ddX3_copy (by decide) (Std.lt hS rfl) (Std.k hS rfl rfl) ⟨rfl, by decide⟩ (Nat.le_of_ble_eq_true rfl) dX4_replace_18 (k_eV (fun M6 e5 => ?_))
  replace e5 : M6 = (mu (mu (mrow (mrow (mrow (mrow (mrow M4 48 (fun z => if 0 ≤ z ∧ z < 6 then (M4 36 z) else (M4 48 z))) 49 (fun z => if 0 ≤ z ∧ z < 6 then (M4 37 z) else (M4 49 z))) 50 (fun z => if 0 ≤ z ∧ z < 6 then (M4 38 z) else (M4 50 z))) 51 (fun z => if 0 ≤ z ∧ z < 6 then (M4 39 z) else (M4 51 z))) 52 (fun z => if 0 ≤ z ∧ z < 6 then (M4 40 z) else (M4 52 z))) 47 5 (M4 35 5)) 47 6 (M4 35 6)) := e5
  subst e5
  refine v_aload_n X 0 dX4_replace_21 rfl rfl ?_
  refine gt_X4_best X iwX4 (Std.lt hS rfl) (Std.k hS rfl rfl) (List.mem_cons_of_mem _ bw_6_12) dX4_replace_22 35 (Std.r hS 5 rfl) ?_
  refine gt_X3_worth X iwX3 (Std.lt hS rfl) (Std.k hS rfl rfl) (List.mem_cons_of_mem _ bw_33_14) dX4_replace_25 (M4 35 6) rfl (fun hr7 => ?_)
  refine hret _ _ _ _ _ _ _ _ _ _ _ (some (.int (iz (M4 35 6)))) dX4_replace_28 ⟨rfl, _, rfl⟩ (by decide) (by decide) (fun hmok => ?_)
  refine ⟨rfl, rfl, rfl, rfl, rfl, (M4 35 6), rfl, ⟨by omega, by omega⟩, ?_⟩
  try dsimp only
  rw [← hFIN]
  have hl6 := okF_le (n := 6) (by omega) v4
  refine ⟨v3.1.2, rpX_copy hl6 v3 (fun k k1 k2 => ⟨(show (if 0 ≤ k ∧ k < 6 then M4 36 k else M4 48 k) = M4 36 k from if_pos ⟨k1, k2⟩), (show (if 0 ≤ k ∧ k < 6 then M4 37 k else M4 49 k) = M4 37 k from if_pos ⟨k1, k2⟩), (show (if 0 ≤ k ∧ k < 6 then M4 38 k else M4 50 k) = M4 38 k from if_pos ⟨k1, k2⟩), (show (if 0 ≤ k ∧ k < 6 then M4 39 k else M4 51 k) = M4 39 k from if_pos ⟨k1, k2⟩), (show (if 0 ≤ k ∧ k < 6 then M4 40 k else M4 52 k) = M4 40 k from if_pos ⟨k1, k2⟩)⟩), v4, fun i hi => ?_, fun z hz => hfr4.2 z hz⟩
  rw [mu_i _ _ _ (by omega), mu_i _ _ _ (by omega), mrow_i _ _ (by omega), mrow_i _ _ (by omega), mrow_i _ _ (by omega), mrow_i _ _ (by omega), mrow_i _ _ (by omega)]
  exact hfr4.1 i (by omega)

def prepC (M : MI) (R : MR) (n : Int) (Mp : MI) : Prop := (∀ i : Nat, ¬ (14 ≤ i ∧ i ≤ 16) → ¬ (33 ≤ i ∧ i ≤ 34) → ¬ (41 ≤ i ∧ i ≤ 46) → Mp i = M i) ∧ Mp 14 = bsRow (M 10) (M 11) (M 12) n.toNat 240 (M 14) ∧ Mp 16 = rdRow (M 10) (M 11) (M 12) n.toNat (M 16) ∧ Mp 15 = opRow (fun z => shAt (M 10) (M 11) (M 12) z n.toNat) (M 15) ∧ (∀ wo : Int → Int, rT wo Mp []) ∧ rK Mp [] ∧ ∀ z : Int, 0 ≤ z → z < 60 → Mp 33 z = lnC M R z
theorem lnC_frB {M M' : MI} (h : frB M M') {R : MR} {sh : MS} {N : Nat} (o : ShowOk M R sh N) {z : Int} (hz : 0 ≤ z) : lnC M' R z = lnC M R z := by
  unfold lnC
  rw [h 6 (by omega)]
  by_cases c : z / 10 < M 6 1
  · rw [if_pos c, if_pos c]
    exact cLen_frB h (frR_refl R) (actId o (by omega) c).2 _
  · rw [if_neg c, if_neg c]
theorem prep_b {M Mp : MI} {R : MR} {n : Int} (h : prepC M R n Mp) : frB M Mp := fun i hi => h.1 i (by omega) (by omega) (by omega)
theorem prep_pre {M Mp : MI} {R : MR} {sh : MS} {N : Nat} {n : Int} (h : prepC M R n Mp) (o : ShowOk M R sh N) (hF : ∀ k : Int, 0 ≤ k → k < n → FactOk (M 10 k) (M 11 k) (M 12 k)) : plPre Mp := by
  have hF' : ∀ k : Int, 0 ≤ k → k < (n.toNat : Int) → FactOk (M 10 k) (M 11 k) (M 12 k) := fun k q1 q2 => hF k q1 (by omega)
  obtain ⟨h1, h2, h3, h4, _, _, h7⟩ := h
  refine ⟨fun z z1 z2 => ?_, fun b b1 b2 => ⟨?_, ?_⟩, fun a a1 a2 => ?_⟩
  · rw [h7 z z1 z2]
    unfold lnC
    by_cases c : z / 10 < M 6 1
    · rw [if_pos c]
      exact cLen_b (actId o (by omega) c).2 _
    · rw [if_neg c]; decide
  · rw [h2]
    unfold bsRow
    rw [if_pos ⟨b1, b2⟩]
    exact bsAt_in hF' b.toNat
  · rw [h4]
    unfold opRow
    rw [if_pos ⟨b1, b2⟩]
    exact (opAt_in _ _).2
  · rw [h3]
    unfold rdRow
    rw [if_pos ⟨a1, a2⟩]
    exact rdAt_in a n.toNat hF'
theorem prep_txt {M Mp : MI} {R : MR} {n : Int} (h : prepC M R n Mp) {t : Nat} (ht : isT t) (hX : cTxt M t) : cTxt Mp t := by
  unfold cTxt at hX ⊢
  rcases ht with rfl | rfl
  all_goals
    rw [h.1 _ (by omega) (by omega) (by omega), h.1 _ (by omega) (by omega) (by omega), h.1 _ (by omega) (by omega) (by omega), h.1 _ (by omega) (by omega) (by omega), h.1 _ (by omega) (by omega) (by omega), h.1 _ (by omega) (by omega) (by omega)]
    exact hX

-- prepare
set_option maxHeartbeats 4000000 in
set_option maxRecDepth 100000 in
theorem c_X11_prepare (l : Launch) (D : va_G) (cy : Nat → ClassId) {N : Nat} {sh : MS} {ad : Nat → Nat} {M L : MI} {R : MR} (hS : Std N sh R) (n : Int) (hn : 0 ≤ n ∧ n ≤ M 9 3) (t : Nat) (ht : isT t) (hR8 : R 0 8 = some t) (hO : ShowOk M R sh N) (hz : 0 ≤ M 9 3 ∧ M 9 3 ≤ 100) (hFc : ∀ k : Int, 0 ≤ k → k < M 9 3 → FactOk (M 10 k) (M 11 k) (M 12 k) ∧ M 10 k ≠ 3) : Ctr l D cy yX11_prepare wsX11_prepare ({ frames := 4, cells := 0, slots := 0, locals := 95 } : Room) N sh ad M L R [.ref (ad 0), .int (iz n)] (eV N sh ad L (mu R 31 7 (some t)) (fun M' => prepC M R n M')) := by
  refine Ctr.ofV (by decide) rfl (Nat.le_of_ble_eq_true rfl) ?_
  intro K hKl hKd hRm hnm X hret
  have X : VX K cX11_prepare 2 wsX11_prepare RX11 := X
  show V K 2 0 0 N sh ad M L R [(0, .ref (ad 0)), (1, .int (iz n))] [] 0
  refine v_aload_n X 0 dX11_prepare_0 rfl rfl ?_
  refine gt_X11_sky X iwX11 (Std.lt hS rfl) (Std.k hS rfl rfl) (List.mem_cons_of_mem _ bw_2_7) dX11_prepare_1 13 (Std.r hS 4 rfl) ?_
  refine v_aload_n X 0 dX11_prepare_4 rfl rfl ?_
  refine gt_X11_facts X iwX11 (Std.lt hS rfl) (Std.k hS rfl rfl) (List.mem_cons_of_mem _ bw_2_3) dX11_prepare_5 9 (Std.r hS 3 rfl) ?_
  refine v_iload_n X 1 dX11_prepare_8 rfl rfl ?_
  refine v_callV X [.ref (ad 9), .int (iz n)] hRm (c_X8_learn _ _ _ hS n (by omega) (fun k q1 q2 => hFc k q1 (by omega))) (gV bw_31_8 bw_31_9 bw_31_10 bw_2_6 bw_31_11) rfl ddX8_learn (by decide) (Std.lt hS rfl) (Std.k hS rfl rfl) ⟨rfl, by decide⟩ (Nat.le_of_ble_eq_true rfl) dX11_prepare_9 (k_eV (fun M2 e1 => ?_))
  replace e1 : M2 = (mrow (mrow (mrow M 14 (bsRow (M 10) (M 11) (M 12) n.toNat 240 (M 14))) 16 (rdRow (M 10) (M 11) (M 12) n.toNat (M 16))) 15 (opRow (fun z => shAt (M 10) (M 11) (M 12) z n.toNat) (M 15))) := e1
  subst e1
  refine v_aload_n X 0 dX11_prepare_12 rfl rfl ?_
  refine gt_X11_planner X iwX11 (Std.lt hS rfl) (Std.k hS rfl rfl) (List.mem_cons_of_mem _ bw_2_16) dX11_prepare_13 31 (Std.r hS 5 rfl) ?_
  refine v_aload_n X 0 dX11_prepare_16 rfl rfl ?_
  refine gt_X11_text X iwX11 (Std.lt hS rfl) (Std.k hS rfl rfl) (List.mem_cons_of_mem _ bw_2_11) dX11_prepare_17 t hR8 ?_
  refine v_callV X [.ref (ad t)] hRm (c_X4_begin _ _ _ (M := (mrow (mrow (mrow M 14 (bsRow (M 10) (M 11) (M 12) n.toNat 240 (M 14))) 16 (rdRow (M 10) (M 11) (M 12) n.toNat (M 16))) 15 (opRow (fun z => shAt (M 10) (M 11) (M 12) z n.toNat) (M 15)))) hS t (isT.lt hS ht) (ShowOk_frB (fun i hi => (by rw [mrow_i _ _ (by omega), mrow_i _ _ (by omega), mrow_i _ _ (by omega)])) (frR_refl R) hO)) (gV bw_33_3 bw_33_4 bw_33_5 bw_2_15 bw_33_6) rfl ddX4_begin (by decide) (Std.lt hS rfl) (Std.k hS rfl rfl) ⟨rfl, by decide⟩ (Nat.le_of_ble_eq_true rfl) dX11_prepare_20 (k_eV (fun M4 e3 => ?_))
  refine hret _ _ _ _ _ _ _ _ _ _ _ none dX11_prepare_23 ⟨rfl, rfl⟩ (by decide) (by decide) (fun hmok => ?_)
  refine ⟨rfl, rfl, rfl, rfl, rfl, rfl, ?_⟩
  obtain ⟨v1, v2, v3, v4⟩ := e3
  refine ⟨fun i i1 i2 i3 => ?_, ?_, ?_, ?_, v2, v3, fun z z1 z2 => ?_⟩
  · rw [v1 i i2 i3, mrow_i _ _ (by omega), mrow_i _ _ (by omega), mrow_i _ _ (by omega)]
  · exact v1 14 (by decide) (by decide)
  · exact v1 16 (by decide) (by decide)
  · exact v1 15 (by decide) (by decide)
  · rw [v4 z z1 z2]
    exact lnC_frB (fun i hi => (by rw [mrow_i _ _ (by omega), mrow_i _ _ (by omega), mrow_i _ _ (by omega)])) hO z1

/-- a post whose references may change -/
def eJ (N : Nat) (sh : MS) (ad : Nat → Nat) (L : MI) (φ : Int → MI → MR → Prop) : PostT := fun rv N' sh' ad' M' L' R' => N' = N ∧ sh' = sh ∧ ad' = ad ∧ L' = L ∧ ∃ r : Int, rv = some (.int (iz r)) ∧ inR r ∧ φ r M' R'

-- out
set_option maxHeartbeats 4000000 in
set_option maxRecDepth 100000 in
theorem c_X11_out (l : Launch) (D : va_G) (cy : Nat → ClassId) {N : Nat} {sh : MS} {ad : Nat → Nat} {M L : MI} {R : MR} (hS : Std N sh R) (a : Int) (m : Int) (n : Int) (ha : inR a) (hm : inR m) (hn : inR n) (t : Nat) (ht : isT t) (hR8 : R 0 8 = some t) (hO : ShowOk M R sh N) (hz : 0 ≤ M 9 3 ∧ M 9 3 ≤ 100) (hFc : ∀ k : Int, 0 ≤ k → k < M 9 3 → FactOk (M 10 k) (M 11 k) (M 12 k) ∧ M 10 k ≠ 3) (hX : cTxt M t) : Ctr l D cy yX11_out wsX11_out ({ frames := 5, cells := 0, slots := 0, locals := 116 } : Room) N sh ad M L R [.ref (ad 0), .int (iz a), .int (iz m), .int (iz n)] (eJ N sh ad L (fun r M' R' => ((0 ≤ a ∧ a < M 6 1) ∧ (0 ≤ m ∧ m < 240) ∧ (0 ≤ n ∧ n ≤ M 9 3) ∧ R' = (mu R 31 7 (some t)) ∧ ∃ Mp : MI, prepC M R n Mp ∧ (r = if cLn Mp a m = 0 then -1 else cFst Mp t (cvR Mp (mu R 31 7 (some t)) [] a m) 0) ∧ frC Mp M') ∨ (¬ ((0 ≤ a ∧ a < M 6 1) ∧ (0 ≤ m ∧ m < 240) ∧ (0 ≤ n ∧ n ≤ M 9 3)) ∧ r = -1 ∧ R' = R ∧ M' = M))) := by
  refine Ctr.ofI (by decide) rfl (Nat.le_of_ble_eq_true rfl) ?_
  intro K hKl hKd hRm hnm X hret
  have X : VX K cX11_out 4 wsX11_out RX11 := X
  show V K 4 0 0 N sh ad M L R [(0, .ref (ad 0)), (1, .int (iz a)), (2, .int (iz m)), (3, .int (iz n))] [] 0
  have hO1 := hO.1
  refine v_aload_n X 0 dX11_out_0 rfl rfl ?_
  refine gt_X11_show X iwX11 (Std.lt hS rfl) (Std.k hS rfl rfl) (List.mem_cons_of_mem _ bw_1_23) dX11_out_1 6 (Std.r hS 2 rfl) ?_
  refine v_iload_n X 1 dX11_out_4 rfl rfl ?_
  refine v_callV X [.int (iz a)] hRm (c_X7_actAt _ _ _ hS a ⟨by omega, by omega⟩ hO) (gV bw_24_5 bw_24_6 bw_24_7 bw_1_22 bw_24_8) rfl ddX7_actAt (by decide) (Std.lt hS rfl) (Std.k hS rfl rfl) ⟨rfl, by decide⟩ (Nat.le_of_ble_eq_true rfl) dX11_out_5 (k_pR (fun r1 e2 => ?_))
  rcases e2 with ⟨rfl, o4n⟩ | ⟨q3, rfl, o4r, o4b, o4k⟩
  · skip
    refine v_st (st' := [.null]) rfl ?_
    refine v_ifnullN X 29 dX11_out_8 (by decide) ?_
    refine v_iconst X dX11_out_29 ?_
    refine hret _ _ _ _ _ _ _ _ _ _ _ (some (.int (iz (-1)))) dX11_out_30 ⟨rfl, _, rfl⟩ (by decide) (by decide) (fun hmok => ?_)
    exact ⟨rfl, rfl, rfl, rfl, -1, rfl, by decide, Or.inr ⟨by omega, rfl, rfl, rfl⟩⟩
  · skip
    have q3B : 112 ≤ q3 := o4k.1
    refine v_st (st' := [.ref (ad q3)]) rfl ?_
    refine v_ifnull X dX11_out_8 ?_
    refine v_iload_n X 2 dX11_out_11 rfl rfl ?_
    refine v_callS X [.int (iz m)] hRm (c_X11_isMinute _ _ _ m ⟨by omega, by omega⟩) (gS bw_26_19 bw_26_20 bw_1_2 bw_26_21) rfl ddX11_isMinute (by decide) (Nat.le_of_ble_eq_true rfl) dX11_out_12 (k_pB (fun b5 => ?_) (fun b5 => ?_))
    · skip
      refine v_if_eq X 29 dX11_out_15 (by decide) ⟨by decide, by decide⟩ (fun q => absurd q (by decide)) (fun _ => ?_)
      refine v_aload_n X 0 dX11_out_18 rfl rfl ?_
      refine gt_X11_facts X iwX11 (Std.lt hS rfl) (Std.k hS rfl rfl) (List.mem_cons_of_mem _ bw_2_3) dX11_out_19 9 (Std.r hS 3 rfl) ?_
      refine v_iload_n X 3 dX11_out_22 rfl rfl ?_
      refine v_callV X [.int (iz n)] hRm (c_X1_has _ _ _ hS n ⟨by omega, by omega⟩) (gV bw_31_4 bw_31_5 bw_31_6 bw_2_2 bw_31_7) rfl ddX1_has (by decide) (Std.lt hS rfl) (Std.k hS rfl rfl) ⟨rfl, by decide⟩ (Nat.le_of_ble_eq_true rfl) dX11_out_23 (k_pB (fun b6 => ?_) (fun b6 => ?_))
      · skip
        refine v_if_ne X 31 dX11_out_26 (by decide) ⟨by decide, by decide⟩ (fun _ => ?_) (fun q => absurd (by decide) q)
        refine v_aload_n X 0 dX11_out_31 rfl rfl ?_
        refine v_iload_n X 3 dX11_out_32 rfl rfl ?_
        refine v_callV X [.int (iz n)] hRm (c_X11_prepare _ _ _ (M := M) hS n (show 0 ≤ n ∧ n ≤ M 9 3 from ⟨by omega, by omega⟩) t ht hR8 hO hz hFc) (gV bw_32_23 bw_33_0 bw_33_1 bw_1_2 bw_33_2) rfl ddX11_prepare (by decide) (Std.lt hS rfl) (Std.k hS rfl rfl) ⟨rfl, by decide⟩ (Nat.le_of_ble_eq_true rfl) dX11_out_33 (k_eV (fun Mp hpr => ?_))
        have hS1 := hS
        have hS := Std_setT hS1 t
        have hOp : ShowOk Mp (mu R 31 7 (some t)) sh N := ShowOk_frB (prep_b hpr) (frR_setT R t) hO
        have hPp := prep_pre hpr hO (fun k k1 k2 => (hFc k k1 (by omega)).1)
        have hXp := prep_txt hpr ht hX
        have g61 : Mp 6 1 = M 6 1 := congrFun (prep_b hpr 6 (by omega)) 1
        refine v_aload_n X 0 dX11_out_36 rfl rfl ?_
        refine gt_X11_planner X iwX11 (Std.lt hS rfl) (Std.k hS rfl rfl) (List.mem_cons_of_mem _ bw_2_16) dX11_out_37 31 (Std.r hS 5 rfl) ?_
        refine v_iload_n X 1 dX11_out_40 rfl rfl ?_
        refine v_iload_n X 2 dX11_out_41 rfl rfl ?_
        refine v_callV X [.int (iz a), .int (iz m)] hRm (c_X4_outRuleFor _ _ _ hS a m (by rw [g61]; omega) (by omega) (fun _ => 0) [] t ht (mu_s _ _ _ _) hXp hOp (hpr.2.2.2.2.1 _) trivial hPp) (gV bw_42_9 bw_42_10 bw_42_11 bw_2_15 bw_42_12) rfl ddX4_outRuleFor (by decide) (Std.lt hS rfl) (Std.k hS rfl rfl) ⟨rfl, by decide⟩ (Nat.le_of_ble_eq_true rfl) dX11_out_42 (k_eI (fun r8 M9 hr10 e11 => ?_))
        refine hret _ _ _ _ _ _ _ _ _ _ _ (some (.int (iz r8))) dX11_out_45 ⟨rfl, _, rfl⟩ (by decide) (by decide) (fun hmok => ?_)
        exact ⟨rfl, rfl, rfl, rfl, r8, rfl, by assumption, Or.inl ⟨by omega, by omega, by omega, rfl, Mp, hpr, e11.1, e11.2⟩⟩
      · skip
        refine v_if_ne X 31 dX11_out_26 (by decide) ⟨by decide, by decide⟩ (fun q => absurd q (by decide)) (fun _ => ?_)
        refine v_iconst X dX11_out_29 ?_
        refine hret _ _ _ _ _ _ _ _ _ _ _ (some (.int (iz (-1)))) dX11_out_30 ⟨rfl, _, rfl⟩ (by decide) (by decide) (fun hmok => ?_)
        exact ⟨rfl, rfl, rfl, rfl, -1, rfl, by decide, Or.inr ⟨by omega, rfl, rfl, rfl⟩⟩
    · skip
      refine v_if_eq X 29 dX11_out_15 (by decide) ⟨by decide, by decide⟩ (fun _ => ?_) (fun q => absurd (by decide) q)
      refine v_iconst X dX11_out_29 ?_
      refine hret _ _ _ _ _ _ _ _ _ _ _ (some (.int (iz (-1)))) dX11_out_30 ⟨rfl, _, rfl⟩ (by decide) (by decide) (fun hmok => ?_)
      exact ⟨rfl, rfl, rfl, rfl, -1, rfl, by decide, Or.inr ⟨by omega, rfl, rfl, rfl⟩⟩

-- plan
set_option maxHeartbeats 4000000 in
set_option maxRecDepth 100000 in
theorem c_X11_plan (l : Launch) (D : va_G) (cy : Nat → ClassId) {N : Nat} {sh : MS} {ad : Nat → Nat} {M L : MI} {R : MR} (hS : Std N sh R) (n : Int) (hn : inR n) (t : Nat) (ht : isT t) (hR8 : R 0 8 = some t) (hO : ShowOk M R sh N) (hz : 0 ≤ M 9 3 ∧ M 9 3 ≤ 100) (hFc : ∀ k : Int, 0 ≤ k → k < M 9 3 → FactOk (M 10 k) (M 11 k) (M 12 k) ∧ M 10 k ≠ 3) (hX : cTxt M t) : Ctr l D cy yX11_plan wsX11_plan ({ frames := 12, cells := 0, slots := 0, locals := 286 } : Room) N sh ad M L R [.ref (ad 0), .int (iz n)] (eJ N sh ad L (fun r M' R' => ((0 ≤ n ∧ n ≤ M 9 3) ∧ R' = (mu R 31 7 (some t)) ∧ ∃ Mp : MI, prepC (mu (mu (mu (mrow (mrow (mrow (mrow (mrow M 48 (filz (M 48) 6 (-1))) 49 (filz (M 49) 6 (-1))) 50 (filz (M 50) 6 (-1))) 51 (filz (M 51) 6 (-1))) 52 (filz (M 52) 6 (-1))) 47 5 0) 47 6 0) 0 7 1) R n Mp ∧ r = wL (cWo M R) (FINc (cpl Mp (mu R 31 7 (some t)) t) (cWo M R) (Mp 50) (M 6 1).toNat) ∧ rZ (cWo M R) M' (FINc (cpl Mp (mu R 31 7 (some t)) t) (cWo M R) (Mp 50) (M 6 1).toNat) ∧ okF (M 6 1) (FINc (cpl Mp (mu R 31 7 (some t)) t) (cWo M R) (Mp 50) (M 6 1).toNat) ∧ frD Mp M') ∨ (¬ (0 ≤ n ∧ n ≤ M 9 3) ∧ r = -1 ∧ R' = R ∧ M' = M))) := by
  refine Ctr.ofI (by decide) rfl (Nat.le_of_ble_eq_true rfl) ?_
  intro K hKl hKd hRm hnm X hret
  have X : VX K cX11_plan 2 wsX11_plan RX11 := X
  show V K 2 0 0 N sh ad M L R [(0, .ref (ad 0)), (1, .int (iz n))] [] 0
  have hO1 := hO.1
  refine v_aload_n X 0 dX11_plan_0 rfl rfl ?_
  refine gt_X11_facts X iwX11 (Std.lt hS rfl) (Std.k hS rfl rfl) (List.mem_cons_of_mem _ bw_2_3) dX11_plan_1 9 (Std.r hS 3 rfl) ?_
  refine v_iload_n X 1 dX11_plan_4 rfl rfl ?_
  refine v_callV X [.int (iz n)] hRm (c_X1_has _ _ _ hS n ⟨by omega, by omega⟩) (gV bw_31_4 bw_31_5 bw_31_6 bw_2_2 bw_31_7) rfl ddX1_has (by decide) (Std.lt hS rfl) (Std.k hS rfl rfl) ⟨rfl, by decide⟩ (Nat.le_of_ble_eq_true rfl) dX11_plan_5 (k_pB (fun b1 => ?_) (fun b1 => ?_))
  · skip
    refine v_if_ne X 13 dX11_plan_8 (by decide) ⟨by decide, by decide⟩ (fun _ => ?_) (fun q => absurd (by decide) q)
    refine v_aload_n X 0 dX11_plan_13 rfl rfl ?_
    refine gt_X11_planned X iwX11 (Std.lt hS rfl) (Std.k hS rfl rfl) (List.mem_cons_of_mem _ bw_2_20) dX11_plan_14 47 (Std.r hS 6 rfl) ?_
    refine v_callV X [] hRm (c_X3_clear_47 _ _ _ hS) (gV bw_32_22 bw_7_3 bw_7_4 bw_2_19 bw_7_5) rfl ddX3_clear (by decide) (Std.lt hS rfl) (Std.k hS rfl rfl) ⟨rfl, by decide⟩ (Nat.le_of_ble_eq_true rfl) dX11_plan_17 (k_eV (fun M3 e2 => ?_))
    replace e2 : M3 = (mu (mu (mrow (mrow (mrow (mrow (mrow M 48 (filz (M 48) 6 (-1))) 49 (filz (M 49) 6 (-1))) 50 (filz (M 50) 6 (-1))) 51 (filz (M 51) 6 (-1))) 52 (filz (M 52) 6 (-1))) 47 5 0) 47 6 0) := e2
    subst e2
    refine v_aload_n X 0 dX11_plan_20 rfl rfl ?_
    refine v_iconst X dX11_plan_21 ?_
    refine pt_X11_isPlanned X iwX11 (Std.lt hS rfl) (Std.k hS rfl rfl) (List.mem_cons_of_mem _ bw_2_21) ⟨by decide, by decide⟩ dX11_plan_22 ?_
    refine v_aload_n X 0 dX11_plan_25 rfl rfl ?_
    refine v_iload_n X 1 dX11_plan_26 rfl rfl ?_
    refine v_callV X [.int (iz n)] hRm (c_X11_prepare _ _ _ (M := (mu (mu (mu (mrow (mrow (mrow (mrow (mrow M 48 (filz (M 48) 6 (-1))) 49 (filz (M 49) 6 (-1))) 50 (filz (M 50) 6 (-1))) 51 (filz (M 51) 6 (-1))) 52 (filz (M 52) 6 (-1))) 47 5 0) 47 6 0) 0 7 1)) hS n (show 0 ≤ n ∧ n ≤ M 9 3 from ⟨by omega, by omega⟩) t ht hR8 (ShowOk_frB (fun i hi => (by rw [mu_i _ _ _ (by omega), mu_i _ _ _ (by omega), mu_i _ _ _ (by omega), mrow_i _ _ (by omega), mrow_i _ _ (by omega), mrow_i _ _ (by omega), mrow_i _ _ (by omega), mrow_i _ _ (by omega)])) (frR_refl R) hO) hz hFc) (gV bw_32_23 bw_33_0 bw_33_1 bw_1_2 bw_33_2) rfl ddX11_prepare (by decide) (Std.lt hS rfl) (Std.k hS rfl rfl) ⟨rfl, by decide⟩ (Nat.le_of_ble_eq_true rfl) dX11_plan_27 (k_eV (fun Mp hpr => ?_))
    have hS1 := hS
    have hS := Std_setT hS1 t
    have hOp : ShowOk Mp (mu R 31 7 (some t)) sh N := ShowOk_frB (prep_b hpr) (frR_setT R t) (ShowOk_frB (show frB M (mu (mu (mu (mrow (mrow (mrow (mrow (mrow M 48 (filz (M 48) 6 (-1))) 49 (filz (M 49) 6 (-1))) 50 (filz (M 50) 6 (-1))) 51 (filz (M 51) 6 (-1))) 52 (filz (M 52) 6 (-1))) 47 5 0) 47 6 0) 0 7 1) from (fun i hi => (by rw [mu_i _ _ _ (by omega), mu_i _ _ _ (by omega), mu_i _ _ _ (by omega), mrow_i _ _ (by omega), mrow_i _ _ (by omega), mrow_i _ _ (by omega), mrow_i _ _ (by omega), mrow_i _ _ (by omega)]))) (frR_refl R) hO)
    have hPp := prep_pre hpr (ShowOk_frB (show frB M (mu (mu (mu (mrow (mrow (mrow (mrow (mrow M 48 (filz (M 48) 6 (-1))) 49 (filz (M 49) 6 (-1))) 50 (filz (M 50) 6 (-1))) 51 (filz (M 51) 6 (-1))) 52 (filz (M 52) 6 (-1))) 47 5 0) 47 6 0) 0 7 1) from (fun i hi => (by rw [mu_i _ _ _ (by omega), mu_i _ _ _ (by omega), mu_i _ _ _ (by omega), mrow_i _ _ (by omega), mrow_i _ _ (by omega), mrow_i _ _ (by omega), mrow_i _ _ (by omega), mrow_i _ _ (by omega)]))) (frR_refl R) hO) (fun k k1 k2 => (hFc k k1 (by omega)).1)
    have hXp := prep_txt hpr ht (show cTxt (mu (mu (mu (mrow (mrow (mrow (mrow (mrow M 48 (filz (M 48) 6 (-1))) 49 (filz (M 49) 6 (-1))) 50 (filz (M 50) 6 (-1))) 51 (filz (M 51) 6 (-1))) 52 (filz (M 52) 6 (-1))) 47 5 0) 47 6 0) 0 7 1) t by rcases ht with h | h <;> (subst h; exact hX))
    have g61 : Mp 6 1 = M 6 1 := congrFun (prep_b hpr 6 (by omega)) 1
    have hfB : frB M Mp := fun i hi => (prep_b hpr i hi).trans (by rw [mu_i _ _ _ (by omega), mu_i _ _ _ (by omega), mu_i _ _ _ (by omega), mrow_i _ _ (by omega), mrow_i _ _ (by omega), mrow_i _ _ (by omega), mrow_i _ _ (by omega), mrow_i _ _ (by omega)])
    refine v_aload_n X 0 dX11_plan_30 rfl rfl ?_
    refine gt_X11_planner X iwX11 (Std.lt hS rfl) (Std.k hS rfl rfl) (List.mem_cons_of_mem _ bw_2_16) dX11_plan_31 31 (Std.r hS 5 rfl) ?_
    refine v_aload_n X 0 dX11_plan_34 rfl rfl ?_
    refine gt_X11_planned X iwX11 (Std.lt hS rfl) (Std.k hS rfl rfl) (List.mem_cons_of_mem _ bw_2_20) dX11_plan_35 47 (Std.r hS 6 rfl) ?_
    refine v_callV X [.ref (ad 47)] hRm (c_X4_replace _ _ _ hS (cWo M R) t ht (mu_s _ _ _ _) hXp hOp (hpr.2.2.2.2.1 _) hpr.2.2.2.2.2.1 (fun a a1 a2 => (by rw [g61] at a2; exact (congrFun (hfB (aId R a) (by have := (actId hO a1 a2).2.1; omega)) 2).symm)) hPp) (gV bw_33_10 bw_33_11 bw_33_12 bw_2_15 bw_33_13) rfl ddX4_replace (by decide) (Std.lt hS rfl) (Std.k hS rfl rfl) ⟨rfl, by decide⟩ (Nat.le_of_ble_eq_true rfl) dX11_plan_38 (k_eI (fun r5 M6 hr7 e8 => ?_))
    refine hret _ _ _ _ _ _ _ _ _ _ _ (some (.int (iz r5))) dX11_plan_41 ⟨rfl, _, rfl⟩ (by decide) (by decide) (fun hmok => ?_)
    rw [g61] at e8
    exact ⟨rfl, rfl, rfl, rfl, r5, rfl, by assumption, Or.inl ⟨by omega, rfl, Mp, hpr, e8⟩⟩
  · skip
    refine v_if_ne X 13 dX11_plan_8 (by decide) ⟨by decide, by decide⟩ (fun q => absurd q (by decide)) (fun _ => ?_)
    refine v_iconst X dX11_plan_11 ?_
    refine hret _ _ _ _ _ _ _ _ _ _ _ (some (.int (iz (-1)))) dX11_plan_12 ⟨rfl, _, rfl⟩ (by decide) (by decide) (fun hmok => ?_)
    exact ⟨rfl, rfl, rfl, rfl, -1, rfl, by decide, Or.inr ⟨by omega, rfl, rfl, rfl⟩⟩

-- mend
set_option maxHeartbeats 4000000 in
set_option maxRecDepth 100000 in
theorem c_X11_mend (l : Launch) (D : va_G) (cy : Nat → ClassId) {N : Nat} {sh : MS} {ad : Nat → Nat} {M L : MI} {R : MR} (hS : Std N sh R) (n : Int) (hn : inR n) (t : Nat) (ht : isT t) (hR8 : R 0 8 = some t) (hO : ShowOk M R sh N) (hz : 0 ≤ M 9 3 ∧ M 9 3 ≤ 100) (hFc : ∀ k : Int, 0 ≤ k → k < M 9 3 → FactOk (M 10 k) (M 11 k) (M 12 k) ∧ M 10 k ≠ 3) (hX : cTxt M t) : Ctr l D cy yX11_mend wsX11_mend ({ frames := 12, cells := 0, slots := 0, locals := 286 } : Room) N sh ad M L R [.ref (ad 0), .int (iz n)] (eJ N sh ad L (fun r M' R' => ((M 0 7 ≠ 0 ∧ 0 ≤ n ∧ n ≤ M 9 3) ∧ R' = (mu R 31 7 (some t)) ∧ ∃ Mp : MI, prepC M R n Mp ∧ r = wL (cWo M R) (FINc (cpl Mp (mu R 31 7 (some t)) t) (cWo M R) (Mp 50) (M 6 1).toNat) ∧ rZ (cWo M R) M' (FINc (cpl Mp (mu R 31 7 (some t)) t) (cWo M R) (Mp 50) (M 6 1).toNat) ∧ okF (M 6 1) (FINc (cpl Mp (mu R 31 7 (some t)) t) (cWo M R) (Mp 50) (M 6 1).toNat) ∧ frD Mp M') ∨ (¬ (M 0 7 ≠ 0 ∧ 0 ≤ n ∧ n ≤ M 9 3) ∧ r = -1 ∧ R' = R ∧ M' = M))) := by
  refine Ctr.ofI (by decide) rfl (Nat.le_of_ble_eq_true rfl) ?_
  intro K hKl hKd hRm hnm X hret
  have X : VX K cX11_mend 2 wsX11_mend RX11 := X
  show V K 2 0 0 N sh ad M L R [(0, .ref (ad 0)), (1, .int (iz n))] [] 0
  have hO1 := hO.1
  refine v_aload_n X 0 dX11_mend_0 rfl rfl ?_
  refine gt_X11_isPlanned X iwX11 (Std.lt hS rfl) (Std.k hS rfl rfl) (List.mem_cons_of_mem _ bw_2_21) dX11_mend_1 (M 0 7) rfl (fun hr1 => ?_)
  refine v_if_eq X 18 dX11_mend_4 (by decide) ⟨by omega, by omega⟩ (fun u2 => ?_) (fun u2 => ?_)
  · skip
    refine v_iconst X dX11_mend_18 ?_
    refine hret _ _ _ _ _ _ _ _ _ _ _ (some (.int (iz (-1)))) dX11_mend_19 ⟨rfl, _, rfl⟩ (by decide) (by decide) (fun hmok => ?_)
    exact ⟨rfl, rfl, rfl, rfl, -1, rfl, by decide, Or.inr ⟨by omega, rfl, rfl, rfl⟩⟩
  · skip
    refine v_aload_n X 0 dX11_mend_7 rfl rfl ?_
    refine gt_X11_facts X iwX11 (Std.lt hS rfl) (Std.k hS rfl rfl) (List.mem_cons_of_mem _ bw_2_3) dX11_mend_8 9 (Std.r hS 3 rfl) ?_
    refine v_iload_n X 1 dX11_mend_11 rfl rfl ?_
    refine v_callV X [.int (iz n)] hRm (c_X1_has _ _ _ hS n ⟨by omega, by omega⟩) (gV bw_31_4 bw_31_5 bw_31_6 bw_2_2 bw_31_7) rfl ddX1_has (by decide) (Std.lt hS rfl) (Std.k hS rfl rfl) ⟨rfl, by decide⟩ (Nat.le_of_ble_eq_true rfl) dX11_mend_12 (k_pB (fun b3 => ?_) (fun b3 => ?_))
    · skip
      refine v_if_ne X 20 dX11_mend_15 (by decide) ⟨by decide, by decide⟩ (fun _ => ?_) (fun q => absurd (by decide) q)
      refine v_aload_n X 0 dX11_mend_20 rfl rfl ?_
      refine v_iload_n X 1 dX11_mend_21 rfl rfl ?_
      refine v_callV X [.int (iz n)] hRm (c_X11_prepare _ _ _ (M := M) hS n (show 0 ≤ n ∧ n ≤ M 9 3 from ⟨by omega, by omega⟩) t ht hR8 hO hz hFc) (gV bw_32_23 bw_33_0 bw_33_1 bw_1_2 bw_33_2) rfl ddX11_prepare (by decide) (Std.lt hS rfl) (Std.k hS rfl rfl) ⟨rfl, by decide⟩ (Nat.le_of_ble_eq_true rfl) dX11_mend_22 (k_eV (fun Mp hpr => ?_))
      have hS1 := hS
      have hS := Std_setT hS1 t
      have hOp : ShowOk Mp (mu R 31 7 (some t)) sh N := ShowOk_frB (prep_b hpr) (frR_setT R t) hO
      have hPp := prep_pre hpr hO (fun k k1 k2 => (hFc k k1 (by omega)).1)
      have hXp := prep_txt hpr ht hX
      have g61 : Mp 6 1 = M 6 1 := congrFun (prep_b hpr 6 (by omega)) 1
      have hfB : frB M Mp := prep_b hpr
      refine v_aload_n X 0 dX11_mend_25 rfl rfl ?_
      refine gt_X11_planner X iwX11 (Std.lt hS rfl) (Std.k hS rfl rfl) (List.mem_cons_of_mem _ bw_2_16) dX11_mend_26 31 (Std.r hS 5 rfl) ?_
      refine v_aload_n X 0 dX11_mend_29 rfl rfl ?_
      refine gt_X11_planned X iwX11 (Std.lt hS rfl) (Std.k hS rfl rfl) (List.mem_cons_of_mem _ bw_2_20) dX11_mend_30 47 (Std.r hS 6 rfl) ?_
      refine v_callV X [.ref (ad 47)] hRm (c_X4_replace _ _ _ hS (cWo M R) t ht (mu_s _ _ _ _) hXp hOp (hpr.2.2.2.2.1 _) hpr.2.2.2.2.2.1 (fun a a1 a2 => (by rw [g61] at a2; exact (congrFun (hfB (aId R a) (by have := (actId hO a1 a2).2.1; omega)) 2).symm)) hPp) (gV bw_33_10 bw_33_11 bw_33_12 bw_2_15 bw_33_13) rfl ddX4_replace (by decide) (Std.lt hS rfl) (Std.k hS rfl rfl) ⟨rfl, by decide⟩ (Nat.le_of_ble_eq_true rfl) dX11_mend_33 (k_eI (fun r5 M6 hr7 e8 => ?_))
      refine hret _ _ _ _ _ _ _ _ _ _ _ (some (.int (iz r5))) dX11_mend_36 ⟨rfl, _, rfl⟩ (by decide) (by decide) (fun hmok => ?_)
      rw [g61] at e8
      exact ⟨rfl, rfl, rfl, rfl, r5, rfl, by assumption, Or.inl ⟨by omega, rfl, Mp, hpr, e8⟩⟩
    · skip
      refine v_if_ne X 20 dX11_mend_15 (by decide) ⟨by decide, by decide⟩ (fun q => absurd q (by decide)) (fun _ => ?_)
      refine v_iconst X dX11_mend_18 ?_
      refine hret _ _ _ _ _ _ _ _ _ _ _ (some (.int (iz (-1)))) dX11_mend_19 ⟨rfl, _, rfl⟩ (by decide) (by decide) (fun hmok => ?_)
      exact ⟨rfl, rfl, rfl, rfl, -1, rfl, by decide, Or.inr ⟨by omega, rfl, rfl, rfl⟩⟩

def flyL (pl : List Fl → Int → Option Fl) : List Int → List Fl → Option (List Fl)
  | [], p => some p
  | k :: ks, p => if k = -1 then flyL pl ks p else match pl p k with
    | none => none
    | some f => flyL pl ks (f :: p)
def canC (pl : List Fl → Int → Option Fl) (w : Int → Int) (ks : List Int) : Int := match flyL pl ks [] with
  | none => -2
  | some p => wL w p
theorem cpl_fa {M : MI} {R : MR} {t : Nat} {p : List Fl} {a : Int} {f : Fl} (h : cpl M R t p a = some f) : fa f = a := by
  unfold cpl at h
  split at h
  · cases h
  · cases h; rfl
theorem flyL_no {pl : List Fl → Int → Option Fl} {k : Int} {ks : List Int} {p : List Fl} (h0 : k ≠ -1) (h : pl p k = none) : flyL pl (k :: ks) p = none := by
  rw [flyL, if_neg h0, h]
theorem flyL_yes {pl : List Fl → Int → Option Fl} {k : Int} {ks : List Int} {p : List Fl} {f : Fl} (h0 : k ≠ -1) (h : pl p k = some f) : flyL pl (k :: ks) p = flyL pl ks (f :: p) := by
  rw [flyL, if_neg h0, h]
theorem flyL_skip {pl : List Fl → Int → Option Fl} {k : Int} {ks : List Int} {p : List Fl} (h0 : k = -1) : flyL pl (k :: ks) p = flyL pl ks p := by
  rw [flyL, if_pos h0]

-- can
set_option maxHeartbeats 4000000 in
set_option maxRecDepth 100000 in
theorem c_X11_can (l : Launch) (D : va_G) (cy : Nat → ClassId) {N : Nat} {sh : MS} {ad : Nat → Nat} {M L : MI} {R : MR} (hS : Std N sh R) (a : Int) (b : Int) (c : Int) (d : Int) (n : Int) (ha : inR a) (hb : inR b) (hc : inR c) (hd : inR d) (hn : inR n) (t : Nat) (ht : isT t) (hR8 : R 0 8 = some t) (hO : ShowOk M R sh N) (hz : 0 ≤ M 9 3 ∧ M 9 3 ≤ 100) (hFc : ∀ k : Int, 0 ≤ k → k < M 9 3 → FactOk (M 10 k) (M 11 k) (M 12 k) ∧ M 10 k ≠ 3) (hX : cTxt M t) : Ctr l D cy yX11_can wsX11_can ({ frames := 5, cells := 0, slots := 0, locals := 127 } : Room) N sh ad M L R [.ref (ad 0), .int (iz a), .int (iz b), .int (iz c), .int (iz d), .int (iz n)] (eJ N sh ad L (fun r M' R' => ((((0 ≤ a ∧ a < M 6 1) ∧ (b = -1 ∨ (0 ≤ b ∧ b < M 6 1)) ∧ (c = -1 ∨ (0 ≤ c ∧ c < M 6 1)) ∧ (d = -1 ∨ (0 ≤ d ∧ d < M 6 1)) ∧ (b = -1 → c = -1) ∧ (c = -1 → d = -1) ∧ a ≠ b ∧ a ≠ c ∧ a ≠ d ∧ (b = -1 ∨ (b ≠ c ∧ b ≠ d)) ∧ (c = -1 ∨ c ≠ d)) ∧ 0 ≤ n ∧ n ≤ M 9 3) ∧ R' = (mu R 31 7 (some t)) ∧ ∃ Mp : MI, prepC M R n Mp ∧ r = canC (cpl Mp (mu R 31 7 (some t)) t) (cWo M R) [a, b, c, d] ∧ frC Mp M') ∨ (¬ (((0 ≤ a ∧ a < M 6 1) ∧ (b = -1 ∨ (0 ≤ b ∧ b < M 6 1)) ∧ (c = -1 ∨ (0 ≤ c ∧ c < M 6 1)) ∧ (d = -1 ∨ (0 ≤ d ∧ d < M 6 1)) ∧ (b = -1 → c = -1) ∧ (c = -1 → d = -1) ∧ a ≠ b ∧ a ≠ c ∧ a ≠ d ∧ (b = -1 ∨ (b ≠ c ∧ b ≠ d)) ∧ (c = -1 ∨ c ≠ d)) ∧ 0 ≤ n ∧ n ≤ M 9 3) ∧ r = -1 ∧ R' = R ∧ M' = M))) := by
  refine Ctr.ofI (by decide) rfl (Nat.le_of_ble_eq_true rfl) ?_
  intro K hKl hKd hRm hnm X hret
  have X : VX K cX11_can 7 wsX11_can RX11 := X
  show V K 7 0 0 N sh ad M L R [(0, .ref (ad 0)), (1, .int (iz a)), (2, .int (iz b)), (3, .int (iz c)), (4, .int (iz d)), (5, .int (iz n))] [] 0
  have hO1 := hO.1
  refine v_aload_n X 0 dX11_can_0 rfl rfl ?_
  refine v_iload_n X 1 dX11_can_1 rfl rfl ?_
  refine v_iload_n X 2 dX11_can_2 rfl rfl ?_
  refine v_iload_n X 3 dX11_can_3 rfl rfl ?_
  refine v_iload X 4 dX11_can_4 rfl ?_
  refine v_callV X [.int (iz a), .int (iz b), .int (iz c), .int (iz d)] hRm (c_X11_isOrder _ _ _ hS a b c d ⟨by omega, by omega⟩ ⟨by omega, by omega⟩ ⟨by omega, by omega⟩ ⟨by omega, by omega⟩ hO) (gV bw_42_23 bw_43_0 bw_43_1 bw_1_2 bw_43_2) rfl ddX11_isOrder (by decide) (Std.lt hS rfl) (Std.k hS rfl rfl) ⟨rfl, by decide⟩ (Nat.le_of_ble_eq_true rfl) dX11_can_6 (k_pB (fun b1 => ?_) (fun b1 => ?_))
  · skip
    refine v_if_eq X 24 dX11_can_9 (by decide) ⟨by decide, by decide⟩ (fun q => absurd q (by decide)) (fun _ => ?_)
    refine v_aload_n X 0 dX11_can_12 rfl rfl ?_
    refine gt_X11_facts X iwX11 (Std.lt hS rfl) (Std.k hS rfl rfl) (List.mem_cons_of_mem _ bw_2_3) dX11_can_13 9 (Std.r hS 3 rfl) ?_
    refine v_iload X 5 dX11_can_16 rfl ?_
    refine v_callV X [.int (iz n)] hRm (c_X1_has _ _ _ hS n ⟨by omega, by omega⟩) (gV bw_31_4 bw_31_5 bw_31_6 bw_2_2 bw_31_7) rfl ddX1_has (by decide) (Std.lt hS rfl) (Std.k hS rfl rfl) ⟨rfl, by decide⟩ (Nat.le_of_ble_eq_true rfl) dX11_can_18 (k_pB (fun b2 => ?_) (fun b2 => ?_))
    · skip
      refine v_if_ne X 26 dX11_can_21 (by decide) ⟨by decide, by decide⟩ (fun _ => ?_) (fun q => absurd (by decide) q)
      refine v_aload_n X 0 dX11_can_26 rfl rfl ?_
      refine v_iload X 5 dX11_can_27 rfl ?_
      refine v_callV X [.int (iz n)] hRm (c_X11_prepare _ _ _ (M := M) hS n (show 0 ≤ n ∧ n ≤ M 9 3 from ⟨by omega, by omega⟩) t ht hR8 hO hz hFc) (gV bw_32_23 bw_33_0 bw_33_1 bw_1_2 bw_33_2) rfl ddX11_prepare (by decide) (Std.lt hS rfl) (Std.k hS rfl rfl) ⟨rfl, by decide⟩ (Nat.le_of_ble_eq_true rfl) dX11_can_29 (k_eV (fun Mp hpr => ?_))
      have hS1 := hS
      have hS := Std_setT hS1 t
      have hOp : ShowOk Mp (mu R 31 7 (some t)) sh N := ShowOk_frB (prep_b hpr) (frR_setT R t) hO
      have hPp := prep_pre hpr hO (fun k k1 k2 => (hFc k k1 (by omega)).1)
      have hXp := prep_txt hpr ht hX
      have g61 : Mp 6 1 = M 6 1 := congrFun (prep_b hpr 6 (by omega)) 1
      have hfB : frB M Mp := prep_b hpr
      have hwa : ∀ a : Int, 0 ≤ a → a < Mp 6 1 → cWo M R a = cWo Mp (mu R 31 7 (some t)) a := fun a a1 a2 => (by rw [g61] at a2; exact (congrFun (hfB (aId R a) (by have := (actId hO a1 a2).2.1; omega)) 2).symm)
      obtain ⟨RES, hRES⟩ : ∃ X, X = flyL (cpl Mp (mu R 31 7 (some t)) t) [a, b, c, d] [] := ⟨_, rfl⟩
      refine v_aload_n X 0 dX11_can_32 rfl rfl ?_
      refine gt_X11_planner X iwX11 (Std.lt hS rfl) (Std.k hS rfl rfl) (List.mem_cons_of_mem _ bw_2_16) dX11_can_33 31 (Std.r hS 5 rfl) ?_
      refine v_iload_n X 1 dX11_can_36 rfl rfl ?_
      refine v_callV X [.int (iz a)] hRm (c_X4_fly _ _ _ (M := Mp) hS a (show 0 ≤ a ∧ a < Mp 6 1 by rw [congrFun (((frC_refl Mp)).1 6 (by omega)) 1, g61]; omega) (cWo M R) [] t ht (mu_s _ _ _ _) (cTxt_fr (frC_refl Mp) ht hXp) (ShowOk_fr (frC_refl Mp) hOp) (hpr.2.2.2.2.1 _) hpr.2.2.2.2.2.1 trivial rfl hwa (plPre_fr (frC_refl Mp) hPp)) (gV bw_43_10 bw_35_3 bw_35_4 bw_2_15 bw_35_5) rfl ddX4_fly (by decide) (Std.lt hS rfl) (Std.k hS rfl rfl) ⟨rfl, by decide⟩ (Nat.le_of_ble_eq_true rfl) dX11_can_37 (k_eB (fun M4 e5 => ?_) (fun M4 e5 => ?_))
      · skip
        obtain ⟨y6f, y6a, y6b, y6c, y6d, y6e, _⟩ := e5
        rw [congrFun (((frC_refl Mp)).1 6 (by omega)) 1, g61] at y6b
        rw [cpl_fr (frC_refl Mp) hOp ht (by rw [g61]; exact trivial) (by omega) (by rw [g61]; omega)] at y6a
        have y6z := cpl_fa y6a
        refine v_if_eq X 97 dX11_can_40 (by decide) ⟨by decide, by decide⟩ (fun q => absurd q (by decide)) (fun _ => ?_)
        have hs0 : flyL (cpl Mp (mu R 31 7 (some t)) t) [b, c, d] (y6f :: []) = RES := by rw [hRES, flyL_yes (by omega) y6a]
        have hn0 : ∀ j : Int, inF (y6f :: []) j = true → j = a := fun j z => by have z : (decide (fa y6f = j) || false) = true := z; rw [Bool.or_false, decide_eq_true_iff] at z; omega
        have hj7 : ∀ (M1 : MI) (p1 : List Fl), (frC Mp M1) → (rT (cWo M R) M1 p1) → (rK M1 p1) → (okF (M 6 1) p1) → (∀ j : Int, inF p1 j = true → j = a ∨ (b ≠ -1 ∧ j = b)) → (flyL (cpl Mp (mu R 31 7 (some t)) t) [c, d] p1 = RES) →  V K 7 0 0 N sh ad M1 L (mu R 31 7 (some t)) [(0, .ref (ad 0)), (1, .int (iz a)), (2, .int (iz b)), (3, .int (iz c)), (4, .int (iz d)), (5, .int (iz n))] [] 59 := by
          intro M1 p1 hfr1 hT1 hK1 ho1 hn1 hs1
          have hj8 : ∀ (M2 : MI) (p2 : List Fl), (frC Mp M2) → (rT (cWo M R) M2 p2) → (rK M2 p2) → (okF (M 6 1) p2) → (∀ j : Int, inF p2 j = true → j = a ∨ (b ≠ -1 ∧ j = b) ∨ (c ≠ -1 ∧ j = c)) → (flyL (cpl Mp (mu R 31 7 (some t)) t) [d] p2 = RES) →  V K 7 0 0 N sh ad M2 L (mu R 31 7 (some t)) [(0, .ref (ad 0)), (1, .int (iz a)), (2, .int (iz b)), (3, .int (iz c)), (4, .int (iz d)), (5, .int (iz n))] [] 75 := by
            intro M2 p2 hfr2 hT2 hK2 ho2 hn2 hs2
            have hj9 : ∀ (M3 : MI) (p3 : List Fl), (frC Mp M3) → (rT (cWo M R) M3 p3) → (rK M3 p3) → (okF (M 6 1) p3) → (∀ j : Int, inF p3 j = true → True) → (flyL (cpl Mp (mu R 31 7 (some t)) t) [] p3 = RES) →  V K 7 0 0 N sh ad M3 L (mu R 31 7 (some t)) [(0, .ref (ad 0)), (1, .int (iz a)), (2, .int (iz b)), (3, .int (iz c)), (4, .int (iz d)), (5, .int (iz n))] [] 93 := by
              intro M3 p3 hfr3 hT3 hK3 ho3 hn3 hs3
              refine v_iconst X dX11_can_93 ?_
              refine v_goto X 98 dX11_can_94 (by decide) ?_
              refine v_istore X [(6, .int (iz 1)), (0, .ref (ad 0)), (1, .int (iz a)), (2, .int (iz b)), (3, .int (iz c)), (4, .int (iz d)), (5, .int (iz n))] dX11_can_98 (by decide) rfl ?_
              refine v_iload X 0 dX11_can_100 rfl ?_
              refine v_if_eq X 118 dX11_can_102 (by decide) ⟨by decide, by decide⟩ (fun q => absurd q (by decide)) (fun _ => ?_)
              refine v_aload_n X 1 dX11_can_105 rfl rfl ?_
              refine gt_X11_planner X iwX11 (Std.lt hS rfl) (Std.k hS rfl rfl) (List.mem_cons_of_mem _ bw_2_16) dX11_can_106 31 (Std.r hS 5 rfl) ?_
              refine gt_X4_trial X iwX4 (Std.lt hS rfl) (Std.k hS rfl rfl) (List.mem_cons_of_mem _ bw_42_21) dX11_can_109 41 (Std.r hS 6 rfl) ?_
              refine gt_X3_worth X iwX3 (Std.lt hS rfl) (Std.k hS rfl rfl) (List.mem_cons_of_mem _ bw_42_22) dX11_can_112 (M3 41 6) rfl (fun hr10 => ?_)
              refine v_goto X 120 dX11_can_115 (by decide) ?_
              refine hret _ _ _ _ _ _ _ _ _ _ _ (some (.int (iz (M3 41 6)))) dX11_can_120 ⟨rfl, _, rfl⟩ (by decide) (by decide) (fun hmok => ?_)
              refine ⟨rfl, rfl, rfl, rfl, (M3 41 6), rfl, by assumption, Or.inl ⟨⟨by omega, by omega⟩, rfl, Mp, hpr, ?_, hfr3⟩⟩
              unfold canC
              rw [← hRES, ← hs3]
              exact hT3.1.2
            refine v_iload X 4 dX11_can_75 rfl ?_
            refine v_iconst X dX11_can_77 ?_
            refine v_icmp_eq X 93 dX11_can_78 (by decide) ⟨by omega, by omega⟩ ⟨by decide, by decide⟩ (fun u11 => ?_) (fun u11 => ?_)
            · skip
              exact hj9 M2 p2 (hfr2) (hT2) (hK2) (ho2) (fun _ _ => trivial) (by rw [← hs2]; exact (flyL_skip (by omega)).symm) 
            · skip
              refine v_aload_n X 0 dX11_can_81 rfl rfl ?_
              refine gt_X11_planner X iwX11 (Std.lt hS rfl) (Std.k hS rfl rfl) (List.mem_cons_of_mem _ bw_2_16) dX11_can_82 31 (Std.r hS 5 rfl) ?_
              refine v_iload X 4 dX11_can_85 rfl ?_
              refine v_callV X [.int (iz d)] hRm (c_X4_fly _ _ _ (M := M2) hS d (show 0 ≤ d ∧ d < M2 6 1 by rw [congrFun ((hfr2).1 6 (by omega)) 1, g61]; omega) (cWo M R) p2 t ht (mu_s _ _ _ _) (cTxt_fr hfr2 ht hXp) (ShowOk_fr hfr2 hOp) hT2 hK2 (by rw [congrFun ((hfr2).1 6 (by omega)) 1, g61]; exact ho2) (Bool.eq_false_iff.mpr (fun z => (by have z := hn2 _ z; omega))) (fun k k1 k2 => by rw [congrFun ((hfr2).1 6 (by omega)) 1] at k2; rw [hwa k k1 k2]; unfold cWo; rw [row_fr hfr2 hOp k1 k2]) (plPre_fr hfr2 hPp)) (gV bw_43_10 bw_35_3 bw_35_4 bw_2_15 bw_35_5) rfl ddX4_fly (by decide) (Std.lt hS rfl) (Std.k hS rfl rfl) ⟨rfl, by decide⟩ (Nat.le_of_ble_eq_true rfl) dX11_can_87 (k_eB (fun M12 e13 => ?_) (fun M12 e13 => ?_))
              · skip
                obtain ⟨y14f, y14a, y14b, y14c, y14d, y14e, _⟩ := e13
                rw [congrFun ((hfr2).1 6 (by omega)) 1, g61] at y14b
                rw [cpl_fr hfr2 hOp ht (by rw [g61]; exact ho2) (by omega) (by rw [g61]; omega)] at y14a
                have y14z := cpl_fa y14a
                refine v_if_eq X 97 dX11_can_90 (by decide) ⟨by decide, by decide⟩ (fun q => absurd q (by decide)) (fun _ => ?_)
                exact hj9 M12 (y14f :: p2) ((frC_trans hfr2 y14e)) (y14c) (y14d) (y14b) (fun _ _ => trivial) (by rw [← hs2]; exact (flyL_yes (by omega) y14a).symm) 
              · skip
                obtain ⟨y15a, _, _, y15d, _⟩ := e13
                rw [cpl_fr hfr2 hOp ht (by rw [g61]; exact ho2) (by omega) (by rw [g61]; omega)] at y15a
                refine v_if_eq X 97 dX11_can_90 (by decide) ⟨by decide, by decide⟩ (fun _ => ?_) (fun q => absurd (by decide) q)
                refine v_iconst X dX11_can_97 ?_
                refine v_istore X [(6, .int (iz 0)), (0, .ref (ad 0)), (1, .int (iz a)), (2, .int (iz b)), (3, .int (iz c)), (4, .int (iz d)), (5, .int (iz n))] dX11_can_98 (by decide) rfl ?_
                refine v_iload X 0 dX11_can_100 rfl ?_
                refine v_if_eq X 118 dX11_can_102 (by decide) ⟨by decide, by decide⟩ (fun _ => ?_) (fun q => absurd (by decide) q)
                refine v_bipush X dX11_can_118 (by decide) ?_
                refine hret _ _ _ _ _ _ _ _ _ _ _ (some (.int (iz (-2)))) dX11_can_120 ⟨rfl, _, rfl⟩ (by decide) (by decide) (fun hmok => ?_)
                refine ⟨rfl, rfl, rfl, rfl, -2, rfl, by decide, Or.inl ⟨⟨by omega, by omega⟩, rfl, Mp, hpr, ?_, (frC_trans hfr2 y15d)⟩⟩
                unfold canC
                rw [← hRES, ← hs2, flyL_no (by omega) y15a]
          refine v_iload_n X 3 dX11_can_59 rfl rfl ?_
          refine v_iconst X dX11_can_60 ?_
          refine v_icmp_eq X 75 dX11_can_61 (by decide) ⟨by omega, by omega⟩ ⟨by decide, by decide⟩ (fun u16 => ?_) (fun u16 => ?_)
          · skip
            exact hj8 M1 p1 (hfr1) (hT1) (hK1) (ho1) (fun j z => (by have z := hn1 j z; omega)) (by rw [← hs1]; exact (flyL_skip (by omega)).symm) 
          · skip
            refine v_aload_n X 0 dX11_can_64 rfl rfl ?_
            refine gt_X11_planner X iwX11 (Std.lt hS rfl) (Std.k hS rfl rfl) (List.mem_cons_of_mem _ bw_2_16) dX11_can_65 31 (Std.r hS 5 rfl) ?_
            refine v_iload_n X 3 dX11_can_68 rfl rfl ?_
            refine v_callV X [.int (iz c)] hRm (c_X4_fly _ _ _ (M := M1) hS c (show 0 ≤ c ∧ c < M1 6 1 by rw [congrFun ((hfr1).1 6 (by omega)) 1, g61]; omega) (cWo M R) p1 t ht (mu_s _ _ _ _) (cTxt_fr hfr1 ht hXp) (ShowOk_fr hfr1 hOp) hT1 hK1 (by rw [congrFun ((hfr1).1 6 (by omega)) 1, g61]; exact ho1) (Bool.eq_false_iff.mpr (fun z => (by have z := hn1 _ z; omega))) (fun k k1 k2 => by rw [congrFun ((hfr1).1 6 (by omega)) 1] at k2; rw [hwa k k1 k2]; unfold cWo; rw [row_fr hfr1 hOp k1 k2]) (plPre_fr hfr1 hPp)) (gV bw_43_10 bw_35_3 bw_35_4 bw_2_15 bw_35_5) rfl ddX4_fly (by decide) (Std.lt hS rfl) (Std.k hS rfl rfl) ⟨rfl, by decide⟩ (Nat.le_of_ble_eq_true rfl) dX11_can_69 (k_eB (fun M17 e18 => ?_) (fun M17 e18 => ?_))
            · skip
              obtain ⟨y19f, y19a, y19b, y19c, y19d, y19e, _⟩ := e18
              rw [congrFun ((hfr1).1 6 (by omega)) 1, g61] at y19b
              rw [cpl_fr hfr1 hOp ht (by rw [g61]; exact ho1) (by omega) (by rw [g61]; omega)] at y19a
              have y19z := cpl_fa y19a
              refine v_if_eq X 97 dX11_can_72 (by decide) ⟨by decide, by decide⟩ (fun q => absurd q (by decide)) (fun _ => ?_)
              exact hj8 M17 (y19f :: p1) ((frC_trans hfr1 y19e)) (y19c) (y19d) (y19b) (fun j z => (by have z : (decide (fa y19f = j) || inF p1 j) = true := z; rw [Bool.or_eq_true, decide_eq_true_iff] at z; rcases z with z | z; (right; right; omega); (have z := hn1 j z; omega))) (by rw [← hs1]; exact (flyL_yes (by omega) y19a).symm) 
            · skip
              obtain ⟨y20a, _, _, y20d, _⟩ := e18
              rw [cpl_fr hfr1 hOp ht (by rw [g61]; exact ho1) (by omega) (by rw [g61]; omega)] at y20a
              refine v_if_eq X 97 dX11_can_72 (by decide) ⟨by decide, by decide⟩ (fun _ => ?_) (fun q => absurd (by decide) q)
              refine v_iconst X dX11_can_97 ?_
              refine v_istore X [(6, .int (iz 0)), (0, .ref (ad 0)), (1, .int (iz a)), (2, .int (iz b)), (3, .int (iz c)), (4, .int (iz d)), (5, .int (iz n))] dX11_can_98 (by decide) rfl ?_
              refine v_iload X 0 dX11_can_100 rfl ?_
              refine v_if_eq X 118 dX11_can_102 (by decide) ⟨by decide, by decide⟩ (fun _ => ?_) (fun q => absurd (by decide) q)
              refine v_bipush X dX11_can_118 (by decide) ?_
              refine hret _ _ _ _ _ _ _ _ _ _ _ (some (.int (iz (-2)))) dX11_can_120 ⟨rfl, _, rfl⟩ (by decide) (by decide) (fun hmok => ?_)
              refine ⟨rfl, rfl, rfl, rfl, -2, rfl, by decide, Or.inl ⟨⟨by omega, by omega⟩, rfl, Mp, hpr, ?_, (frC_trans hfr1 y20d)⟩⟩
              unfold canC
              rw [← hRES, ← hs1, flyL_no (by omega) y20a]
        refine v_iload_n X 2 dX11_can_43 rfl rfl ?_
        refine v_iconst X dX11_can_44 ?_
        refine v_icmp_eq X 59 dX11_can_45 (by decide) ⟨by omega, by omega⟩ ⟨by decide, by decide⟩ (fun u21 => ?_) (fun u21 => ?_)
        · skip
          exact hj7 M4 (y6f :: []) ((frC_trans (frC_refl Mp) y6e)) (y6c) (y6d) (y6b) (fun j z => (by have z := hn0 j z; omega)) (by rw [← hs0]; exact (flyL_skip (by omega)).symm) 
        · skip
          refine v_aload_n X 0 dX11_can_48 rfl rfl ?_
          refine gt_X11_planner X iwX11 (Std.lt hS rfl) (Std.k hS rfl rfl) (List.mem_cons_of_mem _ bw_2_16) dX11_can_49 31 (Std.r hS 5 rfl) ?_
          refine v_iload_n X 2 dX11_can_52 rfl rfl ?_
          refine v_callV X [.int (iz b)] hRm (c_X4_fly _ _ _ (M := M4) hS b (show 0 ≤ b ∧ b < M4 6 1 by rw [congrFun (((frC_trans (frC_refl Mp) y6e)).1 6 (by omega)) 1, g61]; omega) (cWo M R) (y6f :: []) t ht (mu_s _ _ _ _) (cTxt_fr (frC_trans (frC_refl Mp) y6e) ht hXp) (ShowOk_fr (frC_trans (frC_refl Mp) y6e) hOp) y6c y6d (by rw [congrFun (((frC_trans (frC_refl Mp) y6e)).1 6 (by omega)) 1, g61]; exact y6b) (Bool.eq_false_iff.mpr (fun z => (by have z := hn0 _ z; omega))) (fun k k1 k2 => by rw [congrFun (((frC_trans (frC_refl Mp) y6e)).1 6 (by omega)) 1] at k2; rw [hwa k k1 k2]; unfold cWo; rw [row_fr (frC_trans (frC_refl Mp) y6e) hOp k1 k2]) (plPre_fr (frC_trans (frC_refl Mp) y6e) hPp)) (gV bw_43_10 bw_35_3 bw_35_4 bw_2_15 bw_35_5) rfl ddX4_fly (by decide) (Std.lt hS rfl) (Std.k hS rfl rfl) ⟨rfl, by decide⟩ (Nat.le_of_ble_eq_true rfl) dX11_can_53 (k_eB (fun M22 e23 => ?_) (fun M22 e23 => ?_))
          · skip
            obtain ⟨y24f, y24a, y24b, y24c, y24d, y24e, _⟩ := e23
            rw [congrFun (((frC_trans (frC_refl Mp) y6e)).1 6 (by omega)) 1, g61] at y24b
            rw [cpl_fr (frC_trans (frC_refl Mp) y6e) hOp ht (by rw [g61]; exact y6b) (by omega) (by rw [g61]; omega)] at y24a
            have y24z := cpl_fa y24a
            refine v_if_eq X 97 dX11_can_56 (by decide) ⟨by decide, by decide⟩ (fun q => absurd q (by decide)) (fun _ => ?_)
            exact hj7 M22 (y24f :: (y6f :: [])) ((frC_trans (frC_trans (frC_refl Mp) y6e) y24e)) (y24c) (y24d) (y24b) (fun j z => (by have z : (decide (fa y24f = j) || inF (y6f :: []) j) = true := z; rw [Bool.or_eq_true, decide_eq_true_iff] at z; rcases z with z | z; (right; omega); (have z := hn0 j z; omega))) (by rw [← hs0]; exact (flyL_yes (by omega) y24a).symm) 
          · skip
            obtain ⟨y25a, _, _, y25d, _⟩ := e23
            rw [cpl_fr (frC_trans (frC_refl Mp) y6e) hOp ht (by rw [g61]; exact y6b) (by omega) (by rw [g61]; omega)] at y25a
            refine v_if_eq X 97 dX11_can_56 (by decide) ⟨by decide, by decide⟩ (fun _ => ?_) (fun q => absurd (by decide) q)
            refine v_iconst X dX11_can_97 ?_
            refine v_istore X [(6, .int (iz 0)), (0, .ref (ad 0)), (1, .int (iz a)), (2, .int (iz b)), (3, .int (iz c)), (4, .int (iz d)), (5, .int (iz n))] dX11_can_98 (by decide) rfl ?_
            refine v_iload X 0 dX11_can_100 rfl ?_
            refine v_if_eq X 118 dX11_can_102 (by decide) ⟨by decide, by decide⟩ (fun _ => ?_) (fun q => absurd (by decide) q)
            refine v_bipush X dX11_can_118 (by decide) ?_
            refine hret _ _ _ _ _ _ _ _ _ _ _ (some (.int (iz (-2)))) dX11_can_120 ⟨rfl, _, rfl⟩ (by decide) (by decide) (fun hmok => ?_)
            refine ⟨rfl, rfl, rfl, rfl, -2, rfl, by decide, Or.inl ⟨⟨by omega, by omega⟩, rfl, Mp, hpr, ?_, (frC_trans (frC_trans (frC_refl Mp) y6e) y25d)⟩⟩
            unfold canC
            rw [← hRES, ← hs0, flyL_no (by omega) y25a]
      · skip
        obtain ⟨y26a, _, _, y26d, _⟩ := e5
        rw [cpl_fr (frC_refl Mp) hOp ht (by rw [g61]; exact trivial) (by omega) (by rw [g61]; omega)] at y26a
        refine v_if_eq X 97 dX11_can_40 (by decide) ⟨by decide, by decide⟩ (fun _ => ?_) (fun q => absurd (by decide) q)
        refine v_iconst X dX11_can_97 ?_
        refine v_istore X [(6, .int (iz 0)), (0, .ref (ad 0)), (1, .int (iz a)), (2, .int (iz b)), (3, .int (iz c)), (4, .int (iz d)), (5, .int (iz n))] dX11_can_98 (by decide) rfl ?_
        refine v_iload X 0 dX11_can_100 rfl ?_
        refine v_if_eq X 118 dX11_can_102 (by decide) ⟨by decide, by decide⟩ (fun _ => ?_) (fun q => absurd (by decide) q)
        refine v_bipush X dX11_can_118 (by decide) ?_
        refine hret _ _ _ _ _ _ _ _ _ _ _ (some (.int (iz (-2)))) dX11_can_120 ⟨rfl, _, rfl⟩ (by decide) (by decide) (fun hmok => ?_)
        refine ⟨rfl, rfl, rfl, rfl, -2, rfl, by decide, Or.inl ⟨⟨by omega, by omega⟩, rfl, Mp, hpr, ?_, (frC_trans (frC_refl Mp) y26d)⟩⟩
        unfold canC
        rw [show flyL (cpl Mp (mu R 31 7 (some t)) t) [a, b, c, d] [] = none from flyL_no (by omega) y26a]
    · skip
      refine v_if_ne X 26 dX11_can_21 (by decide) ⟨by decide, by decide⟩ (fun q => absurd q (by decide)) (fun _ => ?_)
      refine v_iconst X dX11_can_24 ?_
      refine hret _ _ _ _ _ _ _ _ _ _ _ (some (.int (iz (-1)))) dX11_can_25 ⟨rfl, _, rfl⟩ (by decide) (by decide) (fun hmok => ?_)
      exact ⟨rfl, rfl, rfl, rfl, -1, rfl, by decide, Or.inr ⟨by omega, rfl, rfl, rfl⟩⟩
  · skip
    refine v_if_eq X 24 dX11_can_9 (by decide) ⟨by decide, by decide⟩ (fun _ => ?_) (fun q => absurd (by decide) q)
    refine v_iconst X dX11_can_24 ?_
    refine hret _ _ _ _ _ _ _ _ _ _ _ (some (.int (iz (-1)))) dX11_can_25 ⟨rfl, _, rfl⟩ (by decide) (by decide) (fun hmok => ?_)
    exact ⟨rfl, rfl, rfl, rfl, -1, rfl, by decide, Or.inr ⟨by omega, rfl, rfl, rfl⟩⟩

