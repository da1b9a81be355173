/-! MAKES -/
def mActs (M : MI) : Prop := ∀ a : Int, 0 ≤ a → a < M 53 37 → ((1 ≤ M 79 a ∧ M 79 a ≤ 20) ∧ (1 ≤ M 80 a ∧ M 80 a ≤ 20) ∧ (1 ≤ M 81 a ∧ M 81 a ≤ 120)) ∧ (0 ≤ M 78 a ∧ M 78 a ≤ 100)
def mK (M : MI) (n : Int) : MI := mrow (mrow (mrow M 91 (bsRow (M 88) (M 89) (M 90) n.toNat 240 (M 91))) 92 (shRow (M 88) (M 89) (M 90) n.toNat (M 92))) 93 (rdRow (M 88) (M 89) (M 90) n.toNat (M 93))
theorem rdAt_in {S A B : Int → Int} (z : Int) : ∀ n : Nat, (∀ k : Int, 0 ≤ k → k < n → FactOk (S k) (A k) (B k)) → 0 ≤ rdAt S A B z n ∧ rdAt S A B z n < 240
  | 0, _ => ⟨by unfold rdAt; decide, by unfold rdAt; decide⟩
  | n + 1, h => by
    have ih := rdAt_in (S := S) (A := A) (B := B) z n (fun k q1 q2 => h k q1 (by omega))
    have hk := h (n : Int) (by omega) (by omega)
    unfold FactOk at hk
    rw [rdAt_s]
    split
    · omega
    · exact ih
theorem mK_pre {M : MI} {n : Int} (hn : 0 ≤ n) (hF : ∀ k : Int, 0 ≤ k → k < n → FactOk (M 88 k) (M 89 k) (M 90 k)) (hC : mActs M) (hA : M 53 37 ≤ 6) {a : Int} (h1 : 0 ≤ a) (h2 : a < M 53 37) : mPreA (mK M n) a := by
  have hF' : ∀ k : Int, 0 ≤ k → k < (n.toNat : Int) → FactOk (M 88 k) (M 89 k) (M 90 k) := fun k q1 q2 => hF k q1 (by omega)
  refine ⟨⟨h1, h2⟩, (hC a h1 h2).1, ?_, fun b b1 b2 => ?_⟩
  · show 0 ≤ rdRow (M 88) (M 89) (M 90) n.toNat (M 93) a ∧ rdRow (M 88) (M 89) (M 90) n.toNat (M 93) a < 240
    unfold rdRow
    rw [if_pos (by omega)]
    exact rdAt_in a n.toNat hF'
  · show 0 ≤ bsRow (M 88) (M 89) (M 90) n.toNat 240 (M 91) b ∧ bsRow (M 88) (M 89) (M 90) n.toNat 240 (M 91) b ≤ 9
    unfold bsRow
    rw [if_pos (by omega)]
    exact bsAt_in hF' b.toNat
def FINm (M : MI) (n e : Int) : List Fl := mS (mpl (mK M n)) (M 78) (gM e M) (M 53 37).toNat 7 [] []
def fe (f : Fl) : Int := fg f + fm f
def lkF (s : Fl → Int) : List Fl → Int → Int
  | [], _ => -1
  | f :: p, a => if fa f = a then s f else lkF s p a
def rpO (r : Int → Int) : List Fl → Prop
  | [] => True
  | f :: p => r (p.length : Int) = fa f ∧ rpO r p
theorem rpO_congr {r r' : Int → Int} : ∀ {p : List Fl}, rpO r p → (∀ k : Int, 0 ≤ k → k < (p.length : Int) → r' k = r k) → rpO r' p
  | [], _, _ => trivial
  | f :: p, h, q => ⟨(q (p.length : Int) (by omega) (by simp only [List.length_cons]; omega)).trans h.1, rpO_congr h.2 (fun k q1 q2 => q k q1 (by simp only [List.length_cons]; omega))⟩
def rpP (M : MI) (q : List Fl) : Prop := (M 53 68 = 1 ∧ M 53 69 = (q.length : Int)) ∧ rpO (M 101) q ∧ (∀ a : Int, 0 ≤ a → a < 6 → M 103 a = lkF fg q a) ∧ ∀ a : Int, 0 ≤ a → a < 6 → inF q a = true → M 102 a = lkF fo q a ∧ M 104 a = lkF fe q a ∧ M 105 a = lkF fn q a
theorem rpG_sfx {r t b e l : Int → Int} : ∀ {s p : List Fl}, rpG r t b e l (s ++ p) → rpG r t b e l p
  | [], _, h => h
  | _ :: s, _, h => rpG_sfx (s := s) h.2
theorem okF_sfx {A : Int} : ∀ {s p : List Fl}, okF A (s ++ p) → okF A p
  | [], _, h => h
  | _ :: s, _, h => okF_sfx (s := s) h.2.2.2.2.2
theorem sfx_more {q s p : List Fl} (h : q = s ++ p) (hl : p.length < q.length) : ∃ (s' : List Fl) (f : Fl), q = s' ++ f :: p := by
  rcases List.eq_nil_or_concat s with e | ⟨s', f, e⟩
  · rw [e] at h; rw [h] at hl; exact absurd hl (by simp)
  · refine ⟨s', f, ?_⟩
    rw [h, e]; simp
theorem sfx_all {q s p : List Fl} (h : q = s ++ p) (hl : p.length = q.length) : q = p := by
  rw [h, List.length_append] at hl
  rw [h, List.eq_nil_of_length_eq_zero (by omega : s.length = 0)]; rfl
theorem lkF_no {s : Fl → Int} : ∀ {p : List Fl} {a : Int}, inF p a = false → lkF s p a = -1
  | [], _, _ => rfl
  | f :: p, a, h => by
    have h : (decide (fa f = a) || inF p a) = false := h
    rw [Bool.or_eq_false_iff] at h
    show (if fa f = a then s f else lkF s p a) = -1
    rw [if_neg (of_decide_eq_false h.1), lkF_no h.2]
theorem rpB_fr {w g : Int → Int} {M M' : MI} {q : List Fl} (h : rpB w g M q) (h1 : ∀ i : Nat, 106 ≤ i → i ≤ 110 → M' i = M i) (h2 : ∀ z : Int, 75 ≤ z → z ≤ 78 → M' 53 z = M 53 z) : rpB w g M' q := by
  unfold rpB at h ⊢
  rw [h1 106 (by decide) (by decide), h1 107 (by decide) (by decide), h1 108 (by decide) (by decide), h1 109 (by decide) (by decide), h1 110 (by decide) (by decide), h2 75 (by decide) (by decide), h2 76 (by decide) (by decide), h2 77 (by decide) (by decide), h2 78 (by decide) (by decide)]
  exact h
theorem rpN_fr {M M' : MI} {p : List Fl} (h : rpN M p) (h1 : ∀ i : Nat, 96 ≤ i → i ≤ 100 → M' i = M i) (h2 : M' 53 62 = M 53 62) : rpN M' p := by
  unfold rpN rpM at h ⊢
  rw [h1 96 (by decide) (by decide), h1 97 (by decide) (by decide), h1 98 (by decide) (by decide), h1 99 (by decide) (by decide), h1 100 (by decide) (by decide), h2]
  exact h

-- makes
set_option maxHeartbeats 4000000 in
set_option maxRecDepth 100000 in
theorem c_X12_makes (l : Launch) (D : va_G) (cy : Nat → ClassId) {N : Nat} {sh : MS} {ad : Nat → Nat} {M L : MI} {R : MR} (hS : Std N sh R) (n : Int) (hn : 0 ≤ n ∧ n ≤ M 53 53) (e : Int) (he : e = 0 ∨ e = 1) (hB : mBnd M) (hT : mTxt M) (hF : ∀ k : Int, 0 ≤ k → k < M 53 53 → FactOk (M 88 k) (M 89 k) (M 90 k)) (hC : mActs M) : Ctr l D cy yX12_makes wsX12_makes ({ frames := 5, cells := 0, slots := 0, locals := 124 } : Room) N sh ad M L R [.ref (ad 53), .int (iz n), .int (iz e)] (eI N sh ad L R (fun r M' => r = wL (M 78) (FINm M n e) ∧ rpP M' (FINm M n e) ∧ okF (M 53 37) (FINm M n e) ∧ (∀ i : Nat, i ≠ 53 → ¬ (91 ≤ i ∧ i ≤ 111) → M' i = M i) ∧ ∀ z : Int, ¬ (z = 62 ∨ z = 68 ∨ z = 69 ∨ (75 ≤ z ∧ z ≤ 78)) → M' 53 z = M 53 z)) := by
  refine Ctr.ofI (by decide) rfl (Nat.le_of_ble_eq_true rfl) ?_
  intro K hKl hKd hRm hnm X hret
  have X : VX K cX12_makes 7 wsX12_makes RX12 := X
  show V K 7 0 0 N sh ad M L R [(0, .ref (ad 53)), (1, .int (iz n)), (2, .int (iz e))] [] 0
  have b1 := hB.1
  have b5 := hB.2.2.2.2.1
  refine v_aload_n X 0 dX12_makes_0 rfl rfl ?_
  refine v_iload_n X 1 dX12_makes_1 rfl rfl ?_
  refine v_callV X [.int (iz n)] hRm (c_X12_knows _ _ _ hS n (by omega) (fun k q1 q2 => hF k q1 (by omega))) (gV bw_32_14 bw_32_15 bw_32_16 bw_1_5 bw_32_17) rfl ddX12_knows (by decide) (Std.lt hS rfl) (Std.k hS rfl rfl) ⟨rfl, by decide⟩ (Nat.le_of_ble_eq_true rfl) dX12_makes_2 (k_eV (fun M2 e1 => ?_))
  replace e1 : M2 = (mrow (mrow (mrow M 91 (bsRow (M 88) (M 89) (M 90) n.toNat 240 (M 91))) 92 (shRow (M 88) (M 89) (M 90) n.toNat (M 92))) 93 (rdRow (M 88) (M 89) (M 90) n.toNat (M 93))) := e1
  subst e1
  obtain ⟨M0, hM0⟩ : ∃ X, X = mK M n := ⟨_, rfl⟩
  refine v_mem (M' := M0) (by rw [hM0]; rfl) rfl rfl ?_
  have hB0 : mBnd M0 := by rw [hM0]; exact hB
  have hT0 : mTxt M0 := by rw [hM0]; exact hT
  have e37 : M0 53 37 = M 53 37 := by rw [hM0]; rfl
  have e78 : M0 78 = M 78 := by rw [hM0]; rfl
  have hA0 : ∀ a : Int, 0 ≤ a → a < M0 53 37 → mPreA M0 a := fun a q1 q2 => by rw [hM0]; exact mK_pre hn.1 (fun k k1 k2 => hF k k1 (by omega)) hC (by omega) q1 (by omega)
  have hW0 : ∀ a : Int, 0 ≤ a → a < M0 53 37 → 0 ≤ M0 78 a ∧ M0 78 a ≤ 100 := fun a q1 q2 => by rw [e78]; exact (hC a q1 (by omega)).2
  obtain ⟨FIN, hFIN⟩ : ∃ X, X = mS (mpl M0) (M0 78) (gM e M0) (M0 53 37).toNat 7 [] [] := ⟨_, rfl⟩
  refine v_aload_n X 0 dX12_makes_5 rfl rfl ?_
  refine v_iconst X dX12_makes_6 ?_
  refine pt_X12_placed X iwX12 (Std.lt hS rfl) (Std.k hS rfl rfl) (List.mem_cons_of_mem _ bw_38_23) ⟨by decide, by decide⟩ dX12_makes_7 ?_
  refine v_aload_n X 0 dX12_makes_10 rfl rfl ?_
  refine v_iconst X dX12_makes_11 ?_
  refine pt_X12_bestMany X iwX12 (Std.lt hS rfl) (Std.k hS rfl rfl) (List.mem_cons_of_mem _ bw_39_0) ⟨by decide, by decide⟩ dX12_makes_12 ?_
  refine v_aload_n X 0 dX12_makes_15 rfl rfl ?_
  refine v_iload_n X 2 dX12_makes_16 rfl rfl ?_
  refine v_callV X [.int (iz e)] hRm (c_X12_looks _ _ _ hS e he [] ⟨rfl, trivial⟩ trivial (show 0 ≤ M0 53 37 ∧ M0 53 37 ≤ 6 by omega) hW0) (gV bw_39_4 bw_39_5 bw_39_6 bw_1_5 bw_39_7) rfl ddX12_looks (by decide) (Std.lt hS rfl) (Std.k hS rfl rfl) ⟨rfl, by decide⟩ (Nat.le_of_ble_eq_true rfl) dX12_makes_17 (k_eV (fun M4 e3 => ?_))
  obtain ⟨k1, k2, k3, _⟩ := e3
  have hq0 : rpB (M0 78) (gM e M0) M4 [] := k3 rfl
  have hf0 : frM M0 M4 := ⟨fun i i1 i2 i3 => (k1 i i1 (by omega)).trans (by rw [mu_i _ _ _ i1, mu_i _ _ _ i1]), fun z z1 z2 => (k2 z (by omega)).trans (by rw [mu_z _ _ _ (by omega), mu_z _ _ _ (by omega)]), fun z hz => congrFun (k1 94 (by decide) (by decide)) z⟩
  have h620 : M4 53 62 = 0 := k2 62 (by decide)
  refine v_aload_n X 0 dX12_makes_20 rfl rfl ?_
  refine gt_X12_tried X iwX12 (Std.lt hS rfl) (Std.k hS rfl rfl) (List.mem_cons_of_mem _ bw_10_1) dX12_makes_21 111 (Std.r hS 84 rfl) ?_
  refine v_iconst X dX12_makes_24 ?_
  refine v_iconst X dX12_makes_25 ?_
  refine v_iast X (Std.lt hS rfl) (Std.at hS rfl rfl) (by omega) (by omega) ⟨by decide, by decide⟩ dX12_makes_26 ?_
  refine v_iconst X dX12_makes_27 ?_
  refine v_istore_n X [(3, .int (iz 0)), (0, .ref (ad 53)), (1, .int (iz n)), (2, .int (iz e))] dX12_makes_28 rfl (by decide) rfl ?_
  have hl5 : ∀ (n7 : Nat) (Mx : MI) (x : Int) (p : List Fl) (q : List Fl), (frM M0 Mx) → (okF (M0 53 37) p) → (okF (M0 53 37) q) → (rpB (M0 78) (gM e M0) Mx q) → ((x = (p.length : Int) ∧ rpN Mx p ∧ (∀ k : Int, 0 ≤ k → k ≤ (p.length : Int) → 0 ≤ Mx 111 k ∧ Mx 111 k ≤ M0 53 37) ∧ mR (mpl M0) (M0 78) (gM e M0) (M0 53 37).toNat (Mx 111) p q = FIN) ∨ (x = -1 ∧ q = FIN)) → (if x < 0 then 0 else mz (M0 53 37).toNat (Mx 111) p) < n7 → V K 7 0 0 N sh ad Mx L R [(0, .ref (ad 53)), (1, .int (iz n)), (2, .int (iz e)), (3, .int (iz x))] [] 29 := by
    intro n7
    induction n7 with
    | zero => intro Mx x p q hfr hok hoq hq hst hn8; exact absurd hn8 (Nat.not_lt_zero _)
    | succ n7 ih6 =>
      intro Mx x p q hfr hok hoq hq hst hn8
      have hle := okF_le (n := 6) (by omega) hok
      have hxr : -1 ≤ x ∧ x ≤ 6 := by rcases hst with h | h <;> omega
      have g37 := hfr.2.1 37 (by decide) (by decide)
      refine v_iload_n X 3 dX12_makes_29 rfl rfl ?_
      refine v_if_lt X 147 dX12_makes_30 (by decide) ⟨by omega, by omega⟩ (fun u9 => ?_) (fun u9 => ?_)
      · skip
        have hqF : q = FIN := by rcases hst with z | z; exact absurd z.1 (by omega); exact z.2
        subst hqF
        have hq1 := hq.1
        refine v_aload_n X 0 dX12_makes_147 rfl rfl ?_
        refine v_iconst X dX12_makes_148 ?_
        refine pt_X12_isPlanned X iwX12 (Std.lt hS rfl) (Std.k hS rfl rfl) (List.mem_cons_of_mem _ bw_39_1) ⟨by decide, by decide⟩ dX12_makes_149 ?_
        refine v_aload_n X 0 dX12_makes_152 rfl rfl ?_
        refine v_aload_n X 0 dX12_makes_153 rfl rfl ?_
        refine gt_X12_bestMany X iwX12 (Std.lt hS rfl) (Std.k hS rfl rfl) (List.mem_cons_of_mem _ bw_39_0) dX12_makes_154 (Mx 53 75) rfl (fun hr10 => ?_)
        refine pt_X12_many X iwX12 (Std.lt hS rfl) (Std.k hS rfl rfl) (List.mem_cons_of_mem _ bw_39_2) ⟨by omega, by omega⟩ dX12_makes_157 ?_
        refine v_iconst X dX12_makes_160 ?_
        refine v_istore X [(4, .int (iz 0)), (0, .ref (ad 53)), (1, .int (iz n)), (2, .int (iz e)), (3, .int (iz x))] dX12_makes_161 (by decide) rfl ?_
        have hl11 : ∀ (n13 : Nat) (i : Int), (0 ≤ i ∧ i ≤ 6) → (6 - i).toNat < n13 → V K 7 0 0 N sh ad (mrow (mu (mu Mx 53 68 1) 53 69 (Mx 53 75)) 103 (filz (Mx 103) i (-1))) L R [(0, .ref (ad 53)), (1, .int (iz n)), (2, .int (iz e)), (3, .int (iz x)), (4, .int (iz i))] [] 163 := by
          intro n13
          induction n13 with
          | zero => intro i hi hn14; exact absurd hn14 (Nat.not_lt_zero _)
          | succ n13 ih12 =>
            intro i hi hn14
            refine v_iload X 4 dX12_makes_163 rfl ?_
            refine v_bipush X dX12_makes_165 (by decide) ?_
            refine v_icmp_ge X 184 dX12_makes_167 (by decide) ⟨by omega, by omega⟩ ⟨by decide, by decide⟩ (fun u15 => ?_) (fun u15 => ?_)
            · skip
              obtain ⟨My, hMy⟩ : ∃ X, X = (mrow (mu (mu Mx 53 68 1) 53 69 (Mx 53 75)) 103 (filz (Mx 103) i (-1))) := ⟨_, rfl⟩
              refine v_mem (M' := My) (by rw [hMy]) rfl rfl ?_
              have m1 : ∀ k : Nat, k ≠ 53 → k ≠ 103 → My k = Mx k := fun k k1 k2 => by rw [hMy, mrow_i _ _ k2, mu_i _ _ _ k1, mu_i _ _ _ k1]
              have m2 : ∀ z : Int, z ≠ 68 → z ≠ 69 → My 53 z = Mx 53 z := fun z z1 z2 => by rw [hMy, mrow_i _ _ (by decide), mu_z _ _ _ z2, mu_z _ _ _ z1]
              have m3 : My 53 68 = 1 ∧ My 53 69 = (q.length : Int) := by rw [hMy]; exact ⟨rfl, hq1.1⟩
              have m4 : ∀ z : Int, 0 ≤ z → z < 6 → My 103 z = -1 := fun z z1 z2 => by rw [hMy]; show filz (Mx 103) i (-1) z = -1; unfold filz; rw [if_pos (by omega)]
              have hlq := okF_le (n := 6) (by omega) hoq
              have hrow : rpG (My 106) (My 107) (My 108) (My 109) (My 110) q := by rw [m1 106 (by decide) (by decide), m1 107 (by decide) (by decide), m1 108 (by decide) (by decide), m1 109 (by decide) (by decide), m1 110 (by decide) (by decide)]; exact hq.2
              refine v_iconst X dX12_makes_184 ?_
              refine v_istore X [(4, .int (iz 0)), (0, .ref (ad 53)), (1, .int (iz n)), (2, .int (iz e)), (3, .int (iz x))] dX12_makes_185 (by decide) rfl ?_
              have hl16 : ∀ (n18 : Nat) (Mz : MI) (i : Int) (p : List Fl), (∃ s : List Fl, q = s ++ p) → (i = (p.length : Int)) → (i ≤ (q.length : Int)) → (∀ k : Nat, ¬ (101 ≤ k ∧ k ≤ 105) → Mz k = My k) → (rpO (Mz 101) p) → (∀ a : Int, 0 ≤ a → a < 6 → Mz 103 a = lkF fg p a) → (∀ a : Int, 0 ≤ a → a < 6 → inF p a = true → Mz 102 a = lkF fo p a ∧ Mz 104 a = lkF fe p a ∧ Mz 105 a = lkF fn p a) → (6 - i).toNat < n18 → V K 7 0 0 N sh ad Mz L R [(0, .ref (ad 53)), (1, .int (iz n)), (2, .int (iz e)), (3, .int (iz x)), (4, .int (iz i))] [] 187 := by
                intro n18
                induction n18 with
                | zero => intro Mz i p hs ip ile z1 z2 z3 z4 hn19; exact absurd hn19 (Nat.not_lt_zero _)
                | succ n18 ih17 =>
                  intro Mz i p hs ip ile z1 z2 z3 z4 hn19
                  have g69 : Mz 53 69 = (q.length : Int) := by rw [z1 53 (by decide)]; exact m3.2
                  refine v_iload X 4 dX12_makes_187 rfl ?_
                  refine v_aload_n X 0 dX12_makes_189 rfl rfl ?_
                  refine gt_X12_many X iwX12 (Std.lt hS rfl) (Std.k hS rfl rfl) (List.mem_cons_of_mem _ bw_39_2) dX12_makes_190 (Mz 53 69) rfl (fun hr20 => ?_)
                  refine v_icmp_ge X 276 dX12_makes_193 (by decide) ⟨by omega, by omega⟩ ⟨by omega, by omega⟩ (fun u21 => ?_) (fun u21 => ?_)
                  · skip
                    obtain ⟨s1, hs1⟩ := hs
                    have hqp : q = p := sfx_all hs1 (by omega)
                    have hFM : FINm M n e = q := by rw [hFIN]; unfold FINm; rw [← hM0, ← e78, ← e37, show gM e M0 = gM e M by rw [hM0]; rfl]
                    refine v_aload_n X 0 dX12_makes_276 rfl rfl ?_
                    refine gt_X12_bestWorth X iwX12 (Std.lt hS rfl) (Std.k hS rfl rfl) (List.mem_cons_of_mem _ bw_39_3) dX12_makes_277 (Mz 53 76) rfl (fun hr22 => ?_)
                    refine hret _ _ _ _ _ _ _ _ _ _ _ (some (.int (iz (Mz 53 76)))) dX12_makes_280 ⟨rfl, _, rfl⟩ (by decide) (by decide) (fun hmok => ?_)
                    refine ⟨rfl, rfl, rfl, rfl, rfl, (Mz 53 76), rfl, ⟨by omega, by omega⟩, ?_⟩
                    try dsimp only
                    rw [hFM]
                    refine ⟨?_, ⟨⟨?_, ?_⟩, ?_, ?_, ?_⟩, ?_, ?_, ?_⟩
                    · rw [z1 53 (by decide), m2 76 (by decide) (by decide), ← e78]; exact hq1.2.1
                    · rw [z1 53 (by decide)]; exact m3.1
                    · rw [z1 53 (by decide)]; exact m3.2
                    · rw [hqp]; exact z2
                    · rw [hqp]; exact z3
                    · rw [hqp]; exact z4
                    · rw [← e37]; exact hoq
                    · intro k k1 k2
                      rw [z1 k (by omega), m1 k k1 (by omega), hfr.1 k k1 (by omega) (by omega), hM0]
                      unfold mK
                      rw [mrow_i _ _ (by omega), mrow_i _ _ (by omega), mrow_i _ _ (by omega)]
                    · intro z hz
                      rw [z1 53 (by decide), m2 z (by omega) (by omega), hfr.2.1 z (by omega) (by omega), hM0]
                      rfl
                  · skip
                    obtain ⟨s1, hs1⟩ := hs
                    obtain ⟨s2, f, hs2⟩ := sfx_more hs1 (by omega)
                    have hrw : rpG (My 106) (My 107) (My 108) (My 109) (My 110) (f :: p) := rpG_sfx (s := s2) (by rw [← hs2]; exact hrow)
                    have hof : okF (M0 53 37) (f :: p) := okF_sfx (s := s2) (by rw [← hs2]; exact hoq)
                    obtain ⟨⟨r1, r2, r3, r4, r5⟩, _⟩ := hrw
                    rw [← ip, ← z1 106 (by decide)] at r1
                    rw [← ip, ← z1 107 (by decide)] at r2
                    rw [← ip, ← z1 108 (by decide)] at r3
                    rw [← ip, ← z1 109 (by decide)] at r4
                    rw [← ip, ← z1 110 (by decide)] at r5
                    have hf1 := hof.1
                    refine v_aload_n X 0 dX12_makes_196 rfl rfl ?_
                    refine gt_X12_bestRow X iwX12 (Std.lt hS rfl) (Std.k hS rfl rfl) (List.mem_cons_of_mem _ bw_9_20) dX12_makes_197 106 (Std.r hS 79 rfl) ?_
                    refine v_iload X 4 dX12_makes_200 rfl ?_
                    refine v_iald X (Mz 106 i) (Std.lt hS rfl) (Std.at hS rfl rfl) (by omega) (by omega) dX12_makes_202 rfl (fun hr23 => ?_)
                    refine v_istore X [(5, .int (iz (Mz 106 i))), (0, .ref (ad 53)), (1, .int (iz n)), (2, .int (iz e)), (3, .int (iz x)), (4, .int (iz i))] dX12_makes_203 (by decide) rfl ?_
                    refine v_aload_n X 1 dX12_makes_205 rfl rfl ?_
                    refine gt_X12_order X iwX12 (Std.lt hS rfl) (Std.k hS rfl rfl) (List.mem_cons_of_mem _ bw_9_15) dX12_makes_206 101 (Std.r hS 70 rfl) ?_
                    refine v_iload X 5 dX12_makes_209 rfl ?_
                    refine v_iload X 0 dX12_makes_211 rfl ?_
                    refine v_iast X (Std.lt hS rfl) (Std.at hS rfl rfl) (by omega) (by omega) ⟨by omega, by omega⟩ dX12_makes_213 ?_
                    refine v_aload_n X 1 dX12_makes_214 rfl rfl ?_
                    refine gt_X12_pOff X iwX12 (Std.lt hS rfl) (Std.k hS rfl rfl) (List.mem_cons_of_mem _ bw_9_16) dX12_makes_215 102 (Std.r hS 71 rfl) ?_
                    refine v_iload X 0 dX12_makes_218 rfl ?_
                    refine v_aload_n X 1 dX12_makes_220 rfl rfl ?_
                    refine gt_X12_bestOff X iwX12 (Std.lt hS rfl) (Std.k hS rfl rfl) (List.mem_cons_of_mem _ bw_9_21) dX12_makes_221 107 (Std.r hS 80 rfl) ?_
                    refine v_iload X 5 dX12_makes_224 rfl ?_
                    refine v_iald X (Mz 107 i) (Std.lt hS rfl) (Std.at hS rfl rfl) (by omega) (by omega) dX12_makes_226 rfl (fun hr24 => ?_)
                    refine v_iast X (Std.lt hS rfl) (Std.at hS rfl rfl) (by omega) (by omega) ⟨by omega, by omega⟩ dX12_makes_227 ?_
                    refine v_aload_n X 1 dX12_makes_228 rfl rfl ?_
                    refine gt_X12_pBegin X iwX12 (Std.lt hS rfl) (Std.k hS rfl rfl) (List.mem_cons_of_mem _ bw_9_17) dX12_makes_229 103 (Std.r hS 72 rfl) ?_
                    refine v_iload X 0 dX12_makes_232 rfl ?_
                    refine v_aload_n X 1 dX12_makes_234 rfl rfl ?_
                    refine gt_X12_bestBegin X iwX12 (Std.lt hS rfl) (Std.k hS rfl rfl) (List.mem_cons_of_mem _ bw_9_22) dX12_makes_235 108 (Std.r hS 81 rfl) ?_
                    refine v_iload X 5 dX12_makes_238 rfl ?_
                    refine v_iald X (Mz 108 i) (Std.lt hS rfl) (Std.at hS rfl rfl) (by omega) (by omega) dX12_makes_240 rfl (fun hr25 => ?_)
                    refine v_iast X (Std.lt hS rfl) (Std.at hS rfl rfl) (by omega) (by omega) ⟨by omega, by omega⟩ dX12_makes_241 ?_
                    refine v_aload_n X 1 dX12_makes_242 rfl rfl ?_
                    refine gt_X12_pEnd X iwX12 (Std.lt hS rfl) (Std.k hS rfl rfl) (List.mem_cons_of_mem _ bw_9_18) dX12_makes_243 104 (Std.r hS 73 rfl) ?_
                    refine v_iload X 0 dX12_makes_246 rfl ?_
                    refine v_aload_n X 1 dX12_makes_248 rfl rfl ?_
                    refine gt_X12_bestEnd X iwX12 (Std.lt hS rfl) (Std.k hS rfl rfl) (List.mem_cons_of_mem _ bw_9_23) dX12_makes_249 109 (Std.r hS 82 rfl) ?_
                    refine v_iload X 5 dX12_makes_252 rfl ?_
                    refine v_iald X (Mz 109 i) (Std.lt hS rfl) (Std.at hS rfl rfl) (by omega) (by omega) dX12_makes_254 rfl (fun hr26 => ?_)
                    refine v_iast X (Std.lt hS rfl) (Std.at hS rfl rfl) (by omega) (by omega) ⟨by omega, by omega⟩ dX12_makes_255 ?_
                    refine v_aload_n X 1 dX12_makes_256 rfl rfl ?_
                    refine gt_X12_pLand X iwX12 (Std.lt hS rfl) (Std.k hS rfl rfl) (List.mem_cons_of_mem _ bw_9_19) dX12_makes_257 105 (Std.r hS 74 rfl) ?_
                    refine v_iload X 0 dX12_makes_260 rfl ?_
                    refine v_aload_n X 1 dX12_makes_262 rfl rfl ?_
                    refine gt_X12_bestLand X iwX12 (Std.lt hS rfl) (Std.k hS rfl rfl) (List.mem_cons_of_mem _ bw_10_0) dX12_makes_263 110 (Std.r hS 83 rfl) ?_
                    refine v_iload X 5 dX12_makes_266 rfl ?_
                    refine v_iald X (Mz 110 i) (Std.lt hS rfl) (Std.at hS rfl rfl) (by omega) (by omega) dX12_makes_268 rfl (fun hr27 => ?_)
                    refine v_iast X (Std.lt hS rfl) (Std.at hS rfl rfl) (by omega) (by omega) ⟨by omega, by omega⟩ dX12_makes_269 ?_
                    have n101 : (mu Mz 101 i (Mz 106 i)) 101 (p.length : Int) = fa f := by rw [← ip, ← r1]; exact mu_s _ _ _ _
                    have cse : ∀ a : Int, inF (f :: p) a = true → a ≠ Mz 106 i → inF p a = true := fun a h1 h2 => by have h1 : (decide (fa f = a) || inF p a) = true := h1; rw [decide_eq_false (by rw [← r1]; omega), Bool.false_or] at h1; exact h1
                    have n103 : ∀ a : Int, 0 ≤ a → a < 6 → (mu (mu (mu (mu (mu Mz 101 i (Mz 106 i)) 102 (Mz 106 i) (Mz 107 i)) 103 (Mz 106 i) (Mz 108 i)) 104 (Mz 106 i) (Mz 109 i)) 105 (Mz 106 i) (Mz 110 i)) 103 a = lkF fg (f :: p) a := fun a a1 a2 => by
                      show (if a = Mz 106 i then Mz 108 i else Mz 103 a) = (if fa f = a then fg f else lkF fg p a)
                      by_cases z : a = Mz 106 i
                      · rw [if_pos z, if_pos (by rw [← r1]; exact z.symm), r3]
                      · rw [if_neg z, if_neg (by rw [← r1]; omega)]; exact z3 a a1 a2
                    have n4 : ∀ a : Int, 0 ≤ a → a < 6 → inF (f :: p) a = true → (mu (mu (mu (mu (mu Mz 101 i (Mz 106 i)) 102 (Mz 106 i) (Mz 107 i)) 103 (Mz 106 i) (Mz 108 i)) 104 (Mz 106 i) (Mz 109 i)) 105 (Mz 106 i) (Mz 110 i)) 102 a = lkF fo (f :: p) a ∧ (mu (mu (mu (mu (mu Mz 101 i (Mz 106 i)) 102 (Mz 106 i) (Mz 107 i)) 103 (Mz 106 i) (Mz 108 i)) 104 (Mz 106 i) (Mz 109 i)) 105 (Mz 106 i) (Mz 110 i)) 104 a = lkF fe (f :: p) a ∧ (mu (mu (mu (mu (mu Mz 101 i (Mz 106 i)) 102 (Mz 106 i) (Mz 107 i)) 103 (Mz 106 i) (Mz 108 i)) 104 (Mz 106 i) (Mz 109 i)) 105 (Mz 106 i) (Mz 110 i)) 105 a = lkF fn (f :: p) a := fun a a1 a2 a3 => by
                      refine ⟨?_, ?_, ?_⟩
                      · show (if a = Mz 106 i then Mz 107 i else Mz 102 a) = (if fa f = a then fo f else lkF fo p a)
                        by_cases z : a = Mz 106 i
                        · rw [if_pos z, if_pos (by rw [← r1]; exact z.symm), r2]
                        · rw [if_neg z, if_neg (by rw [← r1]; omega)]; exact (z4 a a1 a2 (cse a a3 z)).1
                      · show (if a = Mz 106 i then Mz 109 i else Mz 104 a) = (if fa f = a then fe f else lkF fe p a)
                        by_cases z : a = Mz 106 i
                        · rw [if_pos z, if_pos (by rw [← r1]; exact z.symm), r4]; rfl
                        · rw [if_neg z, if_neg (by rw [← r1]; omega)]; exact (z4 a a1 a2 (cse a a3 z)).2.1
                      · show (if a = Mz 106 i then Mz 110 i else Mz 105 a) = (if fa f = a then fn f else lkF fn p a)
                        by_cases z : a = Mz 106 i
                        · rw [if_pos z, if_pos (by rw [← r1]; exact z.symm), r5]
                        · rw [if_neg z, if_neg (by rw [← r1]; omega)]; exact (z4 a a1 a2 (cse a a3 z)).2.2
                    refine v_iinc X 5 [(4, .int (iz (i + 1))), (5, .int (iz (Mz 106 i))), (0, .ref (ad 53)), (1, .int (iz n)), (2, .int (iz e)), (3, .int (iz x))] dX12_makes_270 rfl (by decide) rfl ?_
                    refine v_goto X 187 dX12_makes_273 (by decide) ?_
                    refine v_lv [2, 3, 4, 5, 0] rfl ?_
                    exact ih17 (mu (mu (mu (mu (mu Mz 101 i (Mz 106 i)) 102 (Mz 106 i) (Mz 107 i)) 103 (Mz 106 i) (Mz 108 i)) 104 (Mz 106 i) (Mz 109 i)) 105 (Mz 106 i) (Mz 110 i)) (i + 1) (f :: p) (⟨s2, hs2⟩) (by simp only [List.length_cons]; omega) (by omega) (fun k hk => (by rw [mu_i _ _ _ (by omega), mu_i _ _ _ (by omega), mu_i _ _ _ (by omega), mu_i _ _ _ (by omega), mu_i _ _ _ (by omega)]; exact z1 k hk)) (⟨n101, rpO_congr z2 (fun k q1 q2 => (show (if k = i then Mz 106 i else Mz 101 k) = Mz 101 k by rw [if_neg (by omega)]))⟩) (n103) (n4) (by omega)
              refine v_lv [1, 2, 3, 4, 0] rfl ?_
              exact hl16 _ My 0 ([]) (⟨q, by simp⟩) (rfl) (by omega) (fun _ _ => rfl) (trivial) (fun a a1 a2 => m4 a a1 a2) (fun a a1 a2 a3 => absurd a3 (by intro z; cases z)) (Nat.lt_succ_self _)
            · skip
              refine v_aload_n X 0 dX12_makes_170 rfl rfl ?_
              refine gt_X12_pBegin X iwX12 (Std.lt hS rfl) (Std.k hS rfl rfl) (List.mem_cons_of_mem _ bw_9_17) dX12_makes_171 103 (Std.r hS 72 rfl) ?_
              refine v_iload X 4 dX12_makes_174 rfl ?_
              refine v_iconst X dX12_makes_176 ?_
              refine v_iast X (Std.lt hS rfl) (Std.at hS rfl rfl) (by omega) (by omega) ⟨by decide, by decide⟩ dX12_makes_177 ?_
              refine v_iinc X 4 [(4, .int (iz (i + 1))), (0, .ref (ad 53)), (1, .int (iz n)), (2, .int (iz e)), (3, .int (iz x))] dX12_makes_178 rfl (by decide) rfl ?_
              refine v_goto X 163 dX12_makes_181 (by decide) ?_
              refine v_lv [1, 2, 3, 4, 0] rfl ?_
              refine v_mem (M' := (mrow (mu (mu Mx 53 68 1) 53 69 (Mx 53 75)) 103 (filz (Mx 103) (i + 1) (-1)))) (by rw [mu_mrow, filz_f _ _ _ hi.1]) rfl rfl ?_
              exact ih12 (i + 1) (by omega) (by omega)
        refine v_lv [1, 2, 3, 4, 0] rfl ?_
        refine v_mem (M' := (mrow (mu (mu Mx 53 68 1) 53 69 (Mx 53 75)) 103 (filz (Mx 103) 0 (-1)))) (by rw [filz_z]; exact (mrow_self _ 103).symm) rfl rfl ?_
        exact hl11 _ 0 (by omega) (Nat.lt_succ_self _)
      · skip
        obtain ⟨hx, hp, htr, hres⟩ := hst.resolve_right (fun z => by omega)
        rw [if_neg (by omega)] at hn8
        have ht0 := htr x (by omega) (by omega)
        refine v_aload_n X 0 dX12_makes_33 rfl rfl ?_
        refine gt_X12_tried X iwX12 (Std.lt hS rfl) (Std.k hS rfl rfl) (List.mem_cons_of_mem _ bw_10_1) dX12_makes_34 111 (Std.r hS 84 rfl) ?_
        refine v_iload_n X 3 dX12_makes_37 rfl rfl ?_
        refine v_iald X (Mx 111 x) (Std.lt hS rfl) (Std.at hS rfl rfl) (by omega) (by omega) dX12_makes_38 rfl (fun hr28 => ?_)
        refine v_istore X [(4, .int (iz (Mx 111 x))), (0, .ref (ad 53)), (1, .int (iz n)), (2, .int (iz e)), (3, .int (iz x))] dX12_makes_39 (by decide) rfl ?_
        refine v_iload X 0 dX12_makes_41 rfl ?_
        refine v_aload_n X 1 dX12_makes_43 rfl rfl ?_
        refine gt_X12_acts X iwX12 (Std.lt hS rfl) (Std.k hS rfl rfl) (List.mem_cons_of_mem _ bw_23_20) dX12_makes_44 (Mx 53 37) rfl (fun hr29 => ?_)
        refine v_icmp_ne X 69 dX12_makes_47 (by decide) ⟨by omega, by omega⟩ ⟨by omega, by omega⟩ (fun u30 => ?_) (fun u30 => ?_)
        · skip
          refine v_aload_n X 1 dX12_makes_69 rfl rfl ?_
          refine gt_X12_tried X iwX12 (Std.lt hS rfl) (Std.k hS rfl rfl) (List.mem_cons_of_mem _ bw_10_1) dX12_makes_70 111 (Std.r hS 84 rfl) ?_
          refine v_iload_n X 4 dX12_makes_73 rfl rfl ?_
          refine v_dup2 X dX12_makes_74 rfl rfl ?_
          refine v_iald X (Mx 111 x) (Std.lt hS rfl) (Std.at hS rfl rfl) (by omega) (by omega) dX12_makes_75 rfl (fun hr31 => ?_)
          refine v_iconst X dX12_makes_76 ?_
          refine v_iadd X dX12_makes_77 ?_
          refine v_iast X (Std.lt hS rfl) (Std.at hS rfl rfl) (by omega) (by omega) ⟨by omega, by omega⟩ dX12_makes_78 ?_
          obtain ⟨M5, hM5⟩ : ∃ X, X = mu Mx 111 x (Mx 111 x + 1) := ⟨_, rfl⟩
          refine v_mem (M' := M5) (by rw [hM5]) rfl rfl ?_
          have e5 : ∀ i : Nat, i ≠ 111 → M5 i = Mx i := fun i hi => by rw [hM5]; exact mu_i _ _ _ hi
          have hfr5 : frM M0 M5 := frM_trans hfr ⟨fun i i1 i2 i3 => e5 i (by omega), fun z _ _ => congrFun (e5 53 (by decide)) z, fun z _ => congrFun (e5 94 (by decide)) z⟩
          have hp5 : rpN M5 p := rpN_fr hp (fun i i1 i2 => e5 i (by omega)) (congrFun (e5 53 (by decide)) 62)
          have hq5 : rpB (M0 78) (gM e M0) M5 q := rpB_fr hq (fun i i1 i2 => e5 i (by omega)) (fun z _ _ => congrFun (e5 53 (by decide)) z)
          have t1 : ∀ k : Int, 0 ≤ k → k < (p.length : Int) → M5 111 k = Mx 111 k := fun k q1 q2 => by rw [hM5]; exact mu_z _ _ _ (by omega)
          have t2 : M5 111 x = Mx 111 x + 1 := by rw [hM5]; exact mu_s _ _ _ _
          have htr5 : ∀ k : Int, 0 ≤ k → k ≤ (p.length : Int) → 0 ≤ M5 111 k ∧ M5 111 k ≤ M0 53 37 := fun k q1 q2 => by
            rcases (show k < (p.length : Int) ∨ k = x by omega) with z | z
            · rw [t1 k q1 z]; exact htr k q1 q2
            · rw [z, t2]; omega
          have hres5 := mR_next (pl := (mpl M0)) (w := M0 78) (g := (gM e M0)) (A := (M0 53 37).toNat) (tr := Mx 111) (tr' := M5 111) (p := p) t1 (by rw [← hx]; exact t2) (by rw [← hx]; omega) (by rw [← hx]; omega) q
          have hmz := mz_next (A := (M0 53 37).toNat) (tr := Mx 111) (tr' := M5 111) (p := p) hle t1 (by rw [← hx]; exact t2) (by rw [← hx]; omega) (by rw [← hx]; omega)
          rw [hres, ← hx] at hres5
          replace hres5 := hres5.symm
          have hl7 : (M0 53 37).toNat - 0 = (M0 53 37).toNat := rfl
          refine v_iconst X dX12_makes_79 ?_
          refine v_istore X [(5, .int (iz 0)), (4, .int (iz (Mx 111 x))), (0, .ref (ad 53)), (1, .int (iz n)), (2, .int (iz e)), (3, .int (iz x))] dX12_makes_80 (by decide) rfl ?_
          refine v_iconst X dX12_makes_82 ?_
          refine v_istore X [(6, .int (iz 0)), (5, .int (iz 0)), (4, .int (iz (Mx 111 x))), (0, .ref (ad 53)), (1, .int (iz n)), (2, .int (iz e)), (3, .int (iz x))] dX12_makes_83 (by decide) rfl ?_
          have hl32 : ∀ (n34 : Nat) (h : Int) (i : Int) (j : Nat), (i = (j : Int)) → (i ≤ x) → ((h = 1 ∧ hsN (M5 96) (Mx 111 x) j = true) ∨ (h = 0 ∧ hsN (M5 96) (Mx 111 x) j = false)) → (7 - i).toNat < n34 → V K 7 0 0 N sh ad M5 L R [(0, .ref (ad 53)), (1, .int (iz n)), (2, .int (iz e)), (3, .int (iz x)), (4, .int (iz (Mx 111 x))), (5, .int (iz h)), (6, .int (iz i))] [] 85 := by
            intro n34
            induction n34 with
            | zero => intro h i j ei hi hh hn35; exact absurd hn35 (Nat.not_lt_zero _)
            | succ n34 ih33 =>
              intro h i j ei hi hh hn35
              refine v_iload X 6 dX12_makes_85 rfl ?_
              refine v_iload_n X 3 dX12_makes_87 rfl rfl ?_
              refine v_icmp_ge X 112 dX12_makes_88 (by decide) ⟨by omega, by omega⟩ ⟨by omega, by omega⟩ (fun u36 => ?_) (fun u36 => ?_)
              · skip
                have hj : j = p.length := by omega
                rw [hj, hsN_L _ hp5.2] at hh
                refine v_iload X 5 dX12_makes_112 rfl ?_
                refine v_if_ne X 29 dX12_makes_114 (by decide) ⟨by omega, by omega⟩ (fun u37 => ?_) (fun u37 => ?_)
                · skip
                  have hin : inF p (Mx 111 x) = true := by rcases hh with z | z; exact z.2; exact absurd z.1 (by omega)
                  refine v_lv [0, 1, 2, 3] rfl ?_
                  exact ih6 M5 x p q (hfr5) (hok) (hoq) (hq5) (Or.inl ⟨hx, hp5, htr5, (by rw [← hres5, if_pos hin])⟩) (Nat.lt_of_lt_of_le (by rw [if_neg (by omega), hmz]; exact Nat.lt_add_of_pos_right (Nat.pow_pos (by decide))) (Nat.le_of_lt_succ hn8))
                · skip
                  have hin : inF p (Mx 111 x) = false := by rcases hh with z | z; exact absurd z.1 (by omega); exact z.2
                  have hl6 : p.length < 6 := by rcases (show p.length < 6 ∨ p.length = 6 by omega) with z | z; exact z; exact absurd (okF_all (n := 6) (by omega) hok z (Mx 111 x) (by omega) (by omega)) (by rw [hin]; decide)
                  refine v_aload_n X 0 dX12_makes_117 rfl rfl ?_
                  refine v_iload X 4 dX12_makes_118 rfl ?_
                  refine v_callV X [.int (iz (Mx 111 x))] hRm (c_X12_placesL _ _ _ hS (Mx 111 x) p (mBnd_fr hfr5 hB0) (mTxt_fr hfr5 hT0) (mPreA_fr hfr5 (hA0 _ (by omega) (by omega))) hp5 (by rw [hfr5.2.1 37 (by decide) (by decide)]; exact hok) hl6) (gV bw_39_10 bw_39_11 bw_39_12 bw_1_5 bw_39_13) rfl ddX12_places (by decide) (Std.lt hS rfl) (Std.k hS rfl rfl) ⟨rfl, by decide⟩ (Nat.le_of_ble_eq_true rfl) dX12_makes_120 (k_eB (fun M38 e39 => ?_) (fun M38 e39 => ?_))
                  · skip
                    obtain ⟨f, y1, y2, y3, y4, y5⟩ := e39
                    rw [mpl_fr hfr5] at y1
                    have hfr6 : frM M0 M38 := frM_trans hfr5 y3
                    have hok6 : okF (M0 53 37) (f :: p) := mpl_ok hB0 (hA0 _ (by omega) (by omega)) hok hin y1
                    have hq6 : rpB (M0 78) (gM e M0) M38 q := rpB_fr hq5 (fun i i1 i2 => y4 i (by omega)) (fun z z1 z2 => y5 z (by omega))
                    have e678 : M38 78 = M0 78 := hfr6.1 78 (by decide) (by decide) (by decide)
                    have e637 : M38 53 37 = M0 53 37 := hfr6.2.1 37 (by decide) (by decide)
                    have e6g : gM e M38 = (gM e M0) := by unfold gM; rw [hfr6.1 103 (by decide) (by decide) (by decide)]
                    refine v_if_ne X 129 dX12_makes_123 (by decide) ⟨by decide, by decide⟩ (fun _ => ?_) (fun q => absurd (by decide) q)
                    refine v_aload_n X 0 dX12_makes_129 rfl rfl ?_
                    refine v_iload_n X 2 dX12_makes_130 rfl rfl ?_
                    refine v_callV X [.int (iz e)] hRm (c_X12_looks _ _ _ hS e he (f :: p) y2 (by rw [e637]; exact hok6) (by omega) (by rw [e637, e678]; exact hW0)) (gV bw_39_4 bw_39_5 bw_39_6 bw_1_5 bw_39_7) rfl ddX12_looks (by decide) (Std.lt hS rfl) (Std.k hS rfl rfl) ⟨rfl, by decide⟩ (Nat.le_of_ble_eq_true rfl) dX12_makes_131 (k_eV (fun M41 e40 => ?_))
                    obtain ⟨v1, v2, _, v4⟩ := e40
                    rw [e678, e6g] at v4
                    have hq7 := v4 q hq6
                    have hfr7 : frM M0 M41 := frM_trans hfr6 ⟨fun i i1 i2 i3 => v1 i i1 (by omega), fun z z1 z2 => v2 z z2, fun z _ => congrFun (v1 94 (by decide) (by decide)) z⟩
                    have hp7 : rpN M41 (f :: p) := rpN_fr y2 (fun i i1 i2 => v1 i (by omega) (by omega)) (v2 62 (by decide))
                    have e7 : M41 111 = M5 111 := (v1 111 (by decide) (by decide)).trans (y4 111 (by decide))
                    refine v_iinc X 3 [(3, .int (iz (x + 1))), (0, .ref (ad 53)), (1, .int (iz n)), (2, .int (iz e)), (4, .int (iz (Mx 111 x))), (5, .int (iz h)), (6, .int (iz i))] dX12_makes_134 rfl (by decide) rfl ?_
                    refine v_aload_n X 1 dX12_makes_137 rfl rfl ?_
                    refine gt_X12_tried X iwX12 (Std.lt hS rfl) (Std.k hS rfl rfl) (List.mem_cons_of_mem _ bw_10_1) dX12_makes_138 111 (Std.r hS 84 rfl) ?_
                    refine v_iload_n X 0 dX12_makes_141 rfl rfl ?_
                    refine v_iconst X dX12_makes_142 ?_
                    refine v_iast X (Std.lt hS rfl) (Std.at hS rfl rfl) (by omega) (by omega) ⟨by decide, by decide⟩ dX12_makes_143 ?_
                    have hfr8 : frM M0 (mu M41 111 (x + 1) 0) := frM_trans hfr7 ⟨fun i i1 i2 i3 => mu_i _ _ _ (by omega), fun _ _ _ => rfl, fun _ _ => rfl⟩
                    have t8 : ∀ k : Int, 0 ≤ k → k ≤ (p.length : Int) → (mu M41 111 (x + 1) 0) 111 k = M5 111 k := fun k q1 q2 => by rw [mu_z _ _ _ (by omega), e7]
                    have t9 : (mu M41 111 (x + 1) 0) 111 ((p.length : Int) + 1) = 0 := by rw [← hx]; exact mu_s _ _ _ _
                    have htr8 : ∀ k : Int, 0 ≤ k → k ≤ ((f :: p).length : Int) → 0 ≤ (mu M41 111 (x + 1) 0) 111 k ∧ (mu M41 111 (x + 1) 0) 111 k ≤ M0 53 37 := fun k q1 q2 => by
                      simp only [List.length_cons] at q2
                      rcases (show k ≤ (p.length : Int) ∨ k = (p.length : Int) + 1 by omega) with z | z
                      · rw [t8 k q1 z]; exact htr5 k q1 z
                      · rw [z, t9]; omega
                    have hr8 : mR (mpl M0) (M0 78) (gM e M0) (M0 53 37).toNat ((mu M41 111 (x + 1) 0) 111) (f :: p) (lkS (M0 78) (gM e M0) (f :: p) q) = mR (mpl M0) (M0 78) (gM e M0) (M0 53 37).toNat (M5 111) p (mS (mpl M0) (M0 78) (gM e M0) (M0 53 37).toNat (6 - p.length) (f :: p) q) := by
                      show mR _ _ _ _ _ p _ = _
                      rw [mR_congr t8, t9, show 6 - p.length = (6 - (p.length + 1)) + 1 by omega]
                      rfl
                    have hmz8 : mz (M0 53 37).toNat ((mu M41 111 (x + 1) 0) 111) (f :: p) < mz (M0 53 37).toNat (Mx 111) p := by
                      rw [hmz, ← mz_congr t8]
                      exact mz_down hl6 (by omega) t9
                    refine v_goto X 29 dX12_makes_144 (by decide) ?_
                    refine v_lv [1, 2, 3, 0] rfl ?_
                    exact ih6 (mu M41 111 (x + 1) 0) (x + 1) (f :: p) (lkS (M0 78) (gM e M0) (f :: p) q) (hfr8) (hok6) ((by unfold lkS; split; exact hok6; exact hoq)) (rpB_fr hq7 (fun i i1 i2 => mu_i _ _ _ (by omega)) (fun _ _ _ => rfl)) (Or.inl ⟨(by simp only [List.length_cons]; omega), rpN_fr hp7 (fun i i1 i2 => mu_i _ _ _ (by omega)) rfl, htr8, (by rw [← hres5, if_neg (by rw [hin]; decide), y1]; exact hr8)⟩) (Nat.lt_of_lt_of_le (by rw [if_neg (by omega)]; exact hmz8) (Nat.le_of_lt_succ hn8))
                  · skip
                    obtain ⟨y1, y2, y3, y4, y5⟩ := e39
                    rw [mpl_fr hfr5] at y1
                    refine v_if_ne X 129 dX12_makes_123 (by decide) ⟨by decide, by decide⟩ (fun q => absurd q (by decide)) (fun _ => ?_)
                    refine v_goto X 29 dX12_makes_126 (by decide) ?_
                    refine v_lv [0, 1, 2, 3] rfl ?_
                    exact ih6 M38 x p q (frM_trans hfr5 y3) (hok) (hoq) (rpB_fr hq5 (fun i i1 i2 => y4 i (by omega)) (fun z z1 z2 => y5 z (by omega))) (Or.inl ⟨hx, y2, (by rw [y4 111 (by decide)]; exact htr5), (by rw [y4 111 (by decide), ← hres5, if_neg (by rw [hin]; decide), y1])⟩) (Nat.lt_of_lt_of_le (by rw [if_neg (by omega), y4 111 (by decide), hmz]; exact Nat.lt_add_of_pos_right (Nat.pow_pos (by decide))) (Nat.le_of_lt_succ hn8))
              · skip
                have hl6 : i < 6 := by omega
                refine v_aload_n X 0 dX12_makes_91 rfl rfl ?_
                refine gt_X12_row X iwX12 (Std.lt hS rfl) (Std.k hS rfl rfl) (List.mem_cons_of_mem _ bw_9_10) dX12_makes_92 96 (Std.r hS 63 rfl) ?_
                refine v_iload X 6 dX12_makes_95 rfl ?_
                refine v_iald X (M5 96 i) (Std.lt hS rfl) (Std.at hS rfl rfl) (by omega) (by omega) dX12_makes_97 rfl (fun hr42 => ?_)
                refine v_iload X 4 dX12_makes_98 rfl ?_
                refine v_icmp_ne X 106 dX12_makes_100 (by decide) ⟨by omega, by omega⟩ ⟨by omega, by omega⟩ (fun u43 => ?_) (fun u43 => ?_)
                · skip
                  refine v_iinc X 6 [(6, .int (iz (i + 1))), (0, .ref (ad 53)), (1, .int (iz n)), (2, .int (iz e)), (3, .int (iz x)), (4, .int (iz (Mx 111 x))), (5, .int (iz h))] dX12_makes_106 rfl (by decide) rfl ?_
                  refine v_goto X 85 dX12_makes_109 (by decide) ?_
                  refine v_lv [1, 2, 3, 4, 5, 6, 0] rfl ?_
                  exact ih33 h (i + 1) (j + 1) (by omega) (by omega) ((by subst ei; rw [hsN_s]; rw [decide_eq_false (by omega), Bool.false_or]; exact hh)) (by omega)
                · skip
                  refine v_iconst X dX12_makes_103 ?_
                  refine v_istore X [(5, .int (iz 1)), (0, .ref (ad 53)), (1, .int (iz n)), (2, .int (iz e)), (3, .int (iz x)), (4, .int (iz (Mx 111 x))), (6, .int (iz i))] dX12_makes_104 (by decide) rfl ?_
                  refine v_iinc X 6 [(6, .int (iz (i + 1))), (5, .int (iz 1)), (0, .ref (ad 53)), (1, .int (iz n)), (2, .int (iz e)), (3, .int (iz x)), (4, .int (iz (Mx 111 x)))] dX12_makes_106 rfl (by decide) rfl ?_
                  refine v_goto X 85 dX12_makes_109 (by decide) ?_
                  refine v_lv [2, 3, 4, 5, 6, 1, 0] rfl ?_
                  exact ih33 1 (i + 1) (j + 1) (by omega) (by omega) ((by subst ei; rw [hsN_s]; exact Or.inl ⟨rfl, by rw [decide_eq_true (by omega)]; rfl⟩)) (by omega)
          refine v_lv [3, 4, 5, 6, 2, 1, 0] rfl ?_
          exact hl32 _ 0 0 0 (by omega) (by omega) (Or.inr ⟨rfl, rfl⟩) (Nat.lt_succ_self _)
        · skip
          cases p with
          | nil =>
            have hx : x = 0 := hx
            subst hx
            refine v_iinc X 4 [(3, .int (iz (-1))), (4, .int (iz (Mx 111 0))), (0, .ref (ad 53)), (1, .int (iz n)), (2, .int (iz e))] dX12_makes_50 rfl (by decide) rfl ?_
            refine v_aload_n X 2 dX12_makes_53 rfl rfl ?_
            refine v_iload_n X 0 dX12_makes_54 rfl rfl ?_
            refine v_if_ge X 62 dX12_makes_55 (by decide) ⟨by decide, by decide⟩ (fun q => absurd q (by decide)) (fun _ => ?_)
            refine v_iconst X dX12_makes_58 ?_
            refine v_goto X 63 dX12_makes_59 (by decide) ?_
            refine pt_X12_placed X iwX12 (Std.lt hS rfl) (Std.k hS rfl rfl) (List.mem_cons_of_mem _ bw_38_23) ⟨by decide, by decide⟩ dX12_makes_63 ?_
            refine v_goto X 29 dX12_makes_66 (by decide) ?_
            refine v_lv [2, 3, 4, 0] rfl ?_
            exact ih6 (mu Mx 53 62 0) (-1) ([]) q (frM_trans hfr ⟨fun i i1 i2 i3 => mu_i _ _ _ i1, fun z z1 z2 => mu_z _ _ _ z1, fun _ _ => rfl⟩) (trivial) (hoq) (rpB_fr hq (fun i i1 i2 => mu_i _ _ _ (by omega)) (fun z z1 z2 => mu_z _ _ _ (by omega))) (Or.inr ⟨by omega, (by rw [← hres]; unfold mR; rw [show (M0 53 37).toNat - (Mx 111 0).toNat = 0 by omega]; rfl)⟩) (Nat.lt_of_lt_of_le (by rw [if_pos (by omega)]; exact mz_pos (by omega)) (Nat.le_of_lt_succ hn8))
          | cons f0 p0 =>
            have hx : x = ((p0.length + 1 : Nat) : Int) := hx
            have hx1 : x = (p0.length : Int) + 1 := by omega
            refine v_iinc X 4 [(3, .int (iz (x + (-1)))), (4, .int (iz (Mx 111 x))), (0, .ref (ad 53)), (1, .int (iz n)), (2, .int (iz e))] dX12_makes_50 rfl (by decide) rfl ?_
            refine v_aload_n X 2 dX12_makes_53 rfl rfl ?_
            refine v_iload_n X 0 dX12_makes_54 rfl rfl ?_
            refine v_if_ge X 62 dX12_makes_55 (by decide) ⟨by omega, by omega⟩ (fun u44 => ?_) (fun q => absurd (by omega) q)
            refine v_iload_n X 0 dX12_makes_62 rfl rfl ?_
            refine pt_X12_placed X iwX12 (Std.lt hS rfl) (Std.k hS rfl rfl) (List.mem_cons_of_mem _ bw_38_23) ⟨by omega, by omega⟩ dX12_makes_63 ?_
            refine v_goto X 29 dX12_makes_66 (by decide) ?_
            refine v_lv [2, 3, 4, 0] rfl ?_
            exact ih6 (mu Mx 53 62 (x + (-1))) (x + (-1)) p0 q (frM_trans hfr ⟨fun i i1 i2 i3 => mu_i _ _ _ i1, fun z z1 z2 => mu_z _ _ _ z1, fun _ _ => rfl⟩) (hok.2.2.2.2.2) (hoq) (rpB_fr hq (fun i i1 i2 => mu_i _ _ _ (by omega)) (fun z z1 z2 => mu_z _ _ _ (by omega))) (Or.inl ⟨by omega, ⟨show x + (-1) = (p0.length : Int) by omega, hp.2.2⟩, fun k q1 q2 => htr k q1 (by simp only [List.length_cons]; omega), (by rw [← hres]; show mR _ _ _ _ (Mx 111) p0 q = mR _ _ _ _ (Mx 111) p0 _; rw [show (M0 53 37).toNat - (Mx 111 ((p0.length : Int) + 1)).toNat = 0 by rw [← hx1]; omega]; rfl)⟩) (Nat.lt_of_lt_of_le (by rw [if_neg (by omega)]; show mz _ (Mx 111) p0 < _; exact mz_up (by rw [← hx1]; omega)) (Nat.le_of_lt_succ hn8))
  refine v_lv [1, 2, 3, 0] rfl ?_
  exact hl5 _ (mu M4 111 0 0) 0 ([]) ([]) (frM_trans hf0 ⟨fun i i1 i2 i3 => mu_i _ _ _ (by omega), fun _ _ _ => rfl, fun _ _ => rfl⟩) (trivial) (trivial) (rpB_fr hq0 (fun i i1 i2 => mu_i _ _ _ (by omega)) (fun _ _ _ => rfl)) (Or.inl ⟨rfl, ⟨h620, trivial⟩, fun k q1 q2 => (by obtain rfl : k = 0 := (by simp only [List.length_nil] at q2; omega); exact ⟨Int.le_refl _, (show (0 : Int) ≤ M0 53 37 by omega)⟩), (by rw [hFIN]; show kidsF (mpl M0 []) _ [] _ _ [] = kidsF (mpl M0 []) _ [] _ _ (lkS (M0 78) (gM e M0) [] []); rw [show lkS (M0 78) (gM e M0) [] [] = [] by unfold lkS; split <;> rfl]; rfl)⟩) (Nat.lt_succ_self _)

