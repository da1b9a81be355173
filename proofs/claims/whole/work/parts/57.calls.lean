/-! CALL BY CALL: the answers are alike, and what stands in both stays alike -/
section Frames
variable {N : Nat} {sh : MS} {M M' L L' : MI} {R R' : MR}
theorem iTape_fr (h : iTape M) (e1 : M' 1 1 = M 1 1) (e2 : M' 2 = M 2) (e3 : M' 53 2 = M 53 2) (e4 : M' 54 = M 54) : iTape M' := by
  unfold iTape
  rw [e1, e2, e3, e4]
  exact h
theorem iText_fr (h : iText M R) (e : ∀ i : Nat, 17 ≤ i → i ≤ 29 → i ≠ 23 → M' i = M i) (e2 : M' 53 18 = M 53 18) (e3 : ∀ i : Nat, 61 ≤ i → i ≤ 74 → M' i = M i) (r1 : R' 0 8 = R 0 8) (r2 : R' 0 9 = R 0 9) : iText M' R' := by
  obtain ⟨t, t', ht, a, b, c⟩ := h
  refine ⟨t, t', ht, r1.trans a, r2.trans b, ?_⟩
  have e' : ∀ i : Nat, t ≤ i → i ≤ t + 5 → M' i = M i := fun i i1 i2 => by
    rcases ht with ⟨rfl, rfl⟩ | ⟨rfl, rfl⟩
    · exact e i (by omega) (by omega) (by omega)
    · exact e i (by omega) (by omega) (by omega)
  refine TxEq_fr c (fun i i1 i2 => e' i (by omega) i2) (by rw [e' t (by omega) (by omega)]) e2 (by rw [e3 61 (by decide) (by decide)]) (fun i a b z _ _ => by rw [e3 i (by omega) (by omega)]) (fun i a b z _ _ => by rw [e3 i (by omega) (by omega)]) (fun z _ _ => by rw [e3 73 (by decide) (by decide), e3 74 (by decide) (by decide)]; exact ⟨rfl, rfl⟩)
theorem ShowOk_f9 (h : ShowOk M R sh N) (e : ∀ i : Nat, i = 6 ∨ i = 8 ∨ 112 ≤ i → M' i = M i) (r : ∀ i : Nat, i = 7 ∨ 112 ≤ i → R' i = R i) : ShowOk M' R' sh N := by
  unfold ShowOk ActOk FigOk at h ⊢
  rw [e 6 (by omega), e 8 (by omega), r 7 (by omega)]
  refine ⟨h.1, h.2.1, h.2.2.1, h.2.2.2.1, h.2.2.2.2.1, fun k k0 k1 => ?_⟩
  obtain ⟨a, a1, a2, a3, a4, a5, a6, f, f1, f2, f3, f4, f5⟩ := h.2.2.2.2.2 k k0 k1
  refine ⟨a, a1, a2, a3, a4, ?_⟩
  rw [e a (by omega), r a (by omega)]
  refine ⟨a5, a6, f, f1, f2, f3, f4, fun j j0 j1 => ?_⟩
  obtain ⟨g, g1, g2, g3, g4⟩ := f5 j j0 j1
  refine ⟨g, ?_, g2, g3, ?_⟩
  · rw [r f (by omega)]; exact g1
  · rw [e g (by omega)]; exact g4
theorem iShow_fr (h : iShow M R sh N) (e : ∀ i : Nat, i = 6 ∨ i = 8 ∨ 112 ≤ i → M' i = M i) (r : ∀ i : Nat, i = 7 ∨ 112 ≤ i → R' i = R i) (e53 : ∀ z : Int, z = 37 ∨ z = 49 ∨ z = 51 ∨ z = 52 ∨ z = 53 → M' 53 z = M 53 z) (e2 : ∀ i : Nat, 76 ≤ i → i ≤ 87 → M' i = M i) : iShow M' R' sh N := by
  obtain ⟨h1, h2, h3, h4, h5, h6, h7, h8⟩ := h
  have ea : ∀ a : Int, aId R' a = aId R a := fun a => by unfold aId; rw [r 7 (by omega)]
  have hB : mBnd M' := by
    unfold mBnd
    rw [e53 37 (by omega), e53 49 (by omega), e53 51 (by omega), e53 52 (by omega), e53 53 (by omega), e2 82 (by decide) (by decide), e2 83 (by decide) (by decide), e2 84 (by decide) (by decide), e2 85 (by decide) (by decide), e2 87 (by decide) (by decide)]
    exact h2
  refine ⟨ShowOk_f9 h1 e r, hB, ?_, ?_, ?_, ?_, ?_, fun a a0 a1 => ?_⟩
  · rw [e 6 (by omega), e53 37 (by omega)]; exact h3
  · rw [e 6 (by omega), e53 49 (by omega)]; exact h4
  · rw [e 6 (by omega), e53 51 (by omega)]; exact h5
  · rw [e 6 (by omega), e53 52 (by omega)]; exact h6
  · rw [e 8 (by omega), e2 87 (by decide) (by decide)]; exact h7
  · rw [e 6 (by omega)] at a1
    have q := h8 a a0 a1
    have ok := (actId h1 a0 a1).2
    unfold actEq figEq
    rw [ea, e (aId R a) (by have := ok.1; omega), e2 76 (by decide) (by decide), e2 77 (by decide) (by decide), e2 78 (by decide) (by decide), e2 79 (by decide) (by decide), e2 80 (by decide) (by decide), e2 81 (by decide) (by decide), e2 82 (by decide) (by decide), e2 83 (by decide) (by decide), e2 84 (by decide) (by decide), e2 85 (by decide) (by decide), e2 86 (by decide) (by decide)]
    refine ⟨q.1, fun j j0 j1 => ?_⟩
    obtain ⟨f, f1, f2, f3, f4, f5⟩ := ok.2.2.2.2.2
    obtain ⟨g, g1, g2⟩ := f5 j j0 (by rw [q.1.2.2.2.2.2.2]; exact j1)
    have eg : cG R' (aId R a) j = cG R (aId R a) j := by
      unfold cG
      rw [r (aId R a) (by have := ok.1; omega), f1]
      show (R' f j).getD 0 = (R f j).getD 0
      rw [r f (by omega)]
    have gg : cG R (aId R a) j = g := by
      unfold cG
      rw [f1]
      show (R f j).getD 0 = g
      rw [g1]
      rfl
    rw [eg, gg, e g (by have := g2.1; omega)]
    have z := q.2 j j0 j1
    rw [gg] at z
    exact z
theorem iFact_fr (h : iFact M) (e1 : M' 9 3 = M 9 3) (e2 : M' 10 = M 10) (e3 : M' 11 = M 11) (e4 : M' 12 = M 12) (e5 : M' 53 53 = M 53 53) (e6 : ∀ i : Nat, 88 ≤ i → i ≤ 90 → M' i = M i) : iFact M' := by
  unfold iFact
  rw [e1, e2, e3, e4, e5, e6 88 (by decide) (by decide), e6 89 (by decide) (by decide), e6 90 (by decide) (by decide)]
  exact h
theorem okF_up {A B : Int} (hAB : A ≤ B) : ∀ {p : List Fl}, okF A p → okF B p
  | [], _ => trivial
  | f :: p, o => ⟨⟨o.1.1, by have := o.1.2; omega⟩, o.2.1, o.2.2.1, o.2.2.2.1, o.2.2.2.2.1, okF_up hAB o.2.2.2.2.2⟩
theorem iPlan_fr (h : iPlan M) (e0 : M' 0 7 = M 0 7) (e : ∀ i : Nat, 47 ≤ i → i ≤ 52 → M' i = M i) (e6 : M 6 1 ≤ M' 6 1) (e1 : M' 53 68 = M 53 68) (e2 : M' 53 69 = M 53 69) (e3 : ∀ i : Nat, 101 ≤ i → i ≤ 105 → M' i = M i) : iPlan M' := by
  obtain ⟨wo, q, h1, h2, h3⟩ := h
  refine ⟨wo, q, okF_up e6 h1, ?_, ?_⟩
  · unfold rZ at h2 ⊢
    rw [e 47 (by decide) (by decide), e 48 (by decide) (by decide), e 49 (by decide) (by decide), e 50 (by decide) (by decide), e 51 (by decide) (by decide), e 52 (by decide) (by decide)]
    exact h2
  · unfold rpP at h3 ⊢
    rw [e0, e1, e2, e3 101 (by decide) (by decide), e3 102 (by decide) (by decide), e3 103 (by decide) (by decide), e3 104 (by decide) (by decide), e3 105 (by decide) (by decide)]
    exact h3
end Frames
section Calls
variable {N : Nat} {sh : MS} {M M1 M2 L : MI} {R : MR} {r r2 : Int}
theorem app4_same {f f' : Int → Int} {n w : Int} (h : ∀ z : Int, 0 ≤ z → z < n → f z = f' z) : ∀ z : Int, 0 ≤ z → z < n + 4 → app4 f n w z = app4 f' n w z := by
  intro z z0 z1
  unfold app4
  repeat' split
  all_goals first | rfl | exact h z z0 (by omega)
theorem app20_same {f f' : Int → Int} {n a b c d e : Int} (h : ∀ z : Int, 0 ≤ z → z < n → f z = f' z) : ∀ z : Int, 0 ≤ z → z < n + 20 → app20 f n a b c d e z = app20 f' n a b c d e z := by
  unfold app20
  have h1 := app4_same (w := a) h
  have h2 := app4_same (w := b) h1
  have h3 := app4_same (n := n + 8) (w := c) (fun z z0 z1 => h2 z z0 (by omega))
  have h4 := app4_same (n := n + 12) (w := d) (fun z z0 z1 => h3 z z0 (by omega))
  have h5 := app4_same (n := n + 16) (w := e) (fun z z0 z1 => h4 z z0 (by omega))
  exact fun z z0 z1 => h5 z z0 (by omega)
theorem s_feed {a b c d e : Int} (h : Inv N sh M L R) (p1 : if M 1 1 + 20 ≤ 2000 then r = M 1 1 + 20 ∧ M1 = mrow (mu M 1 1 (M 1 1 + 20)) 2 (app20 (M 2) (M 1 1) a b c d e) else r = -1 ∧ M1 = M) (p2 : if M1 53 2 + 20 ≤ 2000 then r2 = M1 53 2 + 20 ∧ M2 = mrow (mu M1 53 2 (M1 53 2 + 20)) 54 (app20 (M1 54) (M1 53 2) a b c d e) else r2 = -1 ∧ M2 = M1) : r = r2 ∧ Inv N sh M2 L R := by
  obtain ⟨h1, h2, h3, h4, h5, h6, h7, h8⟩ := h
  by_cases q : M 1 1 + 20 ≤ 2000
  · rw [if_pos q] at p1
    obtain ⟨rfl, rfl⟩ := p1
    have e2 : (mrow (mu M 1 1 (M 1 1 + 20)) 2 (app20 (M 2) (M 1 1) a b c d e)) 53 2 = M 1 1 := by rw [h3.1]; rfl
    rw [e2, if_pos q] at p2
    obtain ⟨rfl, rfl⟩ := p2
    refine ⟨rfl, h1, h2, ⟨rfl, ?_, ?_⟩, h4, iText_fr h5 (fun i a b _ => by rw [mrow_i _ _ (by omega), mu_i _ _ _ (by omega), mrow_i _ _ (by omega), mu_i _ _ _ (by omega)]) rfl (fun i a b => by rw [mrow_i _ _ (by omega), mu_i _ _ _ (by omega), mrow_i _ _ (by omega), mu_i _ _ _ (by omega)]) rfl rfl, iShow_fr h6 (fun i hi => by rw [mrow_i _ _ (by omega), mu_i _ _ _ (by omega), mrow_i _ _ (by omega), mu_i _ _ _ (by omega)]) (fun _ _ => rfl) (fun z hz => by rw [mrow_i _ _ (by decide), mu_z _ _ _ (by omega)]; rfl) (fun i a b => by rw [mrow_i _ _ (by omega), mu_i _ _ _ (by omega), mrow_i _ _ (by omega), mu_i _ _ _ (by omega)]), iFact_fr h7 rfl rfl rfl rfl rfl (fun i a b => by rw [mrow_i _ _ (by omega), mu_i _ _ _ (by omega), mrow_i _ _ (by omega), mu_i _ _ _ (by omega)]), iPlan_fr h8 rfl (fun i a b => by rw [mrow_i _ _ (by omega), mu_i _ _ _ (by omega), mrow_i _ _ (by omega), mu_i _ _ _ (by omega)]) (Int.le_refl _) rfl rfl (fun i a b => by rw [mrow_i _ _ (by omega), mu_i _ _ _ (by omega), mrow_i _ _ (by omega), mu_i _ _ _ (by omega)])⟩
    · show 0 ≤ M 1 1 + 20 ∧ M 1 1 + 20 ≤ 2000
      have := h3.2.1
      omega
    · intro z z0 z1
      exact app20_same h3.2.2 z z0 z1
  · rw [if_neg q] at p1
    obtain ⟨rfl, rfl⟩ := p1
    rw [← h3.1, if_neg q] at p2
    obtain ⟨rfl, rfl⟩ := p2
    exact ⟨rfl, h1, h2, h3, h4, h5, h6, h7, h8⟩
theorem s_back {a : Int} (h : Inv N sh M L R) (p1 : if 0 ≤ a ∧ a ≤ M 1 1 then r = M 1 1 - a ∧ M1 = mu M 1 1 (M 1 1 - a) else r = -1 ∧ M1 = M) (p2 : if 0 ≤ a ∧ a ≤ M1 53 2 then r2 = M1 53 2 - a ∧ M2 = mu M1 53 2 (M1 53 2 - a) else r2 = -1 ∧ M2 = M1) : r = r2 ∧ Inv N sh M2 L R := by
  obtain ⟨h1, h2, h3, h4, h5, h6, h7, h8⟩ := h
  by_cases q : 0 ≤ a ∧ a ≤ M 1 1
  · rw [if_pos q] at p1
    obtain ⟨rfl, rfl⟩ := p1
    have e2 : (mu M 1 1 (M 1 1 - a)) 53 2 = M 1 1 := by rw [h3.1]; rfl
    rw [e2, if_pos q] at p2
    obtain ⟨rfl, rfl⟩ := p2
    refine ⟨rfl, h1, h2, ⟨rfl, ?_, fun z z0 z1 => ?_⟩, h4, iText_fr h5 (fun i a b _ => by rw [mu_i _ _ _ (by omega), mu_i _ _ _ (by omega)]) rfl (fun i a b => by rw [mu_i _ _ _ (by omega), mu_i _ _ _ (by omega)]) rfl rfl, iShow_fr h6 (fun i hi => by rw [mu_i _ _ _ (by omega), mu_i _ _ _ (by omega)]) (fun _ _ => rfl) (fun z hz => by rw [mu_z _ _ _ (by omega)]; rfl) (fun i a b => by rw [mu_i _ _ _ (by omega), mu_i _ _ _ (by omega)]), iFact_fr h7 rfl rfl rfl rfl rfl (fun i a b => by rw [mu_i _ _ _ (by omega), mu_i _ _ _ (by omega)]), iPlan_fr h8 rfl (fun i a b => by rw [mu_i _ _ _ (by omega), mu_i _ _ _ (by omega)]) (Int.le_refl _) rfl rfl (fun i a b => by rw [mu_i _ _ _ (by omega), mu_i _ _ _ (by omega)])⟩
    · show 0 ≤ M 1 1 - a ∧ M 1 1 - a ≤ 2000
      have := h3.2.1
      omega
    · have z1 : z < M 1 1 - a := z1
      exact h3.2.2 z z0 (by omega)
  · rw [if_neg q] at p1
    obtain ⟨rfl, rfl⟩ := p1
    rw [← h3.1, if_neg q] at p2
    obtain ⟨rfl, rfl⟩ := p2
    exact ⟨rfl, h1, h2, h3, h4, h5, h6, h7, h8⟩
end Calls
