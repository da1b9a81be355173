/-! MORE CALLS: falls, cell, ground, facts, looking -/
section Calls2
variable {N : Nat} {sh : MS} {M M' M1 M2 L : MI} {R : MR} {r r2 : Int}
theorem iShow_set (h : iShow M R sh N) (e : ∀ i : Nat, 112 ≤ i → M' i = M i) (n1 : M' 6 1 = M 6 1) (n37 : M' 53 37 = M 53 37) (n53 : 0 ≤ M' 53 53 ∧ M' 53 53 ≤ 100) (e2 : ∀ i : Nat, 76 ≤ i → i ≤ 86 → M' i = M i) (a3 : (M' 6 3 = 0 ∧ M' 53 49 = 10) ∨ (M' 6 3 = 1 ∧ M' 53 49 = -1)) (a4 : M' 6 4 = M' 53 51 ∧ 0 ≤ M' 6 4 ∧ M' 6 4 ≤ 50) (a5 : M' 6 5 = M' 53 52 ∧ 0 ≤ M' 6 5 ∧ M' 6 5 ≤ 300) (a8 : ∀ k : Int, 0 ≤ M' 8 k ∧ M' 8 k ≤ 99) (a87 : ∀ k : Int, 0 ≤ M' 87 k ∧ M' 87 k ≤ 99) (a9 : ∀ z : Int, 0 ≤ z → z < 10 → M' 8 z = M' 87 z) : iShow M' R sh N := by
  obtain ⟨h1, h2, h3, h4, h5, h6, h7, h8⟩ := h
  have hO : ShowOk M' R sh N := by
    refine ⟨by rw [n1]; exact h1.1, by omega, a4.2, a5.2, a8, fun k k0 k1 => ?_⟩
    rw [n1] at k1
    obtain ⟨a, x1, x2, x3, x4, x5, x6, f, f1, f2, f3, f4, f5⟩ := h1.2.2.2.2.2 k k0 k1
    refine ⟨a, x1, x2, x3, x4, by rw [e a x2]; exact x5, by rw [e a x2]; exact x6, f, f1, f2, f3, f4, fun j j0 j1 => ?_⟩
    rw [e a x2] at j1
    obtain ⟨g, g1, g2, g3, g4⟩ := f5 j j0 j1
    exact ⟨g, g1, g2, g3, by rw [e g g2]; exact g4⟩
  have hB : mBnd M' := by
    unfold mBnd
    rw [n37, e2 82 (by decide) (by decide), e2 83 (by decide) (by decide), e2 84 (by decide) (by decide), e2 85 (by decide) (by decide), ← a4.1, ← a5.1]
    exact ⟨h2.1, by omega, a4.2, a5.2, n53, a87, h2.2.2.2.2.2.2⟩
  refine ⟨hO, hB, by rw [n1, n37]; exact h3, a3, a4.1, a5.1, a9, fun a a0 a1 => ?_⟩
  rw [n1] at a1
  have q := h8 a a0 a1
  have ok := (actId h1 a0 a1).2
  unfold actEq figEq
  rw [e (aId R a) ok.1, e2 76 (by decide) (by decide), e2 77 (by decide) (by decide), e2 78 (by decide) (by decide), e2 79 (by decide) (by decide), e2 80 (by decide) (by decide), e2 81 (by decide) (by decide), e2 82 (by decide) (by decide), e2 83 (by decide) (by decide), e2 84 (by decide) (by decide), e2 85 (by decide) (by decide), e2 86 (by decide) (by decide)]
  refine ⟨q.1, fun j j0 j1 => ?_⟩
  obtain ⟨f, f1, f2, f3, f4, f5⟩ := ok.2.2.2.2.2
  obtain ⟨g, g1, g2⟩ := f5 j j0 (by rw [q.1.2.2.2.2.2.2]; exact j1)
  have gg : cG R (aId R a) j = g := by
    unfold cG
    rw [f1]
    show (R f j).getD 0 = g
    rw [g1]
    rfl
  have z := q.2 j j0 j1
  rw [gg] at z ⊢
  rw [e g g2.1]
  exact z
theorem filz_b {f : Int → Int} (h : ∀ k : Int, 0 ≤ f k ∧ f k ≤ 99) (k : Int) : 0 ≤ filz f 10 0 k ∧ filz f 10 0 k ≤ 99 := by
  unfold filz
  split
  · omega
  · exact h k
theorem s_falls {a : Int} (h : Inv N sh M L R) (p1 : if a = 10 ∨ a = -1 then r = 1 ∧ M1 = mrow (mu M 6 3 (if a = -1 then 1 else 0)) 8 (filz (M 8) 10 0) else r = 0 ∧ M1 = M) (p2 : if a = 10 ∨ a = -1 then r2 = 1 ∧ M2 = mrow (mu M1 53 49 a) 87 (filz (M1 87) 10 0) else r2 = 0 ∧ M2 = M1) : r = r2 ∧ Inv N sh M2 L R := by
  obtain ⟨h1, h2, h3, h4, h5, h6, h7, h8⟩ := h
  by_cases q : a = 10 ∨ a = -1
  · rw [if_pos q] at p1 p2
    obtain ⟨rfl, rfl⟩ := p1
    obtain ⟨rfl, rfl⟩ := p2
    have fr : ∀ i : Nat, i ≠ 6 → i ≠ 8 → i ≠ 53 → i ≠ 87 → mrow (mu (mrow (mu M 6 3 (if a = -1 then 1 else 0)) 8 (filz (M 8) 10 0)) 53 49 a) 87 (filz (mrow (mu M 6 3 (if a = -1 then 1 else 0)) 8 (filz (M 8) 10 0) 87) 10 0) i = M i := fun i a b c d => by rw [mrow_i _ _ d, mu_i _ _ _ c, mrow_i _ _ b, mu_i _ _ _ a]
    refine ⟨rfl, h1, h2, iTape_fr h3 rfl rfl rfl rfl, h4, iText_fr h5 (fun i a b _ => fr i (by omega) (by omega) (by omega) (by omega)) rfl (fun i a b => fr i (by omega) (by omega) (by omega) (by omega)) rfl rfl, iShow_set h6 (fun i hi => fr i (by omega) (by omega) (by omega) (by omega)) rfl rfl h6.2.1.2.2.2.2.1 (fun i a b => fr i (by omega) (by omega) (by omega) (by omega)) ?_ ⟨h6.2.2.2.2.1, h6.1.2.2.1⟩ ⟨h6.2.2.2.2.2.1, h6.1.2.2.2.1⟩ (fun k => filz_b h6.1.2.2.2.2.1 k) (fun k => filz_b h6.2.1.2.2.2.2.2.1 k) (fun z z0 z1 => ?_), iFact_fr h7 rfl rfl rfl rfl rfl (fun i a b => fr i (by omega) (by omega) (by omega) (by omega)), iPlan_fr h8 rfl (fun i a b => fr i (by omega) (by omega) (by omega) (by omega)) (Int.le_refl _) rfl rfl (fun i a b => fr i (by omega) (by omega) (by omega) (by omega))⟩
    · show ((if a = -1 then (1 : Int) else 0) = 0 ∧ a = 10) ∨ ((if a = -1 then (1 : Int) else 0) = 1 ∧ a = -1)
      rcases q with q | q
      · rw [if_neg (by omega)]; exact Or.inl ⟨rfl, q⟩
      · rw [if_pos q]; exact Or.inr ⟨rfl, q⟩
    · show filz (M 8) 10 0 z = filz (M 87) 10 0 z
      unfold filz
      rw [if_pos ⟨z0, z1⟩, if_pos ⟨z0, z1⟩]
  · rw [if_neg q] at p1 p2
    obtain ⟨rfl, rfl⟩ := p1
    obtain ⟨rfl, rfl⟩ := p2
    exact ⟨rfl, h1, h2, h3, h4, h5, h6, h7, h8⟩
theorem s_cell {a b : Int} (h : Inv N sh M L R) (p1 : if M 6 3 = 0 ∧ 0 ≤ a ∧ a ≤ 9 ∧ 0 ≤ b ∧ b ≤ 99 then r = 1 ∧ M1 = mu M 8 a b else r = 0 ∧ M1 = M) (p2 : if 0 ≤ a ∧ a < M1 53 49 ∧ 0 ≤ b ∧ b ≤ 99 then r2 = 1 ∧ M2 = mu M1 87 a b else r2 = 0 ∧ M2 = M1) : r = r2 ∧ Inv N sh M2 L R := by
  obtain ⟨h1, h2, h3, h4, h5, h6, h7, h8⟩ := h
  have f := h6.2.2.2.1
  by_cases q : M 6 3 = 0 ∧ 0 ≤ a ∧ a ≤ 9 ∧ 0 ≤ b ∧ b ≤ 99
  · rw [if_pos q] at p1
    obtain ⟨rfl, rfl⟩ := p1
    have e : (mu M 8 a b) 53 49 = M 53 49 := rfl
    rw [e, if_pos (by omega)] at p2
    obtain ⟨rfl, rfl⟩ := p2
    have fr : ∀ i : Nat, i ≠ 8 → i ≠ 87 → mu (mu M 8 a b) 87 a b i = M i := fun i c d => by rw [mu_i _ _ _ d, mu_i _ _ _ c]
    have bb : ∀ f : Int → Int, (∀ k : Int, 0 ≤ f k ∧ f k ≤ 99) → ∀ k : Int, 0 ≤ (if k = a then b else f k) ∧ (if k = a then b else f k) ≤ 99 := fun f hf k => by
      split
      · omega
      · exact hf k
    refine ⟨rfl, h1, h2, iTape_fr h3 rfl rfl rfl rfl, h4, iText_fr h5 (fun i _ _ _ => fr i (by omega) (by omega)) rfl (fun i _ _ => fr i (by omega) (by omega)) rfl rfl, iShow_set h6 (fun i hi => fr i (by omega) (by omega)) rfl rfl h6.2.1.2.2.2.2.1 (fun i _ _ => fr i (by omega) (by omega)) f ⟨h6.2.2.2.2.1, h6.1.2.2.1⟩ ⟨h6.2.2.2.2.2.1, h6.1.2.2.2.1⟩ (fun k => bb _ h6.1.2.2.2.2.1 k) (fun k => bb _ h6.2.1.2.2.2.2.2.1 k) (fun z z0 z1 => ?_), iFact_fr h7 rfl rfl rfl rfl rfl (fun i _ _ => fr i (by omega) (by omega)), iPlan_fr h8 rfl (fun i _ _ => fr i (by omega) (by omega)) (Int.le_refl _) rfl rfl (fun i _ _ => fr i (by omega) (by omega))⟩
    show (if z = a then b else M 8 z) = (if z = a then b else M 87 z)
    rw [h6.2.2.2.2.2.2.1 z z0 z1]
  · rw [if_neg q] at p1
    obtain ⟨rfl, rfl⟩ := p1
    rw [if_neg (by omega)] at p2
    obtain ⟨rfl, rfl⟩ := p2
    exact ⟨rfl, h1, h2, h3, h4, h5, h6, h7, h8⟩
theorem s_ground {a b : Int} (h : Inv N sh M L R) (p1 : if 0 ≤ a ∧ a ≤ 50 ∧ 0 ≤ b ∧ b ≤ 300 then r = 1 ∧ M1 = mu (mu M 6 4 a) 6 5 b else r = 0 ∧ M1 = M) (p2 : if 0 ≤ a ∧ a ≤ 50 ∧ 0 ≤ b ∧ b ≤ 300 then r2 = 1 ∧ M2 = mu (mu M1 53 51 a) 53 52 b else r2 = 0 ∧ M2 = M1) : r = r2 ∧ Inv N sh M2 L R := by
  obtain ⟨h1, h2, h3, h4, h5, h6, h7, h8⟩ := h
  by_cases q : 0 ≤ a ∧ a ≤ 50 ∧ 0 ≤ b ∧ b ≤ 300
  · rw [if_pos q] at p1 p2
    obtain ⟨rfl, rfl⟩ := p1
    obtain ⟨rfl, rfl⟩ := p2
    have fr : ∀ i : Nat, i ≠ 6 → i ≠ 53 → mu (mu (mu (mu M 6 4 a) 6 5 b) 53 51 a) 53 52 b i = M i := fun i c d => by rw [mu_i _ _ _ d, mu_i _ _ _ d, mu_i _ _ _ c, mu_i _ _ _ c]
    exact ⟨rfl, h1, h2, iTape_fr h3 rfl rfl rfl rfl, h4, iText_fr h5 (fun i _ _ _ => fr i (by omega) (by omega)) rfl (fun i _ _ => fr i (by omega) (by omega)) rfl rfl, iShow_set h6 (fun i hi => fr i (by omega) (by omega)) rfl rfl h6.2.1.2.2.2.2.1 (fun i _ _ => fr i (by omega) (by omega)) h6.2.2.2.1 ⟨rfl, show 0 ≤ a ∧ a ≤ 50 by omega⟩ ⟨rfl, show 0 ≤ b ∧ b ≤ 300 by omega⟩ h6.1.2.2.2.2.1 h6.2.1.2.2.2.2.2.1 h6.2.2.2.2.2.2.1, iFact_fr h7 rfl rfl rfl rfl rfl (fun i _ _ => fr i (by omega) (by omega)), iPlan_fr h8 rfl (fun i _ _ => fr i (by omega) (by omega)) (Int.le_refl _) rfl rfl (fun i _ _ => fr i (by omega) (by omega))⟩
  · rw [if_neg q] at p1 p2
    obtain ⟨rfl, rfl⟩ := p1
    obtain ⟨rfl, rfl⟩ := p2
    exact ⟨rfl, h1, h2, h3, h4, h5, h6, h7, h8⟩
/-- a fact more, of sort S in the class, S' in the model -/
theorem s_fact1 {S S' a b : Int} (h : Inv N sh M L R) (hl : M 9 3 < 100) (hok : FactOk S a b ∧ S ≠ 3 ∧ FactOk S' a b ∧ S = if S' = 3 then 1 else S') (p1 : M1 = mu (mu (mu (mu M 10 (M 9 3) S) 11 (M 9 3) a) 12 (M 9 3) b) 9 3 ((M 9 3) + 1)) (p2 : M2 = mu (mu (mu (mu M1 88 (M1 53 53) S') 89 (M1 53 53) a) 90 (M1 53 53) b) 53 53 ((M1 53 53) + 1)) : M1 53 53 = M 9 3 ∧ Inv N sh M2 L R := by
  obtain ⟨h1, h2, h3, h4, h5, h6, h7, h8⟩ := h
  have e : M1 53 53 = M 9 3 := by rw [p1, h7.1]; rfl
  refine ⟨e, ?_⟩
  rw [e] at p2
  subst p1
  subst p2
  have fr : ∀ i : Nat, i ≠ 9 → i ≠ 10 → i ≠ 11 → i ≠ 12 → i ≠ 53 → i ≠ 88 → i ≠ 89 → i ≠ 90 → mu (mu (mu (mu (mu (mu (mu (mu M 10 (M 9 3) S) 11 (M 9 3) a) 12 (M 9 3) b) 9 3 (M 9 3 + 1)) 88 (M 9 3) S') 89 (M 9 3) a) 90 (M 9 3) b) 53 53 (M 9 3 + 1) i = M i := fun i a1 a2 a3 a4 a5 a6 a7 a8 => by rw [mu_i _ _ _ a5, mu_i _ _ _ a8, mu_i _ _ _ a7, mu_i _ _ _ a6, mu_i _ _ _ a1, mu_i _ _ _ a4, mu_i _ _ _ a3, mu_i _ _ _ a2]
  have f53 : ∀ z : Int, z ≠ 53 → mu (mu (mu (mu (mu (mu (mu (mu M 10 (M 9 3) S) 11 (M 9 3) a) 12 (M 9 3) b) 9 3 (M 9 3 + 1)) 88 (M 9 3) S') 89 (M 9 3) a) 90 (M 9 3) b) 53 53 (M 9 3 + 1) 53 z = M 53 z := fun z hz => by rw [mu_z _ _ _ hz]; rfl
  have hbb := h7.2.1
  refine ⟨h1, h2, iTape_fr h3 rfl rfl rfl rfl, h4, iText_fr h5 (fun i _ _ _ => fr i (by omega) (by omega) (by omega) (by omega) (by omega) (by omega) (by omega) (by omega)) rfl (fun i _ _ => fr i (by omega) (by omega) (by omega) (by omega) (by omega) (by omega) (by omega) (by omega)) rfl rfl, iShow_set h6 (fun i hi => fr i (by omega) (by omega) (by omega) (by omega) (by omega) (by omega) (by omega) (by omega)) rfl rfl (show 0 ≤ M 9 3 + 1 ∧ M 9 3 + 1 ≤ 100 by omega) (fun i _ _ => fr i (by omega) (by omega) (by omega) (by omega) (by omega) (by omega) (by omega) (by omega)) h6.2.2.2.1 ⟨h6.2.2.2.2.1, h6.1.2.2.1⟩ ⟨h6.2.2.2.2.2.1, h6.1.2.2.2.1⟩ h6.1.2.2.2.2.1 h6.2.1.2.2.2.2.2.1 h6.2.2.2.2.2.2.1, ⟨rfl, show 0 ≤ M 9 3 + 1 ∧ M 9 3 + 1 ≤ 100 by omega, fun k k0 k1 => ?_⟩, iPlan_fr h8 rfl (fun i _ _ => fr i (by omega) (by omega) (by omega) (by omega) (by omega) (by omega) (by omega) (by omega)) (Int.le_refl _) rfl rfl (fun i _ _ => fr i (by omega) (by omega) (by omega) (by omega) (by omega) (by omega) (by omega) (by omega))⟩
  have k1 : k < M 9 3 + 1 := k1
  show (FactOk (if k = M 9 3 then S else M 10 k) (if k = M 9 3 then a else M 11 k) (if k = M 9 3 then b else M 12 k) ∧ (if k = M 9 3 then S else M 10 k) ≠ 3) ∧ FactOk (if k = M 9 3 then S' else M 88 k) (if k = M 9 3 then a else M 89 k) (if k = M 9 3 then b else M 90 k) ∧ (if k = M 9 3 then a else M 11 k) = (if k = M 9 3 then a else M 89 k) ∧ (if k = M 9 3 then b else M 12 k) = (if k = M 9 3 then b else M 90 k) ∧ (if k = M 9 3 then S else M 10 k) = if (if k = M 9 3 then S' else M 88 k) = 3 then 1 else (if k = M 9 3 then S' else M 88 k)
  by_cases c : k = M 9 3
  · simp only [if_pos c]
    exact ⟨⟨hok.1, hok.2.1⟩, hok.2.2.1, trivial, trivial, hok.2.2.2⟩
  · simp only [if_neg c]
    exact h7.2.2 k k0 (by omega)
theorem s_base {a b : Int} (h : Inv N sh M L R) (p1 : if M 9 3 < 100 ∧ 0 ≤ a ∧ a < 240 ∧ 0 ≤ b ∧ b ≤ 9 then r = M 9 3 ∧ M1 = mu (mu (mu (mu M 10 (M 9 3) 0) 11 (M 9 3) a) 12 (M 9 3) b) 9 3 ((M 9 3) + 1) else r = -1 ∧ M1 = M) (p2 : if M1 53 53 < 100 ∧ 0 ≤ a ∧ a < 240 ∧ 0 ≤ b ∧ b ≤ 9 then r2 = M1 53 53 ∧ M2 = mu (mu (mu (mu M1 88 (M1 53 53) 0) 89 (M1 53 53) a) 90 (M1 53 53) b) 53 53 ((M1 53 53) + 1) else r2 = -1 ∧ M2 = M1) : r = r2 ∧ Inv N sh M2 L R := by
  by_cases q : M 9 3 < 100 ∧ 0 ≤ a ∧ a < 240 ∧ 0 ≤ b ∧ b ≤ 9
  · rw [if_pos q] at p1
    have e : M1 53 53 = M 9 3 := by rw [p1.2, h.2.2.2.2.2.2.1.1]; rfl
    rw [if_pos (by omega)] at p2
    have z := s_fact1 h q.1 ⟨Or.inl ⟨rfl, by omega⟩, by decide, Or.inl ⟨rfl, by omega⟩, rfl⟩ p1.2 p2.2
    exact ⟨by omega, z.2⟩
  · rw [if_neg q] at p1
    have e : M1 53 53 = M 9 3 := by rw [p1.2, h.2.2.2.2.2.2.1.1]
    rw [if_neg (by omega)] at p2
    exact ⟨by omega, by rw [p2.2, p1.2]; exact h⟩
theorem s_birds {a b : Int} (h : Inv N sh M L R) (p1 : if M 9 3 < 100 ∧ 0 ≤ a ∧ a < b ∧ b ≤ 240 then r = M 9 3 ∧ M1 = mu (mu (mu (mu M 10 (M 9 3) 1) 11 (M 9 3) a) 12 (M 9 3) b) 9 3 ((M 9 3) + 1) else r = -1 ∧ M1 = M) (p2 : if M1 53 53 < 100 ∧ 0 ≤ a ∧ a < b ∧ b ≤ 240 then r2 = M1 53 53 ∧ M2 = mu (mu (mu (mu M1 88 (M1 53 53) 1) 89 (M1 53 53) a) 90 (M1 53 53) b) 53 53 ((M1 53 53) + 1) else r2 = -1 ∧ M2 = M1) : r = r2 ∧ Inv N sh M2 L R := by
  by_cases q : M 9 3 < 100 ∧ 0 ≤ a ∧ a < b ∧ b ≤ 240
  · rw [if_pos q] at p1
    have e : M1 53 53 = M 9 3 := by rw [p1.2, h.2.2.2.2.2.2.1.1]; rfl
    rw [if_pos (by omega)] at p2
    have z := s_fact1 h q.1 ⟨Or.inr (Or.inr ⟨Or.inl rfl, by omega⟩), by decide, Or.inr (Or.inr ⟨Or.inl rfl, by omega⟩), rfl⟩ p1.2 p2.2
    exact ⟨by omega, z.2⟩
  · rw [if_neg q] at p1
    have e : M1 53 53 = M 9 3 := by rw [p1.2, h.2.2.2.2.2.2.1.1]
    rw [if_neg (by omega)] at p2
    exact ⟨by omega, by rw [p2.2, p1.2]; exact h⟩
theorem s_away {a b : Int} (h : Inv N sh M L R) (p1 : if M 9 3 < 100 ∧ 0 ≤ a ∧ a < b ∧ b ≤ 240 then r = M 9 3 ∧ M1 = mu (mu (mu (mu M 10 (M 9 3) 1) 11 (M 9 3) a) 12 (M 9 3) b) 9 3 ((M 9 3) + 1) else r = -1 ∧ M1 = M) (p2 : if M1 53 53 < 100 ∧ 0 ≤ a ∧ a < b ∧ b ≤ 240 then r2 = M1 53 53 ∧ M2 = mu (mu (mu (mu M1 88 (M1 53 53) 3) 89 (M1 53 53) a) 90 (M1 53 53) b) 53 53 ((M1 53 53) + 1) else r2 = -1 ∧ M2 = M1) : r = r2 ∧ Inv N sh M2 L R := by
  by_cases q : M 9 3 < 100 ∧ 0 ≤ a ∧ a < b ∧ b ≤ 240
  · rw [if_pos q] at p1
    have e : M1 53 53 = M 9 3 := by rw [p1.2, h.2.2.2.2.2.2.1.1]; rfl
    rw [if_pos (by omega)] at p2
    have z := s_fact1 h q.1 ⟨Or.inr (Or.inr ⟨Or.inl rfl, by omega⟩), by decide, Or.inr (Or.inr ⟨Or.inr rfl, by omega⟩), rfl⟩ p1.2 p2.2
    exact ⟨by omega, z.2⟩
  · rw [if_neg q] at p1
    have e : M1 53 53 = M 9 3 := by rw [p1.2, h.2.2.2.2.2.2.1.1]
    rw [if_neg (by omega)] at p2
    exact ⟨by omega, by rw [p2.2, p1.2]; exact h⟩
theorem s_ready {a b : Int} (h : Inv N sh M L R) (p1 : if M 9 3 < 100 ∧ 0 ≤ a ∧ a < M 6 1 ∧ 0 ≤ b ∧ b < 240 then r = M 9 3 ∧ M1 = mu (mu (mu (mu M 10 (M 9 3) 2) 11 (M 9 3) a) 12 (M 9 3) b) 9 3 ((M 9 3) + 1) else r = -1 ∧ M1 = M) (p2 : if M1 53 53 < 100 ∧ 0 ≤ a ∧ a < M1 53 37 ∧ 0 ≤ b ∧ b < 240 then r2 = M1 53 53 ∧ M2 = mu (mu (mu (mu M1 88 (M1 53 53) 2) 89 (M1 53 53) a) 90 (M1 53 53) b) 53 53 ((M1 53 53) + 1) else r2 = -1 ∧ M2 = M1) : r = r2 ∧ Inv N sh M2 L R := by
  have h61 := h.2.2.2.2.2.1.2.2.1
  have b61 := h.2.2.2.2.2.1.1.1
  by_cases q : M 9 3 < 100 ∧ 0 ≤ a ∧ a < M 6 1 ∧ 0 ≤ b ∧ b < 240
  · rw [if_pos q] at p1
    have e : M1 53 53 = M 9 3 := by rw [p1.2, h.2.2.2.2.2.2.1.1]; rfl
    have e2 : M1 53 37 = M 6 1 := by rw [p1.2, h61]; rfl
    rw [if_pos (by omega)] at p2
    have z := s_fact1 h q.1 ⟨Or.inr (Or.inl ⟨rfl, by omega⟩), by decide, Or.inr (Or.inl ⟨rfl, by omega⟩), rfl⟩ p1.2 p2.2
    exact ⟨by omega, z.2⟩
  · rw [if_neg q] at p1
    have e : M1 53 53 = M 9 3 := by rw [p1.2, h.2.2.2.2.2.2.1.1]
    have e2 : M1 53 37 = M 6 1 := by rw [p1.2, h61]
    rw [if_neg (by omega)] at p2
    exact ⟨by omega, by rw [p2.2, p1.2]; exact h⟩
theorem s_refused {a b : Int} (h : Inv N sh M L R) (p1 : r = if 0 ≤ a ∧ a < M 6 1 ∧ 0 ≤ b ∧ b < M (aId R a) 7 then (if M 6 5 ≤ cFar M (cG R (aId R a) b) then 1 else 0) else -1) (p2 : r2 = if 0 ≤ a ∧ a < M 53 37 ∧ 0 ≤ b ∧ b < M 82 a then (if M 53 52 ≤ mFar M (6 * a + b) then 1 else 0) else -1) : r = r2 := by
  have hS := h.2.2.2.2.2.1
  rw [p1, p2, ← hS.2.2.1]
  by_cases q : 0 ≤ a ∧ a < M 6 1
  · have e := hS.2.2.2.2.2.2.2 a q.1 q.2
    rw [e.1.2.2.2.2.2.2]
    by_cases c : 0 ≤ a ∧ a < M 6 1 ∧ 0 ≤ b ∧ b < M 82 a
    · rw [if_pos c, if_pos c, far_same hS (e.2 b c.2.2.1 c.2.2.2), hS.2.2.2.2.2.1]
    · rw [if_neg c, if_neg c]
  · rw [if_neg (fun z => q ⟨z.1, z.2.1⟩), if_neg (fun z => q ⟨z.1, z.2.1⟩)]
theorem s_length {a b : Int} (h : Inv N sh M L R) (p1 : r = if 0 ≤ a ∧ a < M 6 1 ∧ 0 ≤ b ∧ b ≤ 9 then cLen M R (aId R a) b else -1) (p2 : r2 = if 0 ≤ a ∧ a < M 53 37 ∧ 0 ≤ b ∧ b ≤ 9 then mLen M a b else -1) : r = r2 := by
  have hS := h.2.2.2.2.2.1
  rw [p1, p2, ← hS.2.2.1]
  by_cases c : 0 ≤ a ∧ a < M 6 1 ∧ 0 ≤ b ∧ b ≤ 9
  · rw [if_pos c, if_pos c, len_same hS c.1 c.2.1]
  · rw [if_neg c, if_neg c]
theorem s_baseIn {m n : Int} (h : Inv N sh M L R) (p1 : if 0 ≤ m ∧ m < 240 ∧ 0 ≤ n ∧ n ≤ M 9 3 then r = bsAt (M 10) (M 11) (M 12) n.toNat m.toNat ∧ M1 = mrow (mrow (mrow M 14 (bsRow (M 10) (M 11) (M 12) n.toNat 240 (M 14))) 16 (rdRow (M 10) (M 11) (M 12) n.toNat (M 16))) 15 (opRow (fun z => shAt (M 10) (M 11) (M 12) z n.toNat) (M 15)) else r = -1 ∧ M1 = M) (p2 : if 0 ≤ m ∧ m < 240 ∧ 0 ≤ n ∧ n ≤ M1 53 53 then r2 = bsAt (M1 88) (M1 89) (M1 90) n.toNat m.toNat ∧ M2 = mrow (mrow (mrow M1 91 (bsRow (M1 88) (M1 89) (M1 90) n.toNat 240 (M1 91))) 92 (shRow (M1 88) (M1 89) (M1 90) n.toNat (M1 92))) 93 (rdRow (M1 88) (M1 89) (M1 90) n.toNat (M1 93)) else r2 = -1 ∧ M2 = M1) : r = r2 ∧ Inv N sh M2 L R := by
  obtain ⟨h1, h2, h3, h4, h5, h6, h7, h8⟩ := h
  by_cases q : 0 ≤ m ∧ m < 240 ∧ 0 ≤ n ∧ n ≤ M 9 3
  · rw [if_pos q] at p1
    obtain ⟨p1a, p1b⟩ := p1
    have e : M1 53 53 = M 9 3 := by rw [p1b, h7.1]; rfl
    rw [if_pos (by omega)] at p2
    obtain ⟨p2a, p2b⟩ := p2
    have m1 : ∀ i : Nat, i ≠ 14 → i ≠ 15 → i ≠ 16 → M1 i = M i := fun i a b c => by rw [p1b, mrow_i _ _ b, mrow_i _ _ c, mrow_i _ _ a]
    have fr : ∀ i : Nat, i ≠ 14 → i ≠ 15 → i ≠ 16 → i ≠ 91 → i ≠ 92 → i ≠ 93 → M2 i = M i := fun i a b c d e f => by rw [p2b, mrow_i _ _ f, mrow_i _ _ e, mrow_i _ _ d, m1 i a b c]
    have f53 := fr 53 (by decide) (by decide) (by decide) (by decide) (by decide) (by decide)
    refine ⟨?_, h1, h2, iTape_fr h3 (by rw [fr 1 (by decide) (by decide) (by decide) (by decide) (by decide) (by decide)]) (fr 2 (by decide) (by decide) (by decide) (by decide) (by decide) (by decide)) (by rw [f53]) (fr 54 (by decide) (by decide) (by decide) (by decide) (by decide) (by decide)), by rw [fr 0 (by decide) (by decide) (by decide) (by decide) (by decide) (by decide), f53]; exact h4, iText_fr h5 (fun i _ _ _ => fr i (by omega) (by omega) (by omega) (by omega) (by omega) (by omega)) (by rw [f53]) (fun i _ _ => fr i (by omega) (by omega) (by omega) (by omega) (by omega) (by omega)) rfl rfl, iShow_fr h6 (fun i hi => fr i (by omega) (by omega) (by omega) (by omega) (by omega) (by omega)) (fun _ _ => rfl) (fun z _ => by rw [f53]) (fun i _ _ => fr i (by omega) (by omega) (by omega) (by omega) (by omega) (by omega)), iFact_fr h7 (by rw [fr 9 (by decide) (by decide) (by decide) (by decide) (by decide) (by decide)]) (fr 10 (by decide) (by decide) (by decide) (by decide) (by decide) (by decide)) (fr 11 (by decide) (by decide) (by decide) (by decide) (by decide) (by decide)) (fr 12 (by decide) (by decide) (by decide) (by decide) (by decide) (by decide)) (by rw [f53]) (fun i _ _ => fr i (by omega) (by omega) (by omega) (by omega) (by omega) (by omega)), iPlan_fr h8 (by rw [fr 0 (by decide) (by decide) (by decide) (by decide) (by decide) (by decide)]) (fun i _ _ => fr i (by omega) (by omega) (by omega) (by omega) (by omega) (by omega)) (by rw [fr 6 (by decide) (by decide) (by decide) (by decide) (by decide) (by decide)]; exact Int.le_refl _) (by rw [f53]) (by rw [f53]) (fun i _ _ => fr i (by omega) (by omega) (by omega) (by omega) (by omega) (by omega))⟩
    rw [p1a, p2a, m1 88 (by decide) (by decide) (by decide), m1 89 (by decide) (by decide) (by decide), m1 90 (by decide) (by decide) (by decide)]
    have fs := fact_same h7 (n := n.toNat) (by omega)
    exact bsAt_same (fun k hk => ⟨(fs k hk).1.1, (fs k hk).2⟩) _
  · rw [if_neg q] at p1
    obtain ⟨rfl, rfl⟩ := p1
    rw [← h7.1, if_neg q] at p2
    obtain ⟨rfl, rfl⟩ := p2
    exact ⟨rfl, h1, h2, h3, h4, h5, h6, h7, h8⟩
end Calls2
