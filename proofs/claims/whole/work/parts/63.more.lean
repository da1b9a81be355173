/-! AN ACT MORE, A FIGURE MORE -/
def iDis (N : Nat) (sh : MS) (R : MR) : Prop := (∀ (a : Int) (x : Nat), R 7 a = some x → 112 ≤ x ∧ x < N ∧ (sh x).1 = 0 ∧ ∃ f : Nat, R x 6 = some f ∧ 112 ≤ f ∧ f < N ∧ sh f = (18, 6)) ∧ ∀ (a b : Int) (x y : Nat), a ≠ b → R 7 a = some x → R 7 b = some y → x ≠ y ∧ R x 6 ≠ R y 6
theorem iDis_mu {N : Nat} {sh : MS} {R : MR} {i : Nat} {z : Int} {v : Option Nat} (h : iDis N sh R) (hi : i = 0 ∨ i = 31) : iDis N sh (mu R i z v) := by
  have e7 : mu R i z v 7 = R 7 := mu_i _ _ _ (by omega)
  refine ⟨fun a x hx => ?_, fun a b x y hab hx hy => ?_⟩
  · rw [e7] at hx
    obtain ⟨h1, h2, hk, f, h3⟩ := h.1 a x hx
    exact ⟨h1, h2, hk, f, by rw [mu_i _ _ _ (by omega)]; exact h3⟩
  · rw [e7] at hx hy
    have h1 := (h.1 a x hx).1
    have h2 := (h.1 b y hy).1
    rw [mu_i _ _ _ (by omega), mu_i _ _ _ (by omega)]
    exact h.2 a b x y hab hx hy
section More
variable {N : Nat} {sh : MS} {M M1 M2 L : MI} {R : MR} {r r2 : Int}
theorem FigOk_up {g : Nat} {x : Nat × Nat} {M' : MI} {K : Nat} {sh' : MS} (h : FigOk M sh N g) (hN : N ≤ K) (hsh : ∀ i : Nat, i < N → sh' i = sh i) (hM : M' g = M g) : FigOk M' sh' K g := by
  obtain ⟨h1, h2, h3, h4⟩ := h
  unfold FigOk
  rw [hsh g h2, hM]
  exact ⟨h1, by omega, h3, h4⟩
theorem s_act {k p v c hh f : Int} {N1 : Nat} {sh1 : MS} {L1 : MI} {R1 : MR} (h : Inv N sh M L R) (hd : iDis N sh R) (p1 : ((0 ≤ k ∧ k ≤ 3 ∧ 0 ≤ p ∧ p ≤ 7 ∧ 0 ≤ v ∧ v ≤ 100 ∧ 1 ≤ c ∧ c ≤ 20 ∧ 1 ≤ hh ∧ hh ≤ 20 ∧ 1 ≤ f ∧ f ≤ 120 ∧ M 6 1 < 6) ∧ r = M 6 1 ∧ N1 = N + 2 ∧ sh1 = va_up (va_up sh N (0, 0)) (N + 1) (18, 6) ∧ M1 = (mu (mu (mu (mu (mu (mu (mu (mu (mrow (mrow M N (fun _ => 0)) (N + 1) (fun _ => 0)) N 0 k) N 1 p) N 2 v) N 3 c) N 4 hh) N 5 f) N 7 0) 6 1 (M 6 1 + 1)) ∧ L1 = mrow (mrow L N (fun _ => 0)) (N + 1) (fun _ => 0) ∧ R1 = mu (mu (mrow (mrow R N (fun _ => none)) (N + 1) (fun _ => none)) N 6 (some (N + 1))) 7 (M 6 1) (some N)) ∨ (¬ (0 ≤ k ∧ k ≤ 3 ∧ 0 ≤ p ∧ p ≤ 7 ∧ 0 ≤ v ∧ v ≤ 100 ∧ 1 ≤ c ∧ c ≤ 20 ∧ 1 ≤ hh ∧ hh ≤ 20 ∧ 1 ≤ f ∧ f ≤ 120 ∧ M 6 1 < 6) ∧ r = -1 ∧ N1 = N ∧ sh1 = sh ∧ M1 = M ∧ L1 = L ∧ R1 = R)) (p2 : if M1 53 37 < 6 ∧ 0 ≤ k ∧ k ≤ 3 ∧ 0 ≤ p ∧ p ≤ 7 ∧ 0 ≤ v ∧ v ≤ 100 ∧ 1 ≤ c ∧ c ≤ 20 ∧ 1 ≤ hh ∧ hh ≤ 20 ∧ 1 ≤ f ∧ f ≤ 120 then r2 = M1 53 37 ∧ M2 = (mu (mu (mu (mu (mu (mu (mu (mu M1 76 (M1 53 37) k) 77 (M1 53 37) p) 78 (M1 53 37) v) 79 (M1 53 37) c) 80 (M1 53 37) hh) 81 (M1 53 37) f) 82 (M1 53 37) 0) 53 37 ((M1 53 37) + 1)) else r2 = -1 ∧ M2 = M1) : r = r2 ∧ Inv N1 sh1 M2 L1 R1 ∧ iDis N1 sh1 R1 := by
  obtain ⟨i1, i2, i3, i4, i5, i6, i7, i8⟩ := h
  have hN := i1.1
  have h61 := i6.2.2.1
  rcases p1 with ⟨hc, hr, rfl, rfl, hM1, rfl, rfl⟩ | ⟨hc, hr, rfl, rfl, rfl, rfl, rfl⟩
  · have m1 : ∀ i : Nat, i < N → i ≠ 6 → M1 i = M i := fun i a b => by rw [hM1, mu_i _ _ _ b, mu_i _ _ _ (by omega), mu_i _ _ _ (by omega), mu_i _ _ _ (by omega), mu_i _ _ _ (by omega), mu_i _ _ _ (by omega), mu_i _ _ _ (by omega), mu_i _ _ _ (by omega), mrow_i _ _ (by omega), mrow_i _ _ (by omega)]
    have e6 : ∀ z : Int, M1 6 z = if z = 1 then M 6 1 + 1 else M 6 z := fun z => by
      rw [hM1]
      by_cases q : z = 1
      · rw [if_pos q, q, mu_s]
      · rw [if_neg q, mu_z _ _ _ q, mu_i _ _ _ (by omega), mu_i _ _ _ (by omega), mu_i _ _ _ (by omega), mu_i _ _ _ (by omega), mu_i _ _ _ (by omega), mu_i _ _ _ (by omega), mu_i _ _ _ (by omega), mrow_i _ _ (by omega), mrow_i _ _ (by omega)]
    have e53 : M1 53 = M 53 := m1 53 (by omega) (by decide)
    have eN : M1 N 0 = k ∧ M1 N 1 = p ∧ M1 N 2 = v ∧ M1 N 3 = c ∧ M1 N 4 = hh ∧ M1 N 5 = f ∧ M1 N 7 = 0 := by
      rw [hM1, mu_i _ _ _ (by omega)]
      refine ⟨?_, ?_, ?_, ?_, ?_, ?_, ?_⟩
      · rw [mu_z _ _ _ (by decide), mu_z _ _ _ (by decide), mu_z _ _ _ (by decide), mu_z _ _ _ (by decide), mu_z _ _ _ (by decide), mu_z _ _ _ (by decide), mu_s]
      · rw [mu_z _ _ _ (by decide), mu_z _ _ _ (by decide), mu_z _ _ _ (by decide), mu_z _ _ _ (by decide), mu_z _ _ _ (by decide), mu_s]
      · rw [mu_z _ _ _ (by decide), mu_z _ _ _ (by decide), mu_z _ _ _ (by decide), mu_z _ _ _ (by decide), mu_s]
      · rw [mu_z _ _ _ (by decide), mu_z _ _ _ (by decide), mu_z _ _ _ (by decide), mu_s]
      · rw [mu_z _ _ _ (by decide), mu_z _ _ _ (by decide), mu_s]
      · rw [mu_z _ _ _ (by decide), mu_s]
      · rw [mu_s]
    have e37 : M1 53 37 = M 6 1 := by rw [e53]; exact h61.symm
    rw [e37, if_pos (by omega)] at p2
    obtain ⟨hr2, hM2⟩ := p2
    have m2 : ∀ i : Nat, i ≠ 53 → ¬ (76 ≤ i ∧ i ≤ 82) → M2 i = M1 i := fun i a b => by rw [hM2, mu_i _ _ _ a, mu_i _ _ _ (by omega), mu_i _ _ _ (by omega), mu_i _ _ _ (by omega), mu_i _ _ _ (by omega), mu_i _ _ _ (by omega), mu_i _ _ _ (by omega), mu_i _ _ _ (by omega)]
    have m53 : ∀ z : Int, z ≠ 37 → M2 53 z = M 53 z := fun z hz => by rw [hM2, mu_z _ _ _ hz, ← e53]; rfl
    have n37 : M2 53 37 = M 6 1 + 1 := by rw [hM2, mu_s]
    have r7 : ∀ i : Nat, 76 ≤ i → i ≤ 82 → ∀ z : Int, z ≠ M 6 1 → M2 i z = M i z := fun i a b z hz => by
      rw [← m1 i (by omega) (by omega), hM2, mu_i _ _ _ (by omega)]
      rcases (show i = 76 ∨ i = 77 ∨ i = 78 ∨ i = 79 ∨ i = 80 ∨ i = 81 ∨ i = 82 by omega) with rfl | rfl | rfl | rfl | rfl | rfl | rfl
      · rw [mu_i _ _ _ (by decide), mu_i _ _ _ (by decide), mu_i _ _ _ (by decide), mu_i _ _ _ (by decide), mu_i _ _ _ (by decide), mu_i _ _ _ (by decide), mu_z _ _ _ hz]
      · rw [mu_i _ _ _ (by decide), mu_i _ _ _ (by decide), mu_i _ _ _ (by decide), mu_i _ _ _ (by decide), mu_i _ _ _ (by decide), mu_z _ _ _ hz, mu_i _ _ _ (by decide)]
      · rw [mu_i _ _ _ (by decide), mu_i _ _ _ (by decide), mu_i _ _ _ (by decide), mu_i _ _ _ (by decide), mu_z _ _ _ hz, mu_i _ _ _ (by decide), mu_i _ _ _ (by decide)]
      · rw [mu_i _ _ _ (by decide), mu_i _ _ _ (by decide), mu_i _ _ _ (by decide), mu_z _ _ _ hz, mu_i _ _ _ (by decide), mu_i _ _ _ (by decide), mu_i _ _ _ (by decide)]
      · rw [mu_i _ _ _ (by decide), mu_i _ _ _ (by decide), mu_z _ _ _ hz, mu_i _ _ _ (by decide), mu_i _ _ _ (by decide), mu_i _ _ _ (by decide), mu_i _ _ _ (by decide)]
      · rw [mu_i _ _ _ (by decide), mu_z _ _ _ hz, mu_i _ _ _ (by decide), mu_i _ _ _ (by decide), mu_i _ _ _ (by decide), mu_i _ _ _ (by decide), mu_i _ _ _ (by decide)]
      · rw [mu_z _ _ _ hz, mu_i _ _ _ (by decide), mu_i _ _ _ (by decide), mu_i _ _ _ (by decide), mu_i _ _ _ (by decide), mu_i _ _ _ (by decide), mu_i _ _ _ (by decide)]
    have r8 : M2 76 (M 6 1) = k ∧ M2 77 (M 6 1) = p ∧ M2 78 (M 6 1) = v ∧ M2 79 (M 6 1) = c ∧ M2 80 (M 6 1) = hh ∧ M2 81 (M 6 1) = f ∧ M2 82 (M 6 1) = 0 := by
      rw [hM2]
      refine ⟨?_, ?_, ?_, ?_, ?_, ?_, ?_⟩
      · rw [mu_i _ _ _ (by decide), mu_i _ _ _ (by decide), mu_i _ _ _ (by decide), mu_i _ _ _ (by decide), mu_i _ _ _ (by decide), mu_i _ _ _ (by decide), mu_i _ _ _ (by decide), mu_s]
      · rw [mu_i _ _ _ (by decide), mu_i _ _ _ (by decide), mu_i _ _ _ (by decide), mu_i _ _ _ (by decide), mu_i _ _ _ (by decide), mu_i _ _ _ (by decide), mu_s]
      · rw [mu_i _ _ _ (by decide), mu_i _ _ _ (by decide), mu_i _ _ _ (by decide), mu_i _ _ _ (by decide), mu_i _ _ _ (by decide), mu_s]
      · rw [mu_i _ _ _ (by decide), mu_i _ _ _ (by decide), mu_i _ _ _ (by decide), mu_i _ _ _ (by decide), mu_s]
      · rw [mu_i _ _ _ (by decide), mu_i _ _ _ (by decide), mu_i _ _ _ (by decide), mu_s]
      · rw [mu_i _ _ _ (by decide), mu_i _ _ _ (by decide), mu_s]
      · rw [mu_i _ _ _ (by decide), mu_s]
    generalize hR1 : mu (mu (mrow (mrow R N (fun _ => none)) (N + 1) (fun _ => none)) N 6 (some (N + 1))) 7 (M 6 1) (some N) = R1
    have rr : ∀ i : Nat, i < N → i ≠ 7 → R1 i = R i := fun i a b => by rw [← hR1, mu_i _ _ _ b, mu_i _ _ _ (by omega), mrow_i _ _ (by omega), mrow_i _ _ (by omega)]
    have rS : R1 7 (M 6 1) = some N := by rw [← hR1, mu_s]
    have rO : ∀ z : Int, z ≠ M 6 1 → R1 7 z = R 7 z := fun z hz => by rw [← hR1, mu_z _ _ _ hz, mu_i _ _ _ (by omega), mrow_i _ _ (by omega), mrow_i _ _ (by omega)]
    have rN : R1 N 6 = some (N + 1) := by rw [← hR1, mu_i _ _ _ (by omega), mu_s]
    have hsh : ∀ i : Nat, i < N → va_up (va_up sh N (0, 0)) (N + 1) (18, 6) i = sh i := fun i hi => by rw [va_up_ne _ _ (by omega), va_up_ne _ _ (by omega)]
    have hshN : va_up (va_up sh N (0, 0)) (N + 1) (18, 6) N = (0, 0) := by rw [va_up_ne _ _ (by omega), va_up_self]
    have mc : ∀ i : Nat, i < N → i ≠ 6 → i ≠ 53 → ¬ (76 ≤ i ∧ i ≤ 82) → M2 i = M i := fun i a b c d => by rw [m2 i c d, m1 i a b]
    have m6 : ∀ z : Int, z ≠ 1 → M2 6 z = M 6 z := fun z hz => by rw [m2 6 (by decide) (by decide), e6, if_neg hz]
    have m61 : M2 6 1 = M 6 1 + 1 := by rw [m2 6 (by decide) (by decide), e6, if_pos rfl]
    have mN : M2 N = M1 N := m2 N (by omega) (by omega)
    have hO : ShowOk M2 R1 (va_up (va_up sh N (0, 0)) (N + 1) (18, 6)) (N + 2) := by
      have o := i6.1
      have o1 := o.1
      refine ⟨by rw [m61]; omega, by rw [m6 3 (by decide)]; exact o.2.1, by rw [m6 4 (by decide)]; exact o.2.2.1, by rw [m6 5 (by decide)]; exact o.2.2.2.1, by rw [mc 8 (by omega) (by decide) (by decide) (by decide)]; exact o.2.2.2.2.1, fun a a0 a1 => ?_⟩
      rw [m61] at a1
      by_cases q : a = M 6 1
      · refine ⟨N, by rw [q]; exact rS, by omega, by omega, by rw [hshN], ?_, ?_, N + 1, rN, by omega, by omega, va_up_self _ _ _, fun j j0 j1 => ?_⟩
        · rw [mN, eN.2.2.2.2.2.2]; decide
        · rw [mN, eN.1, eN.2.1, eN.2.2.1, eN.2.2.2.1, eN.2.2.2.2.1, eN.2.2.2.2.2.1]; omega
        · rw [mN, eN.2.2.2.2.2.2] at j1; omega
      · obtain ⟨x, x1, x2, x3, x4, x5, x6, y, y1, y2, y3, y4, y5⟩ := o.2.2.2.2.2 a a0 (by omega)
        have ex := mc x x3 (by omega) (by omega) (by omega)
        refine ⟨x, by rw [rO a q]; exact x1, x2, by omega, by rw [hsh x x3]; exact x4, by rw [ex]; exact x5, by rw [ex]; exact x6, y, by rw [rr x x3 (by omega)]; exact y1, y2, by omega, by rw [hsh y y3]; exact y4, fun j j0 j1 => ?_⟩
        rw [ex] at j1
        obtain ⟨g, g1, g2⟩ := y5 j j0 j1
        have g2a := g2.1
        have g2b := g2.2.1
        exact ⟨g, by rw [rr y y3 (by omega)]; exact g1, FigOk_up (x := (0, 0)) g2 (by omega) hsh (mc g g2b (by omega) (by omega) (by omega))⟩
    have hB : mBnd M2 := by
      have b := i6.2.1
      unfold mBnd
      rw [n37, m53 49 (by decide), m53 51 (by decide), m53 52 (by decide), m53 53 (by decide), mc 87 (by omega) (by decide) (by decide) (by decide), mc 84 (by omega) (by decide) (by decide) (by decide), mc 85 (by omega) (by decide) (by decide) (by decide), mc 83 (by omega) (by decide) (by decide) (by decide)]
      refine ⟨by have := i6.1.1; omega, b.2.1, b.2.2.1, b.2.2.2.1, b.2.2.2.2.1, b.2.2.2.2.2.1, b.2.2.2.2.2.2.1, b.2.2.2.2.2.2.2.1, b.2.2.2.2.2.2.2.2.1, fun z => ?_⟩
      by_cases q : z = M 6 1
      · rw [q, r8.2.2.2.2.2.2]; decide
      · rw [r7 82 (by decide) (by decide) z q]; exact b.2.2.2.2.2.2.2.2.2 z
    have aN : aId R1 (M 6 1) = N := by unfold aId; rw [rS]; rfl
    refine ⟨by omega, ⟨?_, ?_, ?_, ?_, ?_, ⟨hO, hB, by rw [m61, n37], ?_, ?_, ?_, ?_, fun a a0 a1 => ?_⟩, ?_, ?_⟩, ?_⟩
    · rw [← hR1]
      exact Std_mu (Std_mu (Std_up (Std_up i1 _ _) _ _) (Or.inl hN)) (Or.inr rfl)
    · intro z z0 z1
      rw [mrow_i _ _ (by omega), mrow_i _ _ (by omega)]
      exact i2 z z0 z1
    · exact iTape_fr i3 (by rw [mc 1 (by omega) (by decide) (by decide) (by decide)]) (mc 2 (by omega) (by decide) (by decide) (by decide)) (m53 2 (by decide)) (mc 54 (by omega) (by decide) (by decide) (by decide))
    · rw [mc 0 (by omega) (by decide) (by decide) (by decide), m53 17 (by decide)]; exact i4
    · exact iText_fr i5 (fun i a b _ => mc i (by omega) (by omega) (by omega) (by omega)) (m53 18 (by decide)) (fun i a b => mc i (by omega) (by omega) (by omega) (by omega)) (by rw [rr 0 (by omega) (by decide)]) (by rw [rr 0 (by omega) (by decide)])
    · rw [m6 3 (by decide), m53 49 (by decide)]; exact i6.2.2.2.1
    · rw [m6 4 (by decide), m53 51 (by decide)]; exact i6.2.2.2.2.1
    · rw [m6 5 (by decide), m53 52 (by decide)]; exact i6.2.2.2.2.2.1
    · rw [mc 8 (by omega) (by decide) (by decide) (by decide), mc 87 (by omega) (by decide) (by decide) (by decide)]; exact i6.2.2.2.2.2.2.1
    · rw [m61] at a1
      by_cases q : a = M 6 1
      · subst q
        unfold actEq
        rw [aN, mN, eN.1, eN.2.1, eN.2.2.1, eN.2.2.2.1, eN.2.2.2.2.1, eN.2.2.2.2.2.1, eN.2.2.2.2.2.2, r8.1, r8.2.1, r8.2.2.1, r8.2.2.2.1, r8.2.2.2.2.1, r8.2.2.2.2.2.1, r8.2.2.2.2.2.2]
        exact ⟨⟨rfl, rfl, rfl, rfl, rfl, rfl, rfl⟩, fun j j0 j1 => by omega⟩
      · have ok := (actId i6.1 a0 (show a < M 6 1 by omega)).2
        have e := i6.2.2.2.2.2.2.2 a a0 (by omega)
        have ea : aId R1 a = aId R a := by unfold aId; rw [rO a q]
        have ex := mc (aId R a) ok.2.1 (by have := ok.1; omega) (by have := ok.1; omega) (by have := ok.1; omega)
        unfold actEq
        rw [ea, ex, r7 76 (by decide) (by decide) a q, r7 77 (by decide) (by decide) a q, r7 78 (by decide) (by decide) a q, r7 79 (by decide) (by decide) a q, r7 80 (by decide) (by decide) a q, r7 81 (by decide) (by decide) a q, r7 82 (by decide) (by decide) a q]
        refine ⟨e.1, fun j j0 j1 => ?_⟩
        obtain ⟨y, y1, y2, y3, y4, y5⟩ := ok.2.2.2.2.2
        obtain ⟨g, g1, g2⟩ := y5 j j0 (by rw [e.1.2.2.2.2.2.2]; exact j1)
        have gg : cG R (aId R a) j = g := by unfold cG; rw [y1]; show (R y j).getD 0 = g; rw [g1]; rfl
        have gg1 : cG R1 (aId R a) j = g := by unfold cG; rw [rr _ ok.2.1 (by have := ok.1; omega), y1]; show (R1 y j).getD 0 = g; rw [rr y y3 (by omega), g1]; rfl
        have z := e.2 j j0 j1
        rw [gg] at z
        have g2a := g2.1
        have g2b := g2.2.1
        unfold figEq at z ⊢
        rw [gg1, mc g g2b (by omega) (by omega) (by omega), mc 83 (by omega) (by decide) (by decide) (by decide), mc 84 (by omega) (by decide) (by decide) (by decide), mc 85 (by omega) (by decide) (by decide) (by decide), mc 86 (by omega) (by decide) (by decide) (by decide)]
        exact z
    · exact iFact_fr i7 (by rw [mc 9 (by omega) (by decide) (by decide) (by decide)]) (mc 10 (by omega) (by decide) (by decide) (by decide)) (mc 11 (by omega) (by decide) (by decide) (by decide)) (mc 12 (by omega) (by decide) (by decide) (by decide)) (m53 53 (by decide)) (fun i a b => mc i (by omega) (by omega) (by omega) (by omega))
    · exact iPlan_fr i8 (by rw [mc 0 (by omega) (by decide) (by decide) (by decide)]) (fun i a b => mc i (by omega) (by omega) (by omega) (by omega)) (by rw [m61]; omega) (m53 68 (by decide)) (m53 69 (by decide)) (fun i a b => mc i (by omega) (by omega) (by omega) (by omega))
    · refine ⟨fun a x hx => ?_, fun a b x y hab hx hy => ?_⟩
      · by_cases q : a = M 6 1
        · rw [q, rS] at hx
          cases hx
          exact ⟨hN, by omega, by rw [hshN], N + 1, rN, by omega, by omega, va_up_self _ _ _⟩
        · rw [rO a q] at hx
          obtain ⟨h1, h2, hk0, g, h3, h4, h5, h6⟩ := hd.1 a x hx
          exact ⟨h1, by omega, by rw [hsh x h2]; exact hk0, g, by rw [rr x h2 (by omega)]; exact h3, h4, by omega, by rw [hsh g h5]; exact h6⟩
      · by_cases q : a = M 6 1
        · have q2 : b ≠ M 6 1 := fun z => hab (by rw [q, z])
          rw [q, rS] at hx
          cases hx
          rw [rO b q2] at hy
          obtain ⟨h1, h2, hk0, g, h3, h4, h5, h6⟩ := hd.1 b y hy
          refine ⟨by omega, ?_⟩
          rw [rN, rr y h2 (by omega), h3]
          intro z
          have := Option.some.inj z
          omega
        · by_cases q2 : b = M 6 1
          · rw [q2, rS] at hy
            cases hy
            rw [rO a q] at hx
            obtain ⟨h1, h2, hk0, g, h3, h4, h5, h6⟩ := hd.1 a x hx
            refine ⟨by omega, ?_⟩
            rw [rN, rr x h2 (by omega), h3]
            intro z
            have := Option.some.inj z
            omega
          · rw [rO a q] at hx
            rw [rO b q2] at hy
            have h1 := hd.1 a x hx
            have h2 := hd.1 b y hy
            rw [rr x h1.2.1 (by omega), rr y h2.2.1 (by omega)]
            exact hd.2 a b x y hab hx hy
  · rw [← h61, if_neg (fun z => hc ⟨z.2.1, z.2.2.1, z.2.2.2.1, z.2.2.2.2.1, z.2.2.2.2.2.1, z.2.2.2.2.2.2.1, z.2.2.2.2.2.2.2.1, z.2.2.2.2.2.2.2.2.1, z.2.2.2.2.2.2.2.2.2.1, z.2.2.2.2.2.2.2.2.2.2.1, z.2.2.2.2.2.2.2.2.2.2.2.1, z.2.2.2.2.2.2.2.2.2.2.2.2, z.1⟩)] at p2
    obtain ⟨rfl, rfl⟩ := p2
    exact ⟨hr, ⟨i1, i2, i3, i4, i5, i6, i7, i8⟩, hd⟩
theorem s_figure {a m s hh b : Int} {N1 : Nat} {sh1 : MS} {L1 : MI} {R1 : MR} (h : Inv N sh M L R) (hd : iDis N sh R) (hb : 0 ≤ b ∧ b < 2) (p1 : ((0 ≤ a ∧ a < M 6 1 ∧ M (aId R a) 7 < 6 ∧ 1 ≤ m ∧ m ≤ 9 ∧ 0 ≤ s ∧ s ≤ 20 ∧ 0 ≤ hh ∧ hh ≤ 9) ∧ r = M (aId R a) 7 ∧ N1 = N + 1 ∧ sh1 = va_up sh N (2, 0) ∧ M1 = (mu (mu (mu (mu (mu (mrow M N (fun _ => 0)) N 0 m) N 1 s) N 2 hh) N 3 b) (aId R a) 7 (M (aId R a) 7 + 1)) ∧ L1 = mrow L N (fun _ => 0) ∧ ∃ f : Nat, R (aId R a) 6 = some f ∧ R1 = mu (mrow R N (fun _ => none)) f (M (aId R a) 7) (some N)) ∨ (¬ (0 ≤ a ∧ a < M 6 1 ∧ M (aId R a) 7 < 6 ∧ 1 ≤ m ∧ m ≤ 9 ∧ 0 ≤ s ∧ s ≤ 20 ∧ 0 ≤ hh ∧ hh ≤ 9) ∧ r = -1 ∧ N1 = N ∧ sh1 = sh ∧ M1 = M ∧ L1 = L ∧ R1 = R)) (p2 : if 0 ≤ a ∧ a < M1 53 37 ∧ M1 82 a < 6 ∧ 1 ≤ m ∧ m ≤ 9 ∧ 0 ≤ s ∧ s ≤ 20 ∧ 0 ≤ hh ∧ hh ≤ 9 then r2 = M1 82 a ∧ M2 = (mu (mu (mu (mu (mu M1 83 (6 * a + M1 82 a) m) 84 (6 * a + M1 82 a) s) 85 (6 * a + M1 82 a) hh) 86 (6 * a + M1 82 a) b) 82 a (M1 82 a + 1)) else r2 = -1 ∧ M2 = M1) : r = r2 ∧ Inv N1 sh1 M2 L1 R1 ∧ iDis N1 sh1 R1 := by
  obtain ⟨i1, i2, i3, i4, i5, i6, i7, i8⟩ := h
  have hN := i1.1
  have h61 := i6.2.2.1
  rcases p1 with ⟨hc, hr, rfl, rfl, hM1, rfl, f, hf, hR1⟩ | ⟨hc, hr, rfl, rfl, rfl, rfl, rfl⟩
  · have ok := (actId i6.1 hc.1 hc.2.1).2
    have r7a := (actId i6.1 hc.1 hc.2.1).1
    have ea := i6.2.2.2.2.2.2.2 a hc.1 hc.2.1
    unfold actEq at ea
    generalize hq : aId R a = q at *
    have qb := ok.1
    have qn := ok.2.1
    have e82 : M q 7 = M 82 a := ea.1.2.2.2.2.2.2
    obtain ⟨f', f1, f2, f3, f4, f5⟩ := ok.2.2.2.2.2
    have ef : f' = f := Option.some.inj (f1.symm.trans hf)
    subst ef
    have sz := ok.2.2.2.1
    have qf : q ≠ f' := fun z => by
      have := ok.2.2.1
      rw [z, f4] at this
      cases this
    have m1 : ∀ i : Nat, i < N → i ≠ q → M1 i = M i := fun i x y => by rw [hM1, mu_i _ _ _ y, mu_i _ _ _ (by omega), mu_i _ _ _ (by omega), mu_i _ _ _ (by omega), mu_i _ _ _ (by omega), mrow_i _ _ (by omega)]
    have eq7 : M1 q 7 = M q 7 + 1 := by rw [hM1, mu_s]
    have eqz : ∀ z : Int, z ≠ 7 → M1 q z = M q z := fun z hz => by rw [hM1, mu_z _ _ _ hz, mu_i _ _ _ (by omega), mu_i _ _ _ (by omega), mu_i _ _ _ (by omega), mu_i _ _ _ (by omega), mrow_i _ _ (by omega)]
    have eN : M1 N 0 = m ∧ M1 N 1 = s ∧ M1 N 2 = hh ∧ M1 N 3 = b := by
      rw [hM1, mu_i _ _ _ (by omega)]
      refine ⟨?_, ?_, ?_, ?_⟩
      · rw [mu_z _ _ _ (by decide), mu_z _ _ _ (by decide), mu_z _ _ _ (by decide), mu_s]
      · rw [mu_z _ _ _ (by decide), mu_z _ _ _ (by decide), mu_s]
      · rw [mu_z _ _ _ (by decide), mu_s]
      · rw [mu_s]
    have e53 : M1 53 = M 53 := m1 53 (by omega) (by omega)
    have x82 : M1 82 = M 82 := m1 82 (by omega) (by omega)
    rw [e53, x82, ← e82, if_pos ⟨hc.1, by omega, by omega⟩] at p2
    obtain ⟨hr2, hM2⟩ := p2
    have m2 : ∀ i : Nat, ¬ (82 ≤ i ∧ i ≤ 86) → M2 i = M1 i := fun i x => by rw [hM2, mu_i _ _ _ (by omega), mu_i _ _ _ (by omega), mu_i _ _ _ (by omega), mu_i _ _ _ (by omega), mu_i _ _ _ (by omega)]
    have mc : ∀ i : Nat, i < N → i ≠ q → ¬ (82 ≤ i ∧ i ≤ 86) → M2 i = M i := fun i x y z => by rw [m2 i z, m1 i x y]
    have m53 : M2 53 = M 53 := mc 53 (by omega) (by omega) (by decide)
    have r82 : M2 82 a = M q 7 + 1 ∧ ∀ z : Int, z ≠ a → M2 82 z = M 82 z := by
      rw [hM2]
      refine ⟨by rw [mu_s], fun z hz => ?_⟩
      rw [mu_z _ _ _ hz, mu_i _ _ _ (by decide), mu_i _ _ _ (by decide), mu_i _ _ _ (by decide), mu_i _ _ _ (by decide), x82]
    have r83 : ∀ i : Nat, 83 ≤ i → i ≤ 86 → ∀ z : Int, z ≠ 6 * a + M q 7 → M2 i z = M i z := fun i x y z hz => by
      rw [← m1 i (by omega) (by omega), hM2, mu_i _ _ _ (by omega)]
      rcases (show i = 83 ∨ i = 84 ∨ i = 85 ∨ i = 86 by omega) with rfl | rfl | rfl | rfl
      · rw [mu_i _ _ _ (by decide), mu_i _ _ _ (by decide), mu_i _ _ _ (by decide), mu_z _ _ _ hz]
      · rw [mu_i _ _ _ (by decide), mu_i _ _ _ (by decide), mu_z _ _ _ hz, mu_i _ _ _ (by decide)]
      · rw [mu_i _ _ _ (by decide), mu_z _ _ _ hz, mu_i _ _ _ (by decide), mu_i _ _ _ (by decide)]
      · rw [mu_z _ _ _ hz, mu_i _ _ _ (by decide), mu_i _ _ _ (by decide), mu_i _ _ _ (by decide)]
    have r8n : M2 83 (6 * a + M q 7) = m ∧ M2 84 (6 * a + M q 7) = s ∧ M2 85 (6 * a + M q 7) = hh ∧ M2 86 (6 * a + M q 7) = b := by
      rw [hM2]
      refine ⟨?_, ?_, ?_, ?_⟩
      · rw [mu_i _ _ _ (by decide), mu_i _ _ _ (by decide), mu_i _ _ _ (by decide), mu_i _ _ _ (by decide), mu_s]
      · rw [mu_i _ _ _ (by decide), mu_i _ _ _ (by decide), mu_i _ _ _ (by decide), mu_s]
      · rw [mu_i _ _ _ (by decide), mu_i _ _ _ (by decide), mu_s]
      · rw [mu_i _ _ _ (by decide), mu_s]
    have rr : ∀ i : Nat, i < N → i ≠ f' → R1 i = R i := fun i x y => by rw [hR1, mu_i _ _ _ y, mrow_i _ _ (by omega)]
    have rf : R1 f' (M q 7) = some N ∧ ∀ z : Int, z ≠ M q 7 → R1 f' z = R f' z := by
      rw [hR1]
      exact ⟨by rw [mu_s], fun z hz => by rw [mu_z _ _ _ hz, mrow_i _ _ (by omega)]⟩
    have rr7 : R1 7 = R 7 := rr 7 (by omega) (by omega)
    have hsh : ∀ i : Nat, i < N → va_up sh N (2, 0) i = sh i := fun i hi => va_up_ne _ _ (by omega)
    have mN : M2 N = M1 N := m2 N (by omega)
    have figN : FigOk M2 (va_up sh N (2, 0)) (N + 1) N := by
      unfold FigOk
      rw [va_up_self, mN, eN.1, eN.2.1, eN.2.2.1, eN.2.2.2]
      exact ⟨hN, by omega, rfl, by omega, by omega, by omega, by omega⟩
    have m6 : M2 6 = M 6 := mc 6 (by omega) (by omega) (by decide)
    have aid : ∀ k : Int, aId R1 k = aId R k := fun k => by unfold aId; rw [rr7]
    -- figures of an act that is not q keep
    have other : ∀ k : Int, 0 ≤ k → k < M 6 1 → k ≠ a → aId R k ≠ q ∧ aId R k < N ∧ 112 ≤ aId R k ∧ ∀ y : Nat, R (aId R k) 6 = some y → y ≠ f' := fun k k0 k1 hk => by
      have ak := actId i6.1 k0 k1
      have z := hd.2 k a (aId R k) q hk ak.1 (by rw [r7a])
      refine ⟨z.1, ak.2.2.1, ak.2.1, fun y hy e => z.2 ?_⟩
      rw [hy, hf, e]
    have hO : ShowOk M2 R1 (va_up sh N (2, 0)) (N + 1) := by
      have o := i6.1
      refine ⟨by rw [m6]; exact o.1, by rw [m6]; exact o.2.1, by rw [m6]; exact o.2.2.1, by rw [m6]; exact o.2.2.2.1, by rw [mc 8 (by omega) (by omega) (by decide)]; exact o.2.2.2.2.1, fun k k0 k1 => ?_⟩
      rw [m6] at k1
      by_cases hk : k = a
      · subst hk
        refine ⟨q, by rw [rr7]; exact r7a, qb, by omega, by rw [hsh q qn]; exact ok.2.2.1, ?_, ?_, f', by rw [rr q qn qf]; exact f1, f2, by omega, by rw [hsh f' f3]; exact f4, fun j j0 j1 => ?_⟩
        · rw [m2 q (by omega), eq7]; omega
        · rw [m2 q (by omega), eqz 0 (by decide), eqz 1 (by decide), eqz 2 (by decide), eqz 3 (by decide), eqz 4 (by decide), eqz 5 (by decide)]; exact ok.2.2.2.2.1
        · rw [m2 q (by omega), eq7] at j1
          by_cases hj : j = M q 7
          · subst hj
            exact ⟨N, rf.1, figN⟩
          · obtain ⟨g, g1, g2⟩ := f5 j j0 (by omega)
            have ga := g2.1
            have gb := g2.2.1
            have gq : g ≠ q := fun z => by
              have u := g2.2.2.1
              rw [z, ok.2.2.1] at u
              cases u
            exact ⟨g, by rw [rf.2 j hj]; exact g1, FigOk_up (x := (0, 0)) g2 (by omega) hsh (mc g gb gq (by omega))⟩
      · obtain ⟨x, x1, x2, x3, x4, x5, x6, y, y1, y2, y3, y4, y5⟩ := o.2.2.2.2.2 k k0 k1
        have ot := other k k0 k1 hk
        rw [aId_of x1] at ot
        have ex := mc x x3 ot.1 (by omega)
        have xf : x ≠ f' := fun z => by
          rw [z, f4] at x4
          cases x4
        refine ⟨x, by rw [rr7]; exact x1, x2, by omega, by rw [hsh x x3]; exact x4, by rw [ex]; exact x5, by rw [ex]; exact x6, y, by rw [rr x x3 xf]; exact y1, y2, by omega, by rw [hsh y y3]; exact y4, fun j j0 j1 => ?_⟩
        rw [ex] at j1
        obtain ⟨g, g1, g2⟩ := y5 j j0 j1
        have ga := g2.1
        have gb := g2.2.1
        have gq : g ≠ q := fun z => by
          have u := g2.2.2.1
          rw [z, ok.2.2.1] at u
          cases u
        exact ⟨g, by rw [rr y y3 (ot.2.2.2 y y1)]; exact g1, FigOk_up (x := (0, 0)) g2 (by omega) hsh (mc g gb gq (by omega))⟩
    have hB : mBnd M2 := by
      have bb := i6.2.1
      have up : ∀ (i : Nat) (lo hi w : Int), 83 ≤ i → i ≤ 86 → (∀ z : Int, lo ≤ M i z ∧ M i z ≤ hi) → M2 i (6 * a + M q 7) = w → lo ≤ w ∧ w ≤ hi → ∀ z : Int, lo ≤ M2 i z ∧ M2 i z ≤ hi := fun i lo hi w x y hz e hw z => by
        by_cases c : z = 6 * a + M q 7
        · rw [c, e]; exact hw
        · rw [r83 i x y z c]; exact hz z
      unfold mBnd
      rw [m53, mc 87 (by omega) (by omega) (by decide)]
      refine ⟨bb.1, bb.2.1, bb.2.2.1, bb.2.2.2.1, bb.2.2.2.2.1, bb.2.2.2.2.2.1, up 84 0 20 s (by decide) (by decide) bb.2.2.2.2.2.2.1 r8n.2.1 (by omega), up 85 0 9 hh (by decide) (by decide) bb.2.2.2.2.2.2.2.1 r8n.2.2.1 (by omega), up 83 0 9 m (by decide) (by decide) bb.2.2.2.2.2.2.2.2.1 r8n.1 (by omega), fun z => ?_⟩
      by_cases c : z = a
      · rw [c, r82.1]; omega
      · rw [r82.2 z c]; exact bb.2.2.2.2.2.2.2.2.2 z
    refine ⟨by omega, ⟨?_, ?_, ?_, ?_, ?_, ⟨hO, hB, by rw [m6, m53]; exact h61, ?_, ?_, ?_, ?_, fun k k0 k1 => ?_⟩, ?_, ?_⟩, ?_⟩
    · rw [hR1]
      exact Std_mu (Std_up i1 _ _) (Or.inl f2)
    · intro z z0 z1
      rw [mrow_i _ _ (by omega)]
      exact i2 z z0 z1
    · exact iTape_fr i3 (by rw [mc 1 (by omega) (by omega) (by decide)]) (mc 2 (by omega) (by omega) (by decide)) (by rw [m53]) (mc 54 (by omega) (by omega) (by decide))
    · rw [mc 0 (by omega) (by omega) (by decide), m53]; exact i4
    · exact iText_fr i5 (fun i x y _ => mc i (by omega) (by omega) (by omega)) (by rw [m53]) (fun i x y => mc i (by omega) (by omega) (by omega)) (by rw [rr 0 (by omega) (by omega)]) (by rw [rr 0 (by omega) (by omega)])
    · rw [m6, m53]; exact i6.2.2.2.1
    · rw [m6, m53]; exact i6.2.2.2.2.1
    · rw [m6, m53]; exact i6.2.2.2.2.2.1
    · rw [mc 8 (by omega) (by omega) (by decide), mc 87 (by omega) (by omega) (by decide)]; exact i6.2.2.2.2.2.2.1
    · rw [m6] at k1
      unfold actEq
      rw [aid k]
      by_cases hk : k = a
      · subst hk
        rw [hq, mc 76 (by omega) (by omega) (by decide), mc 77 (by omega) (by omega) (by decide), mc 78 (by omega) (by omega) (by decide), mc 79 (by omega) (by omega) (by decide), mc 80 (by omega) (by omega) (by decide), mc 81 (by omega) (by omega) (by decide), r82.1, m2 q (by omega), eqz 0 (by decide), eqz 1 (by decide), eqz 2 (by decide), eqz 3 (by decide), eqz 4 (by decide), eqz 5 (by decide), eq7]
        refine ⟨⟨ea.1.1, ea.1.2.1, ea.1.2.2.1, ea.1.2.2.2.1, ea.1.2.2.2.2.1, ea.1.2.2.2.2.2.1, rfl⟩, fun j j0 j1 => ?_⟩
        have cg : cG R1 q j = (R1 f' j).getD 0 := by unfold cG; rw [rr q qn qf, f1]; rfl
        rw [cg]
        by_cases hj : j = M q 7
        · subst hj
          rw [rf.1]
          unfold figEq
          show M2 N 0 = _ ∧ M2 N 1 = _ ∧ M2 N 2 = _ ∧ M2 N 3 = _
          rw [mN, eN.1, eN.2.1, eN.2.2.1, eN.2.2.2, r8n.1, r8n.2.1, r8n.2.2.1, r8n.2.2.2]
          exact ⟨rfl, rfl, rfl, rfl⟩
        · obtain ⟨g, g1, g2⟩ := f5 j j0 (by omega)
          have ga := g2.1
          have gb := g2.2.1
          have gq : g ≠ q := fun z => by
            have u := g2.2.2.1
            rw [z, ok.2.2.1] at u
            cases u
          have gg : cG R q j = g := by unfold cG; rw [f1]; show (R f' j).getD 0 = g; rw [g1]; rfl
          have z := ea.2 j j0 (by omega)
          rw [gg] at z
          rw [rf.2 j hj, g1]
          unfold figEq at z ⊢
          show M2 g 0 = _ ∧ M2 g 1 = _ ∧ M2 g 2 = _ ∧ M2 g 3 = _
          rw [mc g gb gq (by omega), r83 83 (by decide) (by decide) _ (by omega), r83 84 (by decide) (by decide) _ (by omega), r83 85 (by decide) (by decide) _ (by omega), r83 86 (by decide) (by decide) _ (by omega)]
          exact z
      · have ot := other k k0 k1 hk
        have e := i6.2.2.2.2.2.2.2 k k0 k1
        have okk := (actId i6.1 k0 k1).2
        rw [mc (aId R k) ot.2.1 ot.1 (by omega), mc 76 (by omega) (by omega) (by decide), mc 77 (by omega) (by omega) (by decide), mc 78 (by omega) (by omega) (by decide), mc 79 (by omega) (by omega) (by decide), mc 80 (by omega) (by omega) (by decide), mc 81 (by omega) (by omega) (by decide), r82.2 k hk]
        refine ⟨e.1, fun j j0 j1 => ?_⟩
        obtain ⟨y, y1, y2, y3, y4, y5⟩ := okk.2.2.2.2.2
        obtain ⟨g, g1, g2⟩ := y5 j j0 (by rw [e.1.2.2.2.2.2.2]; exact j1)
        have ga := g2.1
        have gb := g2.2.1
        have gq : g ≠ q := fun z => by
          have u := g2.2.2.1
          rw [z, ok.2.2.1] at u
          cases u
        have xf : aId R k ≠ f' := fun z => by
          have u := okk.2.2.1
          rw [z, f4] at u
          cases u
        have gg : cG R (aId R k) j = g := by unfold cG; rw [y1]; show (R y j).getD 0 = g; rw [g1]; rfl
        have gg1 : cG R1 (aId R k) j = g := by unfold cG; rw [rr _ ot.2.1 xf, y1]; show (R1 y j).getD 0 = g; rw [rr y y3 (ot.2.2.2 y y1), g1]; rfl
        have z := e.2 j j0 j1
        have j6 := i6.2.1.2.2.2.2.2.2.2.2.2 k
        rw [gg] at z
        unfold figEq at z ⊢
        rw [gg1, mc g gb gq (by omega), r83 83 (by decide) (by decide) _ (by omega), r83 84 (by decide) (by decide) _ (by omega), r83 85 (by decide) (by decide) _ (by omega), r83 86 (by decide) (by decide) _ (by omega)]
        exact z
    · exact iFact_fr i7 (by rw [mc 9 (by omega) (by omega) (by decide)]) (mc 10 (by omega) (by omega) (by decide)) (mc 11 (by omega) (by omega) (by decide)) (mc 12 (by omega) (by omega) (by decide)) (by rw [m53]) (fun i x y => mc i (by omega) (by omega) (by omega))
    · exact iPlan_fr i8 (by rw [mc 0 (by omega) (by omega) (by decide)]) (fun i x y => mc i (by omega) (by omega) (by omega)) (by rw [m6]; exact Int.le_refl _) (by rw [m53]) (by rw [m53]) (fun i x y => mc i (by omega) (by omega) (by omega))
    · have nf : ∀ (k : Int) (x : Nat), R 7 k = some x → x < N ∧ x ≠ f' ∧ 112 ≤ x := fun k x hx => by
        have z := hd.1 k x hx
        refine ⟨z.2.1, fun e => ?_, z.1⟩
        have u := z.2.2.1
        rw [e, f4] at u
        cases u
      refine ⟨fun k x hx => ?_, fun k l x y hkl hx hy => ?_⟩
      · rw [rr7] at hx
        have n := nf k x hx
        obtain ⟨z1, z2, z3, g, z4, z5, z6, z7⟩ := hd.1 k x hx
        exact ⟨z1, by omega, by rw [hsh x z2]; exact z3, g, by rw [rr x z2 n.2.1]; exact z4, z5, by omega, by rw [hsh g z6]; exact z7⟩
      · rw [rr7] at hx hy
        have n := nf k x hx
        have n2 := nf l y hy
        rw [rr x n.1 n.2.1, rr y n2.1 n2.2.1]
        exact hd.2 k l x y hkl hx hy
  · have hcm : ¬ (0 ≤ a ∧ a < M1 53 37 ∧ M1 82 a < 6 ∧ 1 ≤ m ∧ m ≤ 9 ∧ 0 ≤ s ∧ s ≤ 20 ∧ 0 ≤ hh ∧ hh ≤ 9) := fun z => by
      have ea := i6.2.2.2.2.2.2.2 a z.1 (by omega)
      exact hc ⟨z.1, by omega, by rw [ea.1.2.2.2.2.2.2]; exact z.2.2.1, z.2.2.2⟩
    rw [if_neg hcm] at p2
    obtain ⟨rfl, rfl⟩ := p2
    exact ⟨hr, ⟨i1, i2, i3, i4, i5, i6, i7, i8⟩, hd⟩
end More
