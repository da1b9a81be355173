/-! READING, AND LOOKING AT WHAT IS PLANNED -/
theorem vd_gk {c : CSt} {j : Nat} {k F : Int} (h : vdT c j k F) : ¬ gkT c j k := by
  intro g
  rcases h with ⟨_, h1, _⟩ | ⟨_, _, h2⟩ | ⟨_, _, h2⟩
  · exact goW_26 g.1 h1
  · exact h2 g.1
  · rcases h2 with h2 | h2
    · exact g.2.1 h2
    · exact g.2.2 h2
theorem vd_fun {c : CSt} {j : Nat} {k F F' : Int} (h : vdT c j k F) (h' : vdT c j k F') : F = F' := by
  rcases h with ⟨a, a1, a2⟩ | ⟨a, a1, a2⟩ | ⟨a, a1, a2⟩ <;> rcases h' with ⟨b, b1, b2⟩ | ⟨b, b1, b2⟩ | ⟨b, b1, b2⟩
  · rw [a, b]
  · exact absurd ⟨a1, a2⟩ b1
  · exact absurd a1 (goW_26 b1)
  · exact absurd ⟨b1, b2⟩ a1
  · rw [a, b]
  · exact absurd b1 a2
  · exact absurd b1 (goW_26 a1)
  · exact absurd a1 b2
  · rw [a, b]
theorem Std_0 {N : Nat} {sh : MS} {R : MR} {z : Int} {v : Option Nat} (h : Std N sh R) (hz : z = 8 ∨ z = 9) : Std N sh (mu R 0 z v) := by
  refine ⟨h.1, h.2.1, fun j k q e => ?_⟩
  by_cases c : j = 0
  · subst c
    have hk : (k : Int) ≠ z := by
      intro e2
      rcases (show k = 8 ∨ k = 9 by omega) with rfl | rfl
      · have : rr0 0 8 = none := rfl
        rw [this] at e
        cases e
      · have : rr0 0 9 = none := rfl
        rw [this] at e
        cases e
    rw [mu_z _ _ _ hk]
    exact h.2.2 0 k q e
  · rw [mu_i _ _ _ c]
    exact h.2.2 j k q e
theorem Std_31 {N : Nat} {sh : MS} {R : MR} {v : Option Nat} (h : Std N sh R) : Std N sh (mu R 31 7 v) := by
  refine ⟨h.1, h.2.1, fun j k q e => ?_⟩
  by_cases c : j = 31
  · subst c
    have hk : (k : Int) ≠ 7 := by
      intro e2
      obtain rfl : k = 7 := by omega
      have : rr0 31 7 = none := rfl
      rw [this] at e
      cases e
    rw [mu_z _ _ _ hk]
    exact h.2.2 31 k q e
  · rw [mu_i _ _ _ c]
    exact h.2.2 j k q e
theorem s_read {N : Nat} {sh : MS} {M M1 M2 L L2 : MI} {R R1 : MR} {A B : Nat} {F F2 : Int} (h : Inv N sh M L R) (hAB : (A = 17 ∧ B = 24) ∨ (A = 24 ∧ B = 17)) (h8 : R 0 8 = some A) (p1 : rdC M R A B F M1 R1) (p2 : rdM M1 (c00 (M (B + 5)) (M (B + 1)) (M (B + 2)) (M (B + 3)) (M (B + 4))) F2 M2) (pL : ∀ i : Nat, i ≠ 59 → L2 i = L i) : F = F2 ∧ Inv N sh M2 L2 R1 := by
  obtain ⟨i1, i2, i3, i4, i5, i6, i7, i8⟩ := h
  obtain ⟨j, ⟨j4, jg⟩, jv, jx, jp, j1, jf, j0, j1f, jR⟩ := p1
  obtain ⟨t, Mz, fz, hz⟩ := p2
  have hB : ¬ (B ≤ 53 ∧ 53 ≤ B + 5) ∧ ¬ (B ≤ 54 ∧ 54 ≤ B + 5) := by omega
  have e53 : M1 53 = M 53 := jf 53 (by decide) (by decide) (by decide) (by decide) (by decide) (by omega)
  have e54 : M1 54 = M 54 := jf 54 (by decide) (by decide) (by decide) (by decide) (by decide) (by omega)
  have eg : bt (M1 54) (M1 53 2) = bt (M 2) (M 1 1) := by
    rw [e54, e53, ← i3.1]
    funext z
    unfold bt
    by_cases c : 0 ≤ z ∧ z < M 1 1
    · rw [if_pos c, if_pos c, i3.2.2 z c.1 c.2]
    · rw [if_neg c, if_neg c]
  have en : M1 53 2 = M 1 1 := by rw [e53, i3.1]
  rw [eg, en, e53] at hz
  rw [e53] at fz
  generalize hg : bt (M 2) (M 1 1) = g at *
  generalize hn : M 1 1 = n at *
  generalize hc0 : c00 (M (B + 5)) (M (B + 1)) (M (B + 2)) (M (B + 3)) (M (B + 4)) = c0 at *
  -- both end at one token
  have hend : GT g n c0 t ∧ vdT (cm g n c0 t) t (kdT g n t) F2 := by
    rcases hz with ⟨f0, k26, hT, _⟩ | ⟨f1, hG, hv, _⟩
    · obtain ⟨sd, cz, rz, cd, rk, rs, rc, re, hG, hc, _⟩ := hT
      exact ⟨hG, Or.inl ⟨f0, k26, by rw [hc]⟩⟩
    · exact ⟨hG, hv⟩
  have ejt : j = t := by
    rcases Nat.lt_trichotomy j t with c | c | c
    · exact absurd (hend.1.2 j c) (vd_gk jv)
    · exact c
    · exact absurd (jg t c) (vd_gk hend.2)
  subst ejt
  have eF : F = F2 := vd_fun jv hend.2
  subst eF
  have hs : M 53 18 = 0 ∨ M 53 18 = 1 := by
    obtain ⟨_, _, _, _, _, hx⟩ := i5
    exact hx.1
  have hK : keyOk L2 := fun k k0 k1 => by rw [pL 60 (by decide)]; exact i2 k k0 k1
  have c1 : ∀ i : Nat, i ≠ 0 → i ≠ 1 → i ≠ 3 → i ≠ 4 → i ≠ 5 → ¬ (B ≤ i ∧ i ≤ B + 5) → i ≠ 53 → ¬ (55 ≤ i ∧ i ≤ 58) → ¬ (61 ≤ i ∧ i ≤ 75) → Mz i = M i := fun i a0 a1 a3 a4 a5 a6 a7 a8 a9 => (fz.1 i a7 a8 a9).trans (jf i a0 a1 a3 a4 a5 a6)
  have zc : ∀ i : Nat, i < 53 → Mz i = M1 i := fun i hi => fz.1 i (by omega) (by omega) (by omega)
  have m2 : (∀ i : Nat, i ≠ 53 → M2 i = Mz i) ∧ (∀ z : Int, z ≠ 17 → z ≠ 18 → M2 53 z = Mz 53 z) := by
    rcases hz with ⟨_, _, _, e⟩ | ⟨_, _, _, e⟩
    · exact ⟨fun i hi => by rw [e, mu_i _ _ _ hi, mu_i _ _ _ hi], fun z a b => by rw [e, mu_z _ _ _ b, mu_z _ _ _ a]⟩
    · exact ⟨fun i hi => by rw [e, mu_i _ _ _ hi], fun z a b => by rw [e, mu_z _ _ _ a]⟩
  have f53 : ∀ z : Int, z ≠ 2 → z ≠ 4 → z ≠ 10 → z ≠ 11 → z ≠ 12 → z ≠ 13 → z ≠ 14 → z ≠ 15 → z ≠ 19 → z ≠ 32 → z ≠ 36 → z ≠ 17 → z ≠ 18 → M2 53 z = M 53 z := fun z a1 a2 a3 a4 a5 a6 a7 a8 a9 b1 b2 b3 b4 => by rw [m2.2 z b3 b4, fz.2.1 z a1 a2 a3 a4 a5 a6 a7 a8 a9 b1 b2, e53]
  have cc : ∀ i : Nat, i ≠ 0 → i ≠ 1 → i ≠ 3 → i ≠ 4 → i ≠ 5 → ¬ (B ≤ i ∧ i ≤ B + 5) → i ≠ 53 → ¬ (55 ≤ i ∧ i ≤ 58) → ¬ (61 ≤ i ∧ i ≤ 75) → M2 i = M i := fun i a0 a1 a3 a4 a5 a6 a7 a8 a9 => (m2.1 i a7).trans (c1 i a0 a1 a3 a4 a5 a6 a7 a8 a9)
  have hT' : iTape M2 := by
    have q1 : M2 1 1 = 0 := by rw [m2.1 1 (by decide), zc 1 (by decide)]; exact j1
    have q2 : M2 53 2 = 0 := by rw [m2.2 2 (by decide) (by decide)]; exact fz.2.2.1
    exact ⟨by rw [q1, q2], by rw [q1]; decide, fun z z0 z1 => by rw [q1] at z1; omega⟩
  have hSh : iShow M2 R1 sh N := iShow_fr i6 (fun i hi => cc i (by omega) (by omega) (by omega) (by omega) (by omega) (by omega) (by omega) (by omega) (by omega)) (fun i hi => by
    rw [jR]
    split
    · rw [mu_i _ _ _ (by omega), mu_i _ _ _ (by omega)]
    · rfl) (fun z hz => f53 z (by omega) (by omega) (by omega) (by omega) (by omega) (by omega) (by omega) (by omega) (by omega) (by omega) (by omega) (by omega) (by omega)) (fun i _ _ => cc i (by omega) (by omega) (by omega) (by omega) (by omega) (by omega) (by omega) (by omega) (by omega))
  have hFa : iFact M2 := iFact_fr i7 (by rw [cc 9 (by decide) (by decide) (by decide) (by decide) (by decide) (by omega) (by decide) (by decide) (by decide)]) (cc 10 (by decide) (by decide) (by decide) (by decide) (by decide) (by omega) (by decide) (by decide) (by decide)) (cc 11 (by decide) (by decide) (by decide) (by decide) (by decide) (by omega) (by decide) (by decide) (by decide)) (cc 12 (by decide) (by decide) (by decide) (by decide) (by decide) (by omega) (by decide) (by decide) (by decide)) (f53 53 (by decide) (by decide) (by decide) (by decide) (by decide) (by decide) (by decide) (by decide) (by decide) (by decide) (by decide) (by decide) (by decide)) (fun i _ _ => cc i (by omega) (by omega) (by omega) (by omega) (by omega) (by omega) (by omega) (by omega) (by omega))
  have hPl : iPlan M2 := iPlan_fr i8 (by rw [m2.1 0 (by decide), zc 0 (by decide)]; exact j0 7 (by decide)) (fun i _ _ => cc i (by omega) (by omega) (by omega) (by omega) (by omega) (by omega) (by omega) (by omega) (by omega)) (by rw [cc 6 (by decide) (by decide) (by decide) (by decide) (by decide) (by omega) (by decide) (by decide) (by decide)]; exact Int.le_refl _) (f53 68 (by decide) (by decide) (by decide) (by decide) (by decide) (by decide) (by decide) (by decide) (by decide) (by decide) (by decide) (by decide) (by decide)) (f53 69 (by decide) (by decide) (by decide) (by decide) (by decide) (by decide) (by decide) (by decide) (by decide) (by decide) (by decide) (by decide) (by decide)) (fun i _ _ => cc i (by omega) (by omega) (by omega) (by omega) (by omega) (by omega) (by omega) (by omega) (by omega))
  have h010 : M2 0 10 = if F = 0 then -1 else plT g n j := by rw [m2.1 0 (by decide), zc 0 (by decide)]; exact jp
  refine ⟨rfl, ?_, hK, hT', ?_, ?_, hSh, hFa, hPl⟩
  · rw [jR]
    split
    · exact Std_0 (Std_0 i1 (Or.inl rfl)) (Or.inr rfl)
    · exact i1
  · rw [h010]
    rcases hz with ⟨f0, _, _, e⟩ | ⟨f1, _, _, e⟩
    · rw [if_pos f0, e]; rfl
    · rw [if_neg (by omega), e]; rfl
  · rcases hz with ⟨f0, k26, hT, e⟩ | ⟨f1, _, _, e⟩
    · -- the new text
      rw [if_pos f0] at jR
      refine ⟨B, A, by omega, by rw [jR]; rfl, by rw [jR]; rfl, ?_⟩
      obtain ⟨sd, cz, rz, cd, rk, rs, rc, re, hG, hc, ⟨x11, x12, x13, x19, x61⟩, ⟨y1, y2, y3, y4⟩, hrz, hr⟩ := hT
      rw [hc] at jx
      obtain ⟨⟨_, _, _, _, z5, z6⟩, _, z7, z8, z9, z10, z11⟩ := jx
      have hcz : cz ≤ (j : Int) := by
        have q := cm_sz (g := g) (n := n) (c0 := c0) (by rw [← hc0]; exact (by decide : (0 : Int) + (0 : Int) ≤ 0)) j
        rw [hc] at q
        unfold szC at q
        dsimp only at q
        simp only [List.length_nil] at q
        omega
      have zb : ∀ i : Nat, B ≤ i → i ≤ B + 5 → M2 i = M1 i := fun i a b => by rw [m2.1 i (by omega), zc i (by omega)]
      have e18 : M2 53 18 = 1 - M 53 18 := by rw [e]; rfl
      unfold TxEq
      rw [e18, zb B (by omega) (by omega), zb (B + 1) (by omega) (by omega), zb (B + 2) (by omega) (by omega), zb (B + 3) (by omega) (by omega), zb (B + 4) (by omega) (by omega), zb (B + 5) (by omega) (by omega), z6, z7, z8, z9, z10, z11, m2.1 61 (by decide)]
      refine ⟨by omega, hrz, x61, Mz 53 32, Mz 67 (1 - M 53 18), by omega, by omega, fun r r0 r1 => ?_⟩
      exact RlEq_congr (hr r r0 r1) (by omega) (Int.le_refl _) (Int.le_refl _) rfl rfl rfl rfl (fun _ _ => rfl) (fun i a b => by rw [m2.1 i (by omega)]) (agS_eq (fun i a b => m2.1 i (by omega)))
    · -- the old one
      rw [if_neg (by omega)] at jR
      obtain ⟨t1, t2, ht, r8, r9, hx⟩ := i5
      have et : t1 = A := Option.some.inj (r8.symm.trans h8)
      subst et
      refine ⟨t1, t2, ht, by rw [jR]; exact r8, by rw [jR]; exact r9, ?_⟩
      refine TxEq_fr hx (fun i a b => cc i (by omega) (by omega) (by omega) (by omega) (by omega) (by omega) (by omega) (by omega) (by omega)) (by rw [cc t1 (by omega) (by omega) (by omega) (by omega) (by omega) (by omega) (by omega) (by omega) (by omega)]) ?_ ?_ (fun i a b z z0 z1 => ?_) (fun i a b z z0 z1 => ?_) (fun z z0 z1 => ?_)
      · rw [e, mu_z _ _ _ (by decide), fz.2.1 18 (by decide) (by decide) (by decide) (by decide) (by decide) (by decide) (by decide) (by decide) (by decide) (by decide) (by decide), e53]
      · rw [m2.1 61 (by decide), (fz.2.2.2.1 (M 53 18) (by omega)).1, jf 61 (by decide) (by decide) (by decide) (by decide) (by decide) (by omega)]
      · rw [m2.1 i (by omega), fz.2.2.2.2.1 i a b z (by omega), jf i (by omega) (by omega) (by omega) (by omega) (by omega) (by omega)]
      · rw [m2.1 i (by omega), fz.2.2.2.2.2.1 i a b z (by omega), jf i (by omega) (by omega) (by omega) (by omega) (by omega) (by omega)]
      · rw [m2.1 73 (by decide), m2.1 74 (by decide), (fz.2.2.2.2.2.2 z (by omega)).1, (fz.2.2.2.2.2.2 z (by omega)).2, jf 73 (by decide) (by decide) (by decide) (by decide) (by decide) (by omega), jf 74 (by decide) (by decide) (by decide) (by decide) (by decide) (by omega)]
        exact ⟨rfl, rfl⟩
