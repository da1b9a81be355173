/-! WHAT IS PLANNED, looked at -/
theorem rpO_at {u u' : Int → Int} : ∀ {q : List Fl}, rpO u q → rpO u' q → ∀ k : Int, 0 ≤ k → k < (q.length : Int) → u k = u' k
  | [], _, _, k, k0, k1 => by simp only [List.length_nil] at k1; omega
  | f :: q, h, h', k, k0, k1 => by
    simp only [List.length_cons] at k1
    rcases (show k = (q.length : Int) ∨ k < (q.length : Int) by omega) with c | c
    · rw [c, h.1, h'.1]
    · exact rpO_at h.2 h'.2 k k0 c
theorem lkF_fe {A : Int} : ∀ {q : List Fl} {a : Int}, okF A q → inF q a = true → lkF fe q a = lkF fg q a + lkF fm q a
  | [], _, _, h => by cases h
  | f :: q, a, o, h => by
    unfold lkF
    by_cases c : fa f = a
    · rw [if_pos c, if_pos c, if_pos c]; rfl
    · rw [if_neg c, if_neg c, if_neg c]
      refine lkF_fe o.2.2.2.2.2 ?_
      have : (decide (fa f = a) || inF q a) = true := h
      rw [decide_eq_false c, Bool.false_or] at this
      exact this
theorem inF_b {A : Int} : ∀ {q : List Fl} {a : Int}, okF A q → inF q a = true → 0 ≤ a ∧ a < A
  | [], _, _, h => by cases h
  | f :: q, a, o, h => by
    have h : (decide (fa f = a) || inF q a) = true := h
    rw [Bool.or_eq_true, decide_eq_true_eq] at h
    rcases h with h | h
    · rw [← h]; exact o.1
    · exact inF_b o.2.2.2.2.2 h
section Look
variable {N : Nat} {sh : MS} {M L : MI} {R : MR} {r r2 : Int}
theorem s_order {a : Int} (h : Inv N sh M L R) (p1 : r = if 0 ≤ a ∧ a < M 47 5 then M 48 a else -1) (p2 : r2 = if M 53 68 ≠ 0 ∧ 0 ≤ a ∧ a < M 53 69 then M 101 a else -1) : r = r2 := by
  obtain ⟨wo, q, ho, hZ, hP⟩ := h.2.2.2.2.2.2.2
  have e5 : M 47 5 = (q.length : Int) := hZ.1.1
  rw [p1, p2, e5]
  rcases hP with ⟨_, hP⟩ | ⟨_, h68, h69, rfl⟩
  · rw [hP.1.1, hP.1.2]
    by_cases c : 0 ≤ a ∧ a < (q.length : Int)
    · rw [if_pos c, if_pos ⟨by decide, c⟩]
      exact rpO_at hZ.2.1 hP.2.1 a c.1 c.2
    · rw [if_neg c, if_neg (fun z => c z.2)]
  · rw [if_neg (by simp only [List.length_nil]; omega), if_neg (fun z => z.1 h68)]
/-- the rows of what is planned, act by act -/
theorem plan_at (h : Inv N sh M L R) : ∃ q : List Fl, okF (M 6 1) q ∧ (∀ a : Int, 0 ≤ a → a < 6 → M 49 a = lkF fo q a ∧ M 50 a = lkF fg q a ∧ M 51 a = lkF fm q a ∧ M 52 a = lkF fn q a) ∧ (M 53 68 = 0 → q = []) ∧ (M 53 68 ≠ 0 → (∀ a : Int, 0 ≤ a → a < 6 → M 103 a = lkF fg q a) ∧ ∀ a : Int, 0 ≤ a → a < 6 → inF q a = true → M 102 a = lkF fo q a ∧ M 104 a = lkF fe q a ∧ M 105 a = lkF fn q a) := by
  obtain ⟨wo, q, ho, hZ, hP⟩ := h.2.2.2.2.2.2.2
  refine ⟨q, ho, hZ.2.2.2, fun h0 => ?_, fun h0 => ?_⟩
  · rcases hP with ⟨_, hP⟩ | ⟨_, _, _, e⟩
    · have := hP.1.1; omega
    · exact e
  · rcases hP with ⟨_, hP⟩ | ⟨_, e, _⟩
    · exact hP.2.2
    · exact absurd e h0
theorem told_in (h : Inv N sh M L R) : (∀ k : Int, 0 ≤ k → k < 6 → inR (M 50 k + M 51 k)) ∧ ∀ a : Int, 0 ≤ a → a < M 53 37 → M 53 68 ≠ 0 → M 103 a ≠ -1 → inR (M 104 a - M 103 a) := by
  obtain ⟨q, ho, hc, h0, h1⟩ := plan_at h
  have hA := h.2.2.2.2.2.1.1.1
  have h61 := h.2.2.2.2.2.1.2.2.1
  refine ⟨fun k k0 k1 => ?_, fun a a0 a1 hp hm => ?_⟩
  · have c := hc k k0 k1
    rw [c.2.1, c.2.2.1]
    cases hi : inF q k
    · rw [lkF_no hi, lkF_no hi]; decide
    · have b := lkF_in ho hi
      exact ⟨by omega, by omega⟩
  · have h1 := h1 hp
    have e := h1.1 a a0 (by omega)
    have hi : inF q a = true := (lkF_has ho).mp (by rw [← e]; exact hm)
    have b := lkF_in ho hi
    have e2 := (h1.2 a a0 (by omega) hi).2.1
    rw [e2, lkF_fe ho hi, e]
    exact ⟨by omega, by omega⟩
theorem s_told {a b : Int} (h : Inv N sh M L R) (p1 : r = if 0 ≤ a ∧ a < 6 ∧ M 50 a ≠ -1 then (if b = 0 then M 49 a else if b = 1 then M 50 a else if b = 2 then M 50 a + M 51 a else if b = 3 then M 52 a else if b = 4 then M 51 a else -1) else -1) (p2 : r2 = if M 53 68 ≠ 0 ∧ 0 ≤ a ∧ a < M 53 37 ∧ M 103 a ≠ -1 then (if b = 0 then M 102 a else if b = 1 then M 103 a else if b = 2 then M 104 a else if b = 3 then M 105 a else if b = 4 then M 104 a - M 103 a else -1) else -1) : r = r2 := by
  obtain ⟨q, ho, hc, h0, h1⟩ := plan_at h
  have hA := h.2.2.2.2.2.1.1.1
  have h61 := h.2.2.2.2.2.1.2.2.1
  rw [p1, p2]
  by_cases ca : 0 ≤ a ∧ a < 6
  · have c := hc a ca.1 ca.2
    cases hi : inF q a
    · have e : M 50 a = -1 := by rw [c.2.1]; exact lkF_no hi
      rw [if_neg (fun z => z.2.2 e)]
      by_cases hp : M 53 68 = 0
      · rw [if_neg (fun z => z.1 hp)]
      · have e2 : M 103 a = -1 := by rw [(h1 hp).1 a ca.1 ca.2]; exact lkF_no hi
        rw [if_neg (fun z => z.2.2.2 e2)]
    · have hp : M 53 68 ≠ 0 := fun z => by
        rw [h0 z] at hi
        cases hi
      have g := (h1 hp).1 a ca.1 ca.2
      have g2 := (h1 hp).2 a ca.1 ca.2 hi
      have hb := inF_b ho hi
      have hne : lkF fg q a ≠ -1 := (lkF_has ho).mpr hi
      rw [if_pos (show 0 ≤ a ∧ a < 6 ∧ M 50 a ≠ -1 from ⟨ca.1, ca.2, by rw [c.2.1]; exact hne⟩), if_pos (show M 53 68 ≠ 0 ∧ 0 ≤ a ∧ a < M 53 37 ∧ M 103 a ≠ -1 from ⟨hp, ca.1, by omega, by rw [g]; exact hne⟩), c.1, c.2.1, c.2.2.1, c.2.2.2, g, g2.1, g2.2.1, g2.2.2, lkF_fe ho hi]
      have : lkF fg q a + lkF fm q a - lkF fg q a = lkF fm q a := by omega
      rw [this]
  · rw [if_neg (fun z => ca ⟨z.1, z.2.1⟩), if_neg (fun z => ca ⟨z.2.1, by have := z.2.2.1; omega⟩)]
theorem ifs2 {P Q : Prop} {x y z : Int} (hP : P ∨ ¬ P) (hQ : Q ∨ ¬ Q) (u : Int) (h1 : P → u = x) (h2 : ¬ P → Q → u = y) (h3 : ¬ P → ¬ Q → u = z) : (P ∧ u = x) ∨ (¬ P ∧ Q ∧ u = y) ∨ (¬ P ∧ ¬ Q ∧ u = z) := by
  rcases hP with p | p
  · exact Or.inl ⟨p, h1 p⟩
  · rcases hQ with q | q
    · exact Or.inr (Or.inl ⟨p, q, h2 p q⟩)
    · exact Or.inr (Or.inr ⟨p, q, h3 p q⟩)
def rwC (M : MI) (m : Int) (k : Int) : Option Int := if M 49 k = m then some k else if M 52 k = m then some (100 + k) else none
def rwX (M : MI) (m : Int) : Nat → Option Int
  | 0 => none
  | n + 1 => match rwX M m n with
    | some r => some r
    | none => rwC M m (n : Int)
theorem rwC_d (M : MI) (m k x : Int) : (if M 49 k = m then k else if M 52 k = m then 100 + k else x) = (rwC M m k).getD x := by
  unfold rwC
  split
  · rfl
  · split <;> rfl
theorem rwX_6 (M : MI) (m x : Int) : (rwX M m 6).getD x = (rwC M m 0).getD ((rwC M m 1).getD ((rwC M m 2).getD ((rwC M m 3).getD ((rwC M m 4).getD ((rwC M m 5).getD x))))) := by
  show ((match (match (match (match (match (match (none : Option Int) with | some r => some r | none => rwC M m ((0 : Nat) : Int)) with | some r => some r | none => rwC M m ((1 : Nat) : Int)) with | some r => some r | none => rwC M m ((2 : Nat) : Int)) with | some r => some r | none => rwC M m ((3 : Nat) : Int)) with | some r => some r | none => rwC M m ((4 : Nat) : Int)) with | some r => some r | none => rwC M m ((5 : Nat) : Int)) : Option Int).getD x = _
  show ((match (match (match (match (match (match (none : Option Int) with | some r => some r | none => rwC M m 0) with | some r => some r | none => rwC M m 1) with | some r => some r | none => rwC M m 2) with | some r => some r | none => rwC M m 3) with | some r => some r | none => rwC M m 4) with | some r => some r | none => rwC M m 5) : Option Int).getD x = _
  cases rwC M m 0 <;> cases rwC M m 1 <;> cases rwC M m 2 <;> cases rwC M m 3 <;> cases rwC M m 4 <;> cases rwC M m 5 <;> rfl
theorem rw_one (h : Inv N sh M L R) {m : Int} (hm : 0 ≤ m) {k : Int} (k0 : 0 ≤ k) (k1 : k < 6) : (if M 53 68 ≠ 0 ∧ M 103 k ≠ -1 then (if M 102 k = m then some k else if M 105 k = m then some (100 + k) else none) else none) = rwC M m k := by
  obtain ⟨q, ho, hc, h0, h1⟩ := plan_at h
  have c := hc k k0 k1
  unfold rwC
  cases hi : inF q k
  · have e : M 49 k = -1 ∧ M 52 k = -1 := by rw [c.1, c.2.2.2]; exact ⟨lkF_no hi, lkF_no hi⟩
    rw [if_neg (fun z : M 49 k = m => by omega), if_neg (fun z : M 52 k = m => by omega)]
    by_cases hp : M 53 68 = 0
    · rw [if_neg (fun z => z.1 hp)]
    · have e2 : M 103 k = -1 := by rw [(h1 hp).1 k k0 k1]; exact lkF_no hi
      rw [if_neg (fun z => z.2 e2)]
  · have hp : M 53 68 ≠ 0 := fun z => by
      rw [h0 z] at hi
      cases hi
    have g := (h1 hp).1 k k0 k1
    have g2 := (h1 hp).2 k k0 k1 hi
    have hne : lkF fg q k ≠ -1 := (lkF_has ho).mpr hi
    rw [if_pos ⟨hp, by rw [g]; exact hne⟩, g2.1, g2.2.2, c.1, c.2.2.2]
theorem mRun_rw (h : Inv N sh M L R) {m : Int} (hm : 0 ≤ m) : ∀ n : Nat, n ≤ 6 → mRun M m n = rwX M m n
  | 0, _ => rfl
  | n + 1, hn => by
    unfold mRun rwX
    rw [mRun_rw h hm n (by omega)]
    cases rwX M m n with
    | some x => rfl
    | none => exact rw_one h hm (by omega) (by omega)
theorem rwX_out (h : Inv N sh M L R) {m : Int} (hm : 0 ≤ m) : ∀ d n : Nat, (M 6 1).toNat ≤ n → n + d ≤ 6 → rwX M m (n + d) = rwX M m n
  | 0, _, _, _ => rfl
  | d + 1, n, h1, h2 => by
    obtain ⟨q, ho, hc, _, _⟩ := plan_at h
    have hA := h.2.2.2.2.2.1.1.1
    have ih := rwX_out h hm d n h1 (by omega)
    show (match rwX M m (n + d) with | some r => some r | none => rwC M m ((n + d : Nat) : Int)) = _
    rw [ih]
    cases rwX M m n with
    | some x => rfl
    | none =>
      show rwC M m ((n + d : Nat) : Int) = none
      have c := hc ((n + d : Nat) : Int) (by omega) (by omega)
      have hi : inF q ((n + d : Nat) : Int) = false := by
        cases hi : inF q ((n + d : Nat) : Int)
        · rfl
        · have := inF_b ho hi; omega
      unfold rwC
      rw [if_neg (fun z => by rw [c.1, lkF_no hi] at z; omega), if_neg (fun z => by rw [c.2.2.2, lkF_no hi] at z; omega)]
theorem s_runway {a : Int} (h : Inv N sh M L R) (p1 : r = if 0 ≤ a ∧ a < 240 then (if M 49 0 = a then 0 else if M 52 0 = a then 100 else if M 49 1 = a then 1 else if M 52 1 = a then 101 else if M 49 2 = a then 2 else if M 52 2 = a then 102 else if M 49 3 = a then 3 else if M 52 3 = a then 103 else if M 49 4 = a then 4 else if M 52 4 = a then 104 else if M 49 5 = a then 5 else if M 52 5 = a then 105 else -1) else -1) (p2 : r2 = if 0 ≤ a ∧ a < 240 then (mRun M a (M 53 37).toNat).getD (-1) else -1) : r = r2 := by
  rw [p1, p2]
  by_cases c : 0 ≤ a ∧ a < 240
  · rw [if_pos c, if_pos c]
    have hA := h.2.2.2.2.2.1.1.1
    have h61 := h.2.2.2.2.2.1.2.2.1
    rw [mRun_rw h c.1 _ (by omega), ← h61, ← rwX_out h c.1 (6 - (M 6 1).toNat) (M 6 1).toNat (Nat.le_refl _) (by omega), show (M 6 1).toNat + (6 - (M 6 1).toNat) = 6 by omega, rwX_6, ← rwC_d, ← rwC_d, ← rwC_d, ← rwC_d, ← rwC_d, ← rwC_d]
    rfl
  · rw [if_neg c, if_neg c]
def mxN (f : Int → Int) : Nat → Int
  | 0 => -1
  | n + 1 => max (mxN f n) (f (n : Int))
theorem mxN_ge (f : Int → Int) : ∀ n : Nat, -1 ≤ mxN f n
  | 0 => Int.le_refl _
  | n + 1 => Int.le_trans (mxN_ge f n) (Int.le_max_left _ _)
theorem mLast_mx (h : Inv N sh M L R) : ∀ n : Nat, n ≤ 6 → mLast M n = mxN (M 52) n
  | 0, _ => rfl
  | n + 1, hn => by
    obtain ⟨q, ho, hc, h0, h1⟩ := plan_at h
    have ih := mLast_mx h n (by omega)
    have c := hc (n : Int) (by omega) (by omega)
    have ge := mxN_ge (M 52) n
    rw [mLast_s, ih]
    show _ = max (mxN (M 52) n) (M 52 (n : Int))
    cases hi : inF q (n : Int)
    · have e : M 52 (n : Int) = -1 := by rw [c.2.2.2]; exact lkF_no hi
      rw [e, Int.max_eq_left ge]
      by_cases hp : M 53 68 = 0
      · rw [if_neg (fun z => z.1 hp)]
      · have e2 : M 103 (n : Int) = -1 := by rw [(h1 hp).1 _ (by omega) (by omega)]; exact lkF_no hi
        rw [if_neg (fun z => z.2.1 e2)]
    · have hp : M 53 68 ≠ 0 := fun z => by
        rw [h0 z] at hi
        cases hi
      have g := (h1 hp).1 (n : Int) (by omega) (by omega)
      have g2 := (h1 hp).2 (n : Int) (by omega) (by omega) hi
      have hne : lkF fg q (n : Int) ≠ -1 := (lkF_has ho).mpr hi
      rw [g2.2.2, ← c.2.2.2]
      by_cases y : mxN (M 52) n < M 52 (n : Int)
      · rw [if_pos ⟨hp, by rw [g]; exact hne, y⟩, Int.max_eq_right (by omega)]
      · rw [if_neg (fun z => y z.2.2), Int.max_eq_left (by omega)]
theorem mxN_out (h : Inv N sh M L R) : ∀ d n : Nat, (M 6 1).toNat ≤ n → n + d ≤ 6 → mxN (M 52) (n + d) = mxN (M 52) n
  | 0, _, _, _ => rfl
  | d + 1, n, h1, h2 => by
    obtain ⟨q, ho, hc, _, _⟩ := plan_at h
    have hA := h.2.2.2.2.2.1.1.1
    have ih := mxN_out h d n h1 (by omega)
    have c := hc ((n + d : Nat) : Int) (by omega) (by omega)
    have hi : inF q ((n + d : Nat) : Int) = false := by
      cases hi : inF q ((n + d : Nat) : Int)
      · rfl
      · have := inF_b ho hi; omega
    show max (mxN (M 52) (n + d)) (M 52 ((n + d : Nat) : Int)) = _
    rw [ih, c.2.2.2, lkF_no hi, Int.max_eq_left (mxN_ge _ _)]
theorem s_count {a : Int} {t : Nat} (h : Inv N sh M L R) (ht : R 0 8 = some t) (p1 : r = if a = 0 then M 6 1 else if a = 1 then M 9 3 else if a = 2 then M t 7 else if a = 3 then (if M 0 7 ≠ 0 then M 47 5 else -1) else if a = 4 then lastL (M 52) else if a = 5 then M 1 1 else if a = 6 then M 6 4 else if a = 7 then M 6 5 else -1) (p2 : r2 = if a = 0 then M 53 37 else if a = 1 then M 53 53 else if a = 2 then M 61 (M 53 18) else if a = 3 then (if M 53 68 ≠ 0 then M 53 69 else -1) else if a = 4 then mLast M (M 53 37).toNat else if a = 5 then M 53 2 else if a = 6 then M 53 51 else if a = 7 then M 53 52 else -1) : r = r2 := by
  have hA := h.2.2.2.2.2.1.1.1
  have e1 := h.2.2.2.2.2.1.2.2.1
  have e2 := h.2.2.2.2.2.2.1.1
  have e3 : M t 7 = M 61 (M 53 18) := by
    obtain ⟨t1, t2, _, r8, _, hx⟩ := h.2.2.2.2.1
    have et : t1 = t := Option.some.inj (r8.symm.trans ht)
    subst et
    exact hx.2.2.1.symm
  have e4 : (if M 0 7 ≠ 0 then M 47 5 else -1) = (if M 53 68 ≠ 0 then M 53 69 else -1) := by
    obtain ⟨wo, q, ho, hZ, hP⟩ := h.2.2.2.2.2.2.2
    rcases hP with ⟨p, hP⟩ | ⟨p, p2, _⟩
    · rw [if_pos (by omega), if_pos (by rw [hP.1.1]; decide), hP.1.2]
      exact hZ.1.1
    · rw [if_neg (by omega), if_neg (by omega)]
  have e5 : lastL (M 52) = mLast M (M 53 37).toNat := by
    rw [← e1, mLast_mx h _ (by omega), ← mxN_out h (6 - (M 6 1).toNat) (M 6 1).toNat (Nat.le_refl _) (by omega), show (M 6 1).toNat + (6 - (M 6 1).toNat) = 6 by omega]
    rfl
  have e6 := h.2.2.1.1
  have e7 := h.2.2.2.2.2.1.2.2.2.2.1
  have e8 := h.2.2.2.2.2.1.2.2.2.2.2.1
  rw [p1, p2, e1, e2, e3, e4, e5, e6, e7, e8]
end Look
