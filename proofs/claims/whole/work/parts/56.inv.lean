/-! CLASS AND MODEL: what stands in both -/
def iTape (M : MI) : Prop := M 1 1 = M 53 2 ∧ (0 ≤ M 1 1 ∧ M 1 1 ≤ 2000) ∧ ∀ z : Int, 0 ≤ z → z < M 1 1 → M 2 z = M 54 z
def iText (M : MI) (R : MR) : Prop := ∃ t t' : Nat, ((t = 17 ∧ t' = 24) ∨ (t = 24 ∧ t' = 17)) ∧ R 0 8 = some t ∧ R 0 9 = some t' ∧ TxEq M t
def figEq (M : MI) (g : Nat) (i : Int) : Prop := M g 0 = M 83 i ∧ M g 1 = M 84 i ∧ M g 2 = M 85 i ∧ M g 3 = M 86 i
def actEq (M : MI) (R : MR) (a : Int) : Prop := (M (aId R a) 0 = M 76 a ∧ M (aId R a) 1 = M 77 a ∧ M (aId R a) 2 = M 78 a ∧ M (aId R a) 3 = M 79 a ∧ M (aId R a) 4 = M 80 a ∧ M (aId R a) 5 = M 81 a ∧ M (aId R a) 7 = M 82 a) ∧ ∀ j : Int, 0 ≤ j → j < M 82 a → figEq M (cG R (aId R a) j) (6 * a + j)
def iShow (M : MI) (R : MR) (sh : MS) (N : Nat) : Prop := ShowOk M R sh N ∧ mBnd M ∧ M 6 1 = M 53 37 ∧ ((M 6 3 = 0 ∧ M 53 49 = 10) ∨ (M 6 3 = 1 ∧ M 53 49 = -1)) ∧ M 6 4 = M 53 51 ∧ M 6 5 = M 53 52 ∧ (∀ z : Int, 0 ≤ z → z < 10 → M 8 z = M 87 z) ∧ ∀ a : Int, 0 ≤ a → a < M 6 1 → actEq M R a
def iFact (M : MI) : Prop := M 9 3 = M 53 53 ∧ (0 ≤ M 9 3 ∧ M 9 3 ≤ 100) ∧ ∀ k : Int, 0 ≤ k → k < M 9 3 → (FactOk (M 10 k) (M 11 k) (M 12 k) ∧ M 10 k ≠ 3) ∧ FactOk (M 88 k) (M 89 k) (M 90 k) ∧ M 11 k = M 89 k ∧ M 12 k = M 90 k ∧ M 10 k = if M 88 k = 3 then 1 else M 88 k
def iPlan (M : MI) : Prop := ∃ (wo : Int → Int) (q : List Fl), okF (M 6 1) q ∧ rZ wo M q ∧ ((M 0 7 = 1 ∧ rpP M q) ∨ (M 0 7 = 0 ∧ M 53 68 = 0 ∧ M 53 69 = 0 ∧ q = []))
def Inv (N : Nat) (sh : MS) (M L : MI) (R : MR) : Prop := Std N sh R ∧ keyOk L ∧ iTape M ∧ M 0 10 = M 53 17 ∧ iText M R ∧ iShow M R sh N ∧ iFact M ∧ iPlan M
theorem lastB_same {S A B S' A' B' : Int → Int} {m i0 i0' : Int} (h0 : i0 = i0') : ∀ n : Nat, (∀ k : Nat, k < n → (S (k : Int) = 0 ↔ S' (k : Int) = 0) ∧ A (k : Int) = A' (k : Int) ∧ B (k : Int) = B' (k : Int)) → lastB S A B m i0 n = lastB S' A' B' m i0' n
  | 0, _ => h0
  | n + 1, h => by
    rw [lastB_s, lastB_s, lastB_same h0 n (fun k hk => h k (by omega)), (h n (by omega)).2.1, (h n (by omega)).2.2]
    by_cases c : S (n : Int) = 0 ∧ A' (n : Int) = m
    · rw [if_pos c, if_pos ⟨(h n (by omega)).1.mp c.1, c.2⟩]
    · rw [if_neg c, if_neg (fun z => c ⟨(h n (by omega)).1.mpr z.1, z.2⟩)]
theorem bsAt_same {S A B S' A' B' : Int → Int} {n : Nat} (h : ∀ k : Nat, k < n → (S (k : Int) = 0 ↔ S' (k : Int) = 0) ∧ A (k : Int) = A' (k : Int) ∧ B (k : Int) = B' (k : Int)) : ∀ m : Nat, bsAt S A B n m = bsAt S' A' B' n m
  | 0 => lastB_same rfl n h
  | m + 1 => lastB_same (bsAt_same h m) n h
theorem rdAt_same {S A B S' A' B' : Int → Int} {a : Int} : ∀ n : Nat, (∀ k : Nat, k < n → (S (k : Int) = 2 ↔ S' (k : Int) = 2) ∧ A (k : Int) = A' (k : Int) ∧ B (k : Int) = B' (k : Int)) → rdAt S A B a n = rdAt S' A' B' a n
  | 0, _ => rfl
  | n + 1, h => by
    rw [rdAt_s, rdAt_s, rdAt_same n (fun k hk => h k (by omega)), (h n (by omega)).2.1, (h n (by omega)).2.2]
    by_cases c : S (n : Int) = 2 ∧ A' (n : Int) = a
    · rw [if_pos c, if_pos ⟨(h n (by omega)).1.mp c.1, c.2⟩]
    · rw [if_neg c, if_neg (fun z => c ⟨(h n (by omega)).1.mpr z.1, z.2⟩)]
theorem shAt_same {S A B S' A' B' : Int → Int} {m : Int} : ∀ n : Nat, (∀ k : Nat, k < n → ((S (k : Int) = 1 ∨ S (k : Int) = 3) ↔ (S' (k : Int) = 1 ∨ S' (k : Int) = 3)) ∧ A (k : Int) = A' (k : Int) ∧ B (k : Int) = B' (k : Int)) → shAt S A B m n = shAt S' A' B' m n
  | 0, _ => rfl
  | n + 1, h => by
    rw [shAt_s, shAt_s, shAt_same n (fun k hk => h k (by omega)), (h n (by omega)).2.1, (h n (by omega)).2.2]
    by_cases c : (S (n : Int) = 1 ∨ S (n : Int) = 3) ∧ A' (n : Int) ≤ m ∧ m < B' (n : Int)
    · rw [if_pos c, if_pos ⟨(h n (by omega)).1.mp c.1, c.2⟩]
    · rw [if_neg c, if_neg (fun z => c ⟨(h n (by omega)).1.mpr z.1, z.2⟩)]
theorem shAt_01 {S A B : Int → Int} {m : Int} : ∀ n : Nat, shAt S A B m n = 0 ∨ shAt S A B m n = 1
  | 0 => Or.inl rfl
  | n + 1 => by
    rw [shAt_s]
    split
    · exact Or.inr rfl
    · exact shAt_01 n
theorem opAt_iff (u : Int → Int) : ∀ (d : Nat) (e : Int), e ≤ opAt u d ↔ e ≤ 240 ∧ ∀ k : Int, 240 - (d : Int) ≤ k → k < e → u k ≠ 1
  | 0, e => ⟨fun h => ⟨h, fun k k1 k2 => by have : e ≤ 240 := h; omega⟩, fun h => h.1⟩
  | d + 1, e => by
    show e ≤ (if u (239 - (d : Int)) = 1 then 239 - (d : Int) else opAt u d) ↔ _
    have hd : 240 - ((d + 1 : Nat) : Int) = 239 - (d : Int) := by omega
    rw [hd]
    by_cases c : u (239 - (d : Int)) = 1
    · rw [if_pos c]
      constructor
      · intro h
        exact ⟨by omega, fun k k1 k2 => by omega⟩
      · intro h
        rcases Int.lt_or_le (239 - (d : Int)) e with q | q
        · exact absurd c (h.2 _ (Int.le_refl _) q)
        · exact q
    · rw [if_neg c, opAt_iff u d e]
      constructor
      · intro h
        refine ⟨h.1, fun k k1 k2 => ?_⟩
        rcases (show k = 239 - (d : Int) ∨ 240 - (d : Int) ≤ k by omega) with q | q
        · rw [q]; exact c
        · exact h.2 k q k2
      · intro h
        exact ⟨h.1, fun k k1 k2 => h.2 k (by omega) k2⟩
theorem fAll_same {rf rf' : Int → Bool} {mn mn' : Int → Int} : ∀ n : Nat, (∀ k : Nat, k < n → rf (k : Int) = rf' (k : Int) ∧ mn (k : Int) = mn' (k : Int)) → fAll rf mn n = fAll rf' mn' n
  | 0, _ => rfl
  | n + 1, h => by rw [fAll_s, fAll_s, fAll_same n (fun k hk => h k (by omega)), (h n (by omega)).1, (h n (by omega)).2]
theorem fTop_same {rf rf' : Int → Bool} {ht ht' : Int → Int} : ∀ n : Nat, (∀ k : Nat, k < n → rf (k : Int) = rf' (k : Int) ∧ ht (k : Int) = ht' (k : Int)) → fTop rf ht n = fTop rf' ht' n
  | 0, _ => rfl
  | n + 1, h => by rw [fTop_s, fTop_s, fTop_same n (fun k hk => h k (by omega)), (h n (by omega)).1, (h n (by omega)).2]
theorem lenF_same {n : Nat} {rf rf' hi hi' : Int → Bool} {mn mn' ht ht' : Int → Int} (h : ∀ k : Nat, k < n → rf (k : Int) = rf' (k : Int) ∧ hi (k : Int) = hi' (k : Int) ∧ mn (k : Int) = mn' (k : Int) ∧ ht (k : Int) = ht' (k : Int)) (b : Int) : lenF n rf hi mn ht b = lenF n rf' hi' mn' ht' b := by
  unfold lenF
  rw [fTop_same n (fun k hk => ⟨(h k hk).1, (h k hk).2.2.2⟩), fAll_same n (fun k hk => ⟨(h k hk).1, (h k hk).2.2.1⟩), fTop_same (rf := fun k => rf k || hi k) (rf' := fun k => rf' k || hi' k) n (fun k hk => ⟨by show (rf _ || hi _) = (rf' _ || hi' _); rw [(h k hk).1, (h k hk).2.1], (h k hk).2.2.2⟩), fAll_same (rf := fun k => rf k || hi k) (rf' := fun k => rf' k || hi' k) n (fun k hk => ⟨by show (rf _ || hi _) = (rf' _ || hi' _); rw [(h k hk).1, (h k hk).2.1], (h k hk).2.2.1⟩)]
theorem far_same {M : MI} {R : MR} {sh : MS} {N : Nat} (h : iShow M R sh N) {g : Nat} {i : Int} (e : figEq M g i) : cFar M g = mFar M i := by
  obtain ⟨_, hB, _, hf, hw, _, hc, _⟩ := h
  unfold cFar mFar
  rw [e.2.1, e.2.2.1, hw]
  have b := hB.2.2.2.2.2.2.2.1 i
  rcases hf with hf | hf
  · rw [if_pos hf.1, if_neg (by omega), hc _ b.1 (by omega)]
  · rw [if_neg (by omega), if_pos hf.2]
theorem len_same {M : MI} {R : MR} {sh : MS} {N : Nat} (h : iShow M R sh N) {a : Int} (a0 : 0 ≤ a) (a1 : a < M 6 1) (b : Int) : cLen M R (aId R a) b = mLen M a b := by
  have q := h.2.2.2.2.2.2.2 a a0 a1
  have hl := h.2.2.2.2.2.1
  unfold cLen mLen
  rw [q.1.2.2.2.2.2.2]
  refine lenF_same (fun k hk => ?_) b
  have e := q.2 (k : Int) (by omega) (by omega)
  unfold cRf mRf cHi mHi cMn mMn cHt mHt
  rw [far_same h e, hl, e.1, e.2.2.1, e.2.2.2]
  exact ⟨rfl, rfl, rfl, rfl⟩
theorem fact_same {M : MI} (h : iFact M) {n : Nat} (hn : (n : Int) ≤ M 9 3) : ∀ k : Nat, k < n → ((M 10 (k : Int) = 0 ↔ M 88 (k : Int) = 0) ∧ (M 10 (k : Int) = 2 ↔ M 88 (k : Int) = 2) ∧ ((M 10 (k : Int) = 1 ∨ M 10 (k : Int) = 3) ↔ (M 88 (k : Int) = 1 ∨ M 88 (k : Int) = 3))) ∧ M 11 (k : Int) = M 89 (k : Int) ∧ M 12 (k : Int) = M 90 (k : Int) := by
  intro k hk
  obtain ⟨_, _, e1, e2, e3⟩ := h.2.2 (k : Int) (by omega) (by omega)
  refine ⟨?_, e1, e2⟩
  rw [e3]
  by_cases c : M 88 (k : Int) = 3
  · rw [if_pos c, c]; decide
  · rw [if_neg c]; omega
/-- the two ways of placing are one -/
theorem plEq_of {M Mp M1 : MI} {R R1 : MR} {sh : MS} {N t : Nat} {n : Int} (hS : iShow M R sh N) (hF : iFact M) (ht : isT t) (hX : TxEq M t) (hp : prepC M R n Mp) (hn : 0 ≤ n ∧ n ≤ M 9 3) (hR : R1 = mu R 31 7 (some t)) (hm : ∀ i : Nat, 53 ≤ i → i ≤ 111 → M1 i = M i) : plEq Mp R1 t (mK M1 n) (M 6 1) := by
  obtain ⟨p1, p14, p16, p15, _, _, p33⟩ := hp
  have hO := hS.1
  have fs := fact_same hF (n := n.toNat) (by omega)
  have eA : ∀ a : Int, aId R1 a = aId R a := fun a => by unfold aId; rw [hR, mu_i _ _ _ (by decide)]
  have bs : ∀ m : Nat, bsAt (M 10) (M 11) (M 12) n.toNat m = bsAt (M 88) (M 89) (M 90) n.toNat m := fun m => bsAt_same (fun k hk => ⟨(fs k hk).1.1, (fs k hk).2⟩) m
  have x91 : ∀ b : Int, 0 ≤ b → b < 240 → mK M1 n 91 b = bsAt (M 88) (M 89) (M 90) n.toNat b.toNat := fun b b0 b1 => by
    show bsRow (M1 88) (M1 89) (M1 90) n.toNat 240 (M1 91) b = _
    rw [hm 88 (by decide) (by decide), hm 89 (by decide) (by decide), hm 90 (by decide) (by decide)]
    exact if_pos ⟨b0, b1⟩
  have y14 : ∀ b : Int, 0 ≤ b → b < 240 → Mp 14 b = bsAt (M 10) (M 11) (M 12) n.toNat b.toNat := fun b b0 b1 => by
    rw [p14]
    exact if_pos ⟨b0, b1⟩
  have e14 : ∀ b : Int, 0 ≤ b → b < 240 → Mp 14 b = mK M1 n 91 b := fun b b0 b1 => by rw [x91 b b0 b1, y14 b b0 b1, bs]
  have b9 : ∀ b : Int, 0 ≤ b → b < 240 → 0 ≤ Mp 14 b ∧ Mp 14 b ≤ 9 := fun b b0 b1 => by
    rw [y14 b b0 b1]
    exact bsAt_in (fun k k0 k1 => (hF.2.2 k k0 (by omega)).1.1) _
  have x92 : ∀ b : Int, 0 ≤ b → b < 240 → mK M1 n 92 b = shAt (M 10) (M 11) (M 12) b n.toNat := fun b b0 b1 => by
    show shRow (M1 88) (M1 89) (M1 90) n.toNat (M1 92) b = _
    rw [hm 88 (by decide) (by decide), hm 89 (by decide) (by decide), hm 90 (by decide) (by decide)]
    refine (if_pos ⟨b0, b1⟩).trans ?_
    exact (shAt_same n.toNat (fun k hk => ⟨(fs k hk).1.2.2, (fs k hk).2⟩)).symm
  have x93 : ∀ a : Int, 0 ≤ a → a < 6 → mK M1 n 93 a = Mp 16 a := fun a a0 a1 => by
    show rdRow (M1 88) (M1 89) (M1 90) n.toNat (M1 93) a = _
    rw [p16, hm 88 (by decide) (by decide), hm 89 (by decide) (by decide), hm 90 (by decide) (by decide)]
    refine (if_pos ⟨a0, a1⟩).trans (Eq.trans ?_ (if_pos ⟨a0, a1⟩).symm)
    exact (rdAt_same n.toNat (fun k hk => ⟨(fs k hk).1.2.1, (fs k hk).2⟩)).symm
  have big : ∀ a : Int, 0 ≤ a → a < M 6 1 → 112 ≤ aId R a := fun a a0 a1 => by
    have := (actId hO a0 a1).2
    exact this.1
  have hA : ∀ (a : Int), 0 ≤ a → a < M 6 1 → ∀ z : Int, Mp (aId R1 a) z = M (aId R a) z := fun a a0 a1 z => by
    have := big a a0 a1
    rw [eA, p1 _ (by omega) (by omega) (by omega)]
  have mm : ∀ (i : Nat), 53 ≤ i → i ≤ 111 → ¬ (91 ≤ i ∧ i ≤ 93) → mK M1 n i = M i := fun i i0 i1 i2 => by
    unfold mK
    rw [mrow_i _ _ (by omega), mrow_i _ _ (by omega), mrow_i _ _ (by omega)]
    exact hm i i0 i1
  have hlen : ∀ a b : Int, mLen (mK M1 n) a b = mLen M a b := fun a b => by
    unfold mLen mRf mHi mMn mHt mFar
    rw [mm 53 (by decide) (by decide) (by decide), mm 82 (by decide) (by decide) (by decide), mm 83 (by decide) (by decide) (by decide), mm 84 (by decide) (by decide) (by decide), mm 85 (by decide) (by decide) (by decide), mm 86 (by decide) (by decide) (by decide), mm 87 (by decide) (by decide) (by decide)]
  refine ⟨fun a a0 a1 => ?_, fun b b0 b1 => ⟨e14 b b0 b1, fun m m0 => ?_⟩, ?_, fun v v' hv => ?_⟩
  · have q := hS.2.2.2.2.2.2.2 a a0 a1
    have h6 := hO.1
    have ok := (actId hO a0 a1).2
    unfold cKd cPi cWo cCl cHo cFu
    rw [hA a a0 a1, hA a a0 a1, hA a a0 a1, hA a a0 a1, hA a a0 a1, hA a a0 a1, mm 76 (by decide) (by decide) (by decide), mm 77 (by decide) (by decide) (by decide), mm 78 (by decide) (by decide) (by decide), mm 79 (by decide) (by decide) (by decide), mm 80 (by decide) (by decide) (by decide), mm 81 (by decide) (by decide) (by decide), x93 a a0 (by omega)]
    refine ⟨⟨rfl, ?_⟩, q.1.1, q.1.2.1, q.1.2.2.1, q.1.2.2.2.1, q.1.2.2.2.2.1, q.1.2.2.2.2.2.1, ?_, fun b b0 b1 => ?_⟩
    · rw [p16]
      refine Int.le_trans ?_ (Int.le_of_eq (if_pos ⟨a0, by omega⟩).symm)
      exact (rdAt_in a n.toNat (fun k k0 k1 => (hF.2.2 k k0 (by omega)).1.1)).1
    · have := ok.2.2.2.2.1.2.2.2.1.1
      rw [q.1.2.2.2.1] at this
      exact this
    · have bb := b9 b b0 b1
      have e : cLn Mp a b = pLen (mK M1 n) a b := by
        unfold cLn pLen
        rw [hlen, ← e14 b b0 b1, p33 _ (by omega) (by omega)]
        unfold lnC
        rw [show (a * 10 + Mp 14 b) / 10 = a by omega, show (a * 10 + Mp 14 b) % 10 = Mp 14 b by omega, if_pos a1]
        exact len_same hS a0 a1 _
      refine ⟨e, ?_⟩
      unfold pLen
      rw [hlen]
      exact (mLen_b hS.2.1 a _).1
  · have hop : b + m ≤ Mp 15 b ↔ b + m ≤ 240 ∧ ∀ k : Int, b ≤ k → k < b + m → shAt (M 10) (M 11) (M 12) k n.toNat ≠ 1 := by
      rw [p15]
      show b + m ≤ (if 0 ≤ b ∧ b < 240 then opAt (fun z => shAt (M 10) (M 11) (M 12) z n.toNat) (240 - b).toNat else M 15 b) ↔ _
      rw [if_pos ⟨b0, b1⟩, opAt_iff, show 240 - (((240 - b).toNat : Nat) : Int) = b by omega]
    rw [hop, opN_iff]
    constructor
    · intro h
      refine ⟨h.1, fun k k0 k1 => ?_⟩
      rw [x92 k (by omega) (by omega)]
      have z := h.2 k k0 (by omega)
      rcases shAt_01 (S := M 10) (A := M 11) (B := M 12) (m := k) n.toNat with y | y
      · exact y
      · exact absurd y z
    · intro h
      refine ⟨h.1, fun k k0 k1 => ?_⟩
      have z := h.2 k k0 (by omega)
      rw [x92 k (by omega) (by omega)] at z
      rw [z]
      decide
  · rw [p1 6 (by decide) (by decide) (by decide), mm 53 (by decide) (by decide) (by decide)]
    exact hS.2.2.2.2.1
  · have hc : ∀ i : Nat, t ≤ i → i ≤ t + 5 → Mp i = M i := fun i i0 i1 => p1 i (by rcases ht with rfl | rfl <;> omega) (by rcases ht with rfl | rfl <;> omega) (by rcases ht with rfl | rfl <;> omega)
    have f1 : ∀ k : Int, cFst Mp t v k = cFst M t v k := fun k => by
      unfold cFst cP
      rw [hc t (by omega) (by omega), hc (t + 1) (by omega) (by omega), hc (t + 3) (by omega) (by omega), hc (t + 4) (by omega) (by omega), hc (t + 5) (by omega) (by omega)]
    have f2 : ∀ q : Int, cAm Mp t v q = cAm M t v q := fun q => by
      unfold cAm
      rw [hc t (by omega) (by omega), hc (t + 2) (by omega) (by omega), hc (t + 3) (by omega) (by omega), hc (t + 5) (by omega) (by omega)]
    have xx : ∀ i : Nat, (53 ≤ i ∧ i ≤ 74) ∨ i = 94 → mrow (mK M1 n) 94 v' i = mrow M 94 v' i := fun i hi => by
      by_cases c : i = 94
      · rw [c, mrow_s, mrow_s]
      · rw [mrow_i _ _ c, mrow_i _ _ c]
        exact mm i (by omega) (by omega) (by omega)
    have f3 : ∀ k : Int, mRule (mrow (mK M1 n) 94 v') k = mRule (mrow M 94 v') k := fun k => by
      unfold mRule mP mHold mO mX
      rw [xx 53 (by omega), xx 61 (by omega), xx 62 (by omega), xx 65 (by omega), xx 66 (by omega), xx 68 (by omega), xx 69 (by omega), xx 70 (by omega), xx 71 (by omega), xx 72 (by omega), xx 73 (by omega), xx 74 (by omega), xx 94 (by omega)]
    have f4 : ∀ k : Int, mHeld (mrow (mK M1 n) 94 v') k = mHeld (mrow M 94 v') k := fun k => by
      unfold mHeld
      rw [f3, xx 53 (by omega), xx 63 (by omega), xx 64 (by omega), xx 73 (by omega), xx 74 (by omega), xx 94 (by omega)]
    rw [f1, f1, f1, f2, f2, f3, f4, f4]
    exact ⟨tx_fst hX hv 0, tx_am hX hv (Or.inl rfl), tx_am hX hv (Or.inr rfl)⟩
