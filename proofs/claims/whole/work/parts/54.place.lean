/-! PLACING ALIKE: class and model put an act in the same minutes -/
def plEq (Mp : MI) (R : MR) (t : Nat) (X : MI) (A : Int) : Prop :=
  (∀ a : Int, 0 ≤ a → a < A → (Mp 16 a = X 93 a ∧ 0 ≤ X 93 a) ∧ cKd Mp R a = X 76 a ∧ cPi Mp R a = X 77 a ∧ cWo Mp R a = X 78 a ∧ cCl Mp R a = X 79 a ∧ cHo Mp R a = X 80 a ∧ cFu Mp R a = X 81 a ∧ 1 ≤ X 79 a ∧ ∀ b : Int, 0 ≤ b → b < 240 → cLn Mp a b = pLen X a b ∧ 0 ≤ pLen X a b) ∧
  (∀ b : Int, 0 ≤ b → b < 240 → Mp 14 b = X 91 b ∧ ∀ m : Int, 0 < m → (b + m ≤ Mp 15 b ↔ (b + m ≤ 240 ∧ opN X b m.toNat = true))) ∧ Mp 6 4 = X 53 51 ∧
  ∀ v v' : Int → Int, (∀ z : Int, 0 ≤ z → z < 9 → v z = v' z) → cFst Mp t v 0 = mRule (mrow X 94 v') 0 ∧ cAm Mp t v (cFst Mp t v 1) = mHeld (mrow X 94 v') 1 ∧ cAm Mp t v (cFst Mp t v 2) = mHeld (mrow X 94 v') 2
theorem cAm_no {M : MI} {t : Nat} {v : Int → Int} : cAm M t v (-1) = 0 := by
  unfold cAm
  rw [if_neg (by omega)]
theorem ask9_at {f : Int → Int} {x0 x1 x2 x3 x4 x5 x6 x7 x8 : Int} {f' : Int → Int} (z : Int) (h0 : 0 ≤ z) (h1 : z < 9) : ask9 f x0 x1 x2 x3 x4 x5 x6 x7 x8 z = ask9 f' x0 x1 x2 x3 x4 x5 x6 x7 x8 z := by
  unfold ask9
  rcases (show z = 0 ∨ z = 1 ∨ z = 2 ∨ z = 3 ∨ z = 4 ∨ z = 5 ∨ z = 6 ∨ z = 7 ∨ z = 8 by omega) with rfl | rfl | rfl | rfl | rfl | rfl | rfl | rfl | rfl <;> rfl
theorem smF_L {u : Int → Int} {pi : Int → Int} {A a : Int} (hu : ∀ k : Int, 0 ≤ k → k < A → pi k = u k) (h0 : 0 ≤ a) (h1 : a < A) : ∀ {p : List Fl}, okF A p → smF (fun n => if pi n = pi a then 1 else 0) p = smL u a p
  | [], _ => rfl
  | f :: p, o => by
    show smF _ p + (if pi (fa f) = pi a then 1 else 0) = smL u a p + (if u (fa f) = u a then 1 else 0)
    rw [smF_L hu h0 h1 o.2.2.2.2.2, hu _ o.1.1 o.1.2, hu a h0 h1]
theorem ahL_same {k k' : Int → Int} {A : Int} (h : ∀ a : Int, 0 ≤ a → a < A → k a = k' a) : ∀ {p : List Fl}, okF A p → ahL k p = ahL k' p
  | [], _ => rfl
  | f :: p, o => h _ o.1.1 o.1.2
theorem endL_b {A : Int} : ∀ {p : List Fl}, okF A p → 0 ≤ endL p ∧ endL p ≤ 240
  | [], _ => ⟨Int.le_refl _, by decide⟩
  | f :: p, o => by
    have := o.2.2.2.1
    show 0 ≤ fg f + fm f ∧ fg f + fm f ≤ 240
    omega
theorem fb_skip {ok : Int → Bool} : ∀ (d : Nat) (s : Int), (∀ b : Int, s ≤ b → b < s + (d : Int) → b < 240 → ok b = false) → fb ok (240 - s).toNat s = fb ok (240 - (s + (d : Int))).toNat (s + (d : Int))
  | 0, s, _ => by rw [show s + ((0 : Nat) : Int) = s by omega]
  | d + 1, s, h => by
    by_cases c : s < 240
    · rw [fb_miss c (h s (by omega) (by omega) c), fb_skip d (s + 1) (fun b b1 b2 b3 => h b (by omega) (by omega) b3), show s + 1 + (d : Int) = s + ((d + 1 : Nat) : Int) by omega]
    · rw [fb_high (by omega), fb_high (by omega)]
theorem fb_same {ok ok' : Int → Bool} : ∀ (n : Nat) (s : Int), (∀ b : Int, s ≤ b → b < 240 → ok b = ok' b) → fb ok n s = fb ok' n s
  | 0, _, _ => rfl
  | n + 1, s, h => by
    unfold fb
    by_cases c : 240 ≤ s
    · rw [if_pos c, if_pos c]
    · rw [if_neg c, if_neg c, h s (Int.le_refl _) (by omega), fb_same n (s + 1) (fun b b1 b2 => h b (by omega) b2)]
section PlSame
variable {Mp : MI} {R : MR} {t : Nat} {X : MI} {A : Int}
theorem fT_same (h : plEq Mp R t X A) {p : List Fl} {a : Int} (a0 : 0 ≤ a) (a1 : a < A) (b : Int) : fT Mp p (aId R a) a b = mTL X p a b := by
  have q := h.1 a a0 a1
  unfold fT mTL
  rw [q.1.1, show Mp (aId R a) 3 = X 79 a from q.2.2.2.2.1]
theorem fL_same (h : plEq Mp R t X A) {p : List Fl} {a : Int} (a0 : 0 ≤ a) (a1 : a < A) {b : Int} (b0 : 0 ≤ b) (b1 : b < 240) : fL Mp p (aId R a) b (cLn Mp a b) = mLL X p a b := by
  have q := h.1 a a0 a1
  unfold fL mLL
  rw [(q.2.2.2.2.2.2.2.2 b b0 b1).1, show Mp (aId R a) 4 = X 80 a from q.2.2.2.2.2.1]
theorem v_same (h : plEq Mp R t X A) {p : List Fl} (o : okF A p) {a : Int} (a0 : 0 ≤ a) (a1 : a < A) {b : Int} (b0 : 0 ≤ b) (b1 : b < 240) : ∀ z : Int, 0 ≤ z → z < 9 → cvR Mp R p a b z = vRL X p a b z := by
  intro z z0 z1
  have q := h.1 a a0 a1
  have e1 := ahL_same (k := cKd Mp R) (k' := X 76) (fun a a0 a1 => (h.1 a a0 a1).2.1) o
  have e2 := smF_L (pi := cPi Mp R) (u := X 77) (fun a a0 a1 => (h.1 a a0 a1).2.2.1) a0 a1 o
  unfold cvR vRL
  rw [e1, e2, q.2.1, q.2.2.2.1, (h.2.1 b b0 b1).1, h.2.2.1, (q.2.2.2.2.2.2.2.2 b b0 b1).1]
  exact ask9_at z z0 z1
theorem ok_same (h : plEq Mp R t X A) {p : List Fl} (o : okF A p) {a : Int} (a0 : 0 ≤ a) (a1 : a < A) {b : Int} (b0 : 0 ≤ b) (b1 : b < 240) : cOkL Mp R t p a b = mOkL X p a b := by
  have q := h.1 a a0 a1
  have e := endL_b o
  have tx := h.2.2.2 _ _ (v_same h o a0 a1 b0 b1)
  have g1 : cAm Mp t (cvR Mp R p a b) (gRu Mp t p (cvR Mp R p a b)) = if 0 < (p.length : Int) then mHeld (mrow X 94 (vRL X p a b)) 1 else 0 := by
    unfold gRu
    by_cases c : 0 < (p.length : Int)
    · rw [if_pos c, if_pos c]; exact tx.2.1
    · rw [if_neg c, if_neg c]; exact cAm_no
  have n2 : 0 ≤ mHeld (mrow X 94 (vRL X p a b)) 2 := by rw [← tx.2.2]; exact (cAm_b _ _ _ _).1
  have en : ¬ 0 < (p.length : Int) → endL p = 0 := by
    intro c
    cases p with
    | nil => rfl
    | cons f p => simp only [List.length_cons] at c; omega
  have hl := (q.2.2.2.2.2.2.2.2 b b0 b1)
  have op := (h.2.1 b b0 b1).2
  have fu : Mp (aId R a) 5 = X 81 a := q.2.2.2.2.2.2.1
  unfold cOkL flyOk mOkL
  rw [Bool.eq_iff_iff]
  simp only [Bool.and_eq_true, decide_eq_true_eq]
  rw [fT_same h a0 a1, fL_same h a0 a1 b0 b1, g1, tx.1, tx.2.2, fu, hl.1]
  generalize hln : pLen X a b = ln at *
  generalize mTL X p a b = T at *
  generalize mLL X p a b = L at *
  generalize mRule (mrow X 94 (vRL X p a b)) 0 = r0 at *
  generalize mHeld (mrow X 94 (vRL X p a b)) 2 = h2 at *
  generalize mHeld (mrow X 94 (vRL X p a b)) 1 = h1 at *
  constructor
  · rintro ⟨⟨l0, l1⟩, ⟨x1, x2, x3⟩, y, z, w⟩
    have o2 := (op ln l0).mp l1
    refine ⟨⟨by omega, o2.1⟩, o2.2, ?_, w, x1, x2, z⟩
    by_cases c : 0 < (p.length : Int)
    · rw [if_pos c] at y; exact Or.inr (by omega)
    · exact Or.inl (by omega)
  · rintro ⟨⟨l0, l1⟩, o2, y, w, x1, x2, z⟩
    have l2 : 0 < ln := by have := hl.2; omega
    refine ⟨⟨l2, (op ln l2).mpr ⟨l1, o2⟩⟩, ⟨x1, x2, by omega⟩, ?_, z, w⟩
    by_cases c : 0 < (p.length : Int)
    · rw [if_pos c]; rcases y with y | y <;> omega
    · rw [if_neg c, en c]; omega
theorem bl_same (h : plEq Mp R t X A) {p : List Fl} (o : okF A p) {a : Int} (a0 : 0 ≤ a) (a1 : a < A) : cBL Mp R t p a = mBL X p a := by
  have q := h.1 a a0 a1
  have e := endL_b o
  unfold cBL mBL
  have hc : cCl Mp R a = X 79 a := q.2.2.2.2.1
  have hs : endL p ≤ cSt Mp R p a ∧ (cSt Mp R p a = endL p ∨ cSt Mp R p a = X 93 a + X 79 a) := by
    unfold cSt
    rw [hc, q.1.1]
    have := q.1.2
    have := q.2.2.2.2.2.2.2.1
    omega
  have hs2 : X 93 a + X 79 a ≤ cSt Mp R p a := by unfold cSt; rw [hc, q.1.1]; omega
  generalize cSt Mp R p a = S at *
  rw [fb_same (ok' := mOkL X p a) _ S (fun b b0 b1 => ok_same h o a0 a1 (by omega) b1)]
  have sk := fb_skip (ok := mOkL X p a) (S - endL p).toNat (endL p) (fun b b0 b1 b2 => by
    have hT : mTL X p a b = -1 := by
      unfold mTL
      exact lf_low (by omega) _
    unfold mOkL
    rw [Bool.and_eq_false_iff, Bool.and_eq_false_iff, Bool.and_eq_false_iff, Bool.and_eq_false_iff]
    exact Or.inr (Or.inr (Or.inr (Or.inr (decide_eq_false (fun z => z.1 hT))))))
  rw [show endL p + (((S - endL p).toNat : Nat) : Int) = S by omega] at sk
  exact sk.symm
theorem pl_same (h : plEq Mp R t X A) {p : List Fl} (o : okF A p) {a : Int} (a0 : 0 ≤ a) (a1 : a < A) : cpl Mp R t p a = mpl X p a := by
  have e := endL_b o
  unfold cpl mpl
  rw [bl_same h o a0 a1]
  by_cases c : mBL X p a = -1
  · rw [if_pos c, if_pos c]
  · rw [if_neg c, if_neg c]
    have hb : endL p ≤ mBL X p a ∧ mBL X p a < 240 := by
      have z := fb_in (ok := mOkL X p a) (n := (240 - endL p).toNat) (b := endL p) c
      exact ⟨z.1, z.2.1⟩
    rw [fT_same h a0 a1, fL_same h a0 a1 (by omega) hb.2, ((h.1 a a0 a1).2.2.2.2.2.2.2.2 _ (by omega) hb.2).1]
end PlSame
