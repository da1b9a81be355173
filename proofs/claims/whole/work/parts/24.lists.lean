/-! ORDERS: a flight is act, take-off, begin, minutes, landing; the last one stands at the head -/
abbrev Fl := Int × Int × Int × Int × Int
def fa (f : Fl) : Int := f.1
def fo (f : Fl) : Int := f.2.1
def fg (f : Fl) : Int := f.2.2.1
def fm (f : Fl) : Int := f.2.2.2.1
def fn (f : Fl) : Int := f.2.2.2.2
def endL : List Fl → Int
  | [] => 0
  | f :: _ => fg f + fm f
def ahL (k : Int → Int) : List Fl → Int
  | [] => -1
  | f :: _ => k (fa f)
def smL (u : Int → Int) (a : Int) : List Fl → Int
  | [] => 0
  | f :: p => smL u a p + (if u (fa f) = u a then 1 else 0)
def tkL : List Fl → Int → Bool
  | [], _ => false
  | f :: p, m => tkL p m || (decide (fo f = m) || decide (fn f = m))
def inF : List Fl → Int → Bool
  | [], _ => false
  | f :: p, a => decide (fa f = a) || inF p a
def okF (A : Int) : List Fl → Prop
  | [] => True
  | f :: p => (0 ≤ fa f ∧ fa f < A) ∧ inF p (fa f) = false ∧ (0 ≤ fo f ∧ fo f < fn f ∧ fn f < 240) ∧ (0 ≤ fg f ∧ 1 ≤ fm f ∧ fg f + fm f ≤ 240) ∧ (tkL p (fo f) = false ∧ tkL p (fn f) = false) ∧ okF A p
/-- rows, by the place in the order, hold these flights -/
def rpG (r t b e l : Int → Int) : List Fl → Prop
  | [] => True
  | f :: p => (r (p.length : Int) = fa f ∧ t (p.length : Int) = fo f ∧ b (p.length : Int) = fg f ∧ e (p.length : Int) = fg f + fm f ∧ l (p.length : Int) = fn f) ∧ rpG r t b e l p
theorem rpG_congr {r t b e l r' t' b' e' l' : Int → Int} : ∀ {p : List Fl}, rpG r t b e l p → (∀ k : Int, 0 ≤ k → k < (p.length : Int) → r' k = r k ∧ t' k = t k ∧ b' k = b k ∧ e' k = e k ∧ l' k = l k) → rpG r' t' b' e' l' p
  | [], _, _ => trivial
  | f :: p, h, q => by
    have z := q (p.length : Int) (by omega) (by simp only [List.length_cons]; omega)
    refine ⟨⟨z.1.trans h.1.1, z.2.1.trans h.1.2.1, z.2.2.1.trans h.1.2.2.1, z.2.2.2.1.trans h.1.2.2.2.1, z.2.2.2.2.trans h.1.2.2.2.2⟩, ?_⟩
    exact rpG_congr h.2 (fun k q1 q2 => q k q1 (by simp only [List.length_cons]; omega))
theorem rpG_in {r t b e l : Int → Int} {A : Int} : ∀ {p : List Fl}, rpG r t b e l p → okF A p → ∀ k : Int, 0 ≤ k → k < (p.length : Int) → (0 ≤ r k ∧ r k < A) ∧ (0 ≤ t k ∧ t k < 240) ∧ (0 ≤ b k ∧ b k < 240) ∧ (0 ≤ e k ∧ e k ≤ 240) ∧ (0 ≤ l k ∧ l k < 240)
  | [], _, _, k, h1, h2 => absurd h2 (by simp only [List.length_nil]; omega)
  | f :: p, h, o, k, h1, h2 => by
    simp only [List.length_cons] at h2
    rcases (show k < (p.length : Int) ∨ k = (p.length : Int) by omega) with q | q
    · exact rpG_in h.2 o.2.2.2.2.2 k h1 q
    · subst q
      obtain ⟨⟨e1, e2, e3, e4, e5⟩, _⟩ := h
      obtain ⟨o1, _, o3, o4, _, _⟩ := o
      rw [e1, e2, e3, e4, e5]
      exact ⟨o1, ⟨by omega, by omega⟩, ⟨by omega, by omega⟩, ⟨by omega, by omega⟩, by omega, by omega⟩
def rpM (M : MI) (p : List Fl) : Prop := rpG (M 96) (M 97) (M 98) (M 99) (M 100) p
def rpN (M : MI) (p : List Fl) : Prop := M 53 62 = (p.length : Int) ∧ rpM M p
theorem tkN_L {M : MI} (m : Int) : ∀ {p : List Fl}, rpM M p → tkN M m p.length = tkL p m
  | [], _ => rfl
  | f :: p, h => by
    show (tkN M m p.length || (decide (M 97 (p.length : Int) = m) || decide (M 100 (p.length : Int) = m))) = (tkL p m || (decide (fo f = m) || decide (fn f = m)))
    rw [tkN_L m h.2, h.1.2.1, h.1.2.2.2.2]
theorem mTk_L {M : MI} {p : List Fl} (h : rpN M p) : mTk M = tkL p := by
  funext m
  unfold mTk
  rw [h.1, Int.toNat_natCast]
  exact tkN_L m h.2
theorem mFst_L {M : MI} : ∀ {p : List Fl}, rpN M p → mFst M = endL p
  | [], h => by unfold mFst; rw [if_pos (show M 53 62 = 0 from h.1)]; rfl
  | f :: p, h => by
    have z := h.1
    simp only [List.length_cons] at z
    unfold mFst
    rw [if_neg (by omega), show M 53 62 - 1 = (p.length : Int) by omega, h.2.1.2.2.2.1]
    rfl
theorem mAh_L {M : MI} : ∀ {p : List Fl}, rpN M p → mAh M = ahL (M 76) p
  | [], h => by unfold mAh; rw [if_pos (show M 53 62 = 0 from h.1)]; rfl
  | f :: p, h => by
    have z := h.1
    simp only [List.length_cons] at z
    unfold mAh
    rw [if_neg (by omega), show M 53 62 - 1 = (p.length : Int) by omega, h.2.1.1]
    rfl
theorem smN_L {M : MI} (a : Int) : ∀ {p : List Fl}, rpM M p → smN M a p.length = smL (M 77) a p
  | [], _ => rfl
  | f :: p, h => by
    show smN M a p.length + (if M 77 (M 96 (p.length : Int)) = M 77 a then 1 else 0) = smL (M 77) a p + (if M 77 (fa f) = M 77 a then 1 else 0)
    rw [smN_L a h.2, h.1.1]
theorem mSm_L {M : MI} {p : List Fl} (h : rpN M p) (a : Int) : mSm M a = smL (M 77) a p := by
  unfold mSm
  rw [h.1, Int.toNat_natCast]
  exact smN_L a h.2
def vRL (M : MI) (p : List Fl) (a b : Int) : Int → Int := ask9 (M 94) a (M 76 a) (ahL (M 76) p) (smL (M 77) a p) (M 91 b) b (M 53 51) (pLen M a b) (M 78 a)
def mTL (M : MI) (p : List Fl) (a b : Int) : Int := lf (tkL p) (M 93 a) (b - M 79 a - M 93 a + 1).toNat (b - M 79 a)
def mLL (M : MI) (p : List Fl) (a b : Int) : Int := ff (tkL p) (240 - (b + pLen M a b + M 80 a)).toNat (b + pLen M a b + M 80 a)
def mOkL (M : MI) (p : List Fl) (a b : Int) : Bool := decide (pLen M a b ≠ 0 ∧ b + pLen M a b ≤ 240) && (opN M b (pLen M a b).toNat && (decide ((p.length : Int) ≤ 0 ∨ endL p + mHeld (mrow M 94 (vRL M p a b)) 1 ≤ b) && (decide (mRule (mrow M 94 (vRL M p a b)) 0 = -1) && decide (mTL M p a b ≠ -1 ∧ mLL M p a b ≠ -1 ∧ mLL M p a b - mTL M p a b ≤ M 81 a - mHeld (mrow M 94 (vRL M p a b)) 2))))
theorem mOkL_iff {M : MI} {p : List Fl} {a b : Int} : mOkL M p a b = true ↔ (pLen M a b ≠ 0 ∧ b + pLen M a b ≤ 240) ∧ opN M b (pLen M a b).toNat = true ∧ ((p.length : Int) ≤ 0 ∨ endL p + mHeld (mrow M 94 (vRL M p a b)) 1 ≤ b) ∧ mRule (mrow M 94 (vRL M p a b)) 0 = -1 ∧ (mTL M p a b ≠ -1 ∧ mLL M p a b ≠ -1 ∧ mLL M p a b - mTL M p a b ≤ M 81 a - mHeld (mrow M 94 (vRL M p a b)) 2) := by
  unfold mOkL
  simp only [Bool.and_eq_true, decide_eq_true_eq]
def mBL (M : MI) (p : List Fl) (a : Int) : Int := fb (mOkL M p a) (240 - endL p).toNat (endL p)
def mpl (M : MI) (p : List Fl) (a : Int) : Option Fl := if mBL M p a = -1 then none else some (a, mTL M p a (mBL M p a), mBL M p a, pLen M a (mBL M p a), mLL M p a (mBL M p a))
theorem vR_L {M : MI} {p : List Fl} (h : rpN M p) (a b : Int) : vR M a b = vRL M p a b := by
  unfold vR vRL
  rw [mAh_L h, mSm_L h]
theorem mT_L {M : MI} {p : List Fl} (h : rpN M p) (a b : Int) : mT M a b = mTL M p a b := by
  unfold mT mTL
  rw [mTk_L h]
theorem mL_L {M : MI} {p : List Fl} (h : rpN M p) (a b : Int) : mL M a b = mLL M p a b := by
  unfold mL mLL
  rw [mTk_L h]
theorem mOk_L {M : MI} {p : List Fl} (h : rpN M p) (a : Int) : mOk M a = mOkL M p a := by
  funext b
  unfold mOk mOkL mV
  rw [vR_L h, mT_L h, mL_L h, mFst_L h, h.1]
theorem mB_L {M : MI} {p : List Fl} (h : rpN M p) (a : Int) : mB M a = mBL M p a := by
  unfold mB mBL
  rw [mOk_L h, mFst_L h]
theorem fb_in {ok : Int → Bool} : ∀ {n : Nat} {b : Int}, fb ok n b ≠ -1 → b ≤ fb ok n b ∧ fb ok n b < 240 ∧ ok (fb ok n b) = true
  | 0, _, h => absurd rfl h
  | n + 1, b, h => by
    rw [fb] at h ⊢
    split
    · rename_i q; rw [if_pos q] at h; exact absurd rfl h
    · rename_i q
      rw [if_neg q] at h
      split
      · rename_i z; exact ⟨by omega, by omega, z⟩
      · rename_i z
        rw [if_neg z] at h
        have := fb_in h
        exact ⟨by omega, this.2.1, this.2.2⟩
theorem ff_in {tk : Int → Bool} : ∀ {n : Nat} {b : Int}, ff tk n b ≠ -1 → b ≤ ff tk n b ∧ ff tk n b < 240 ∧ tk (ff tk n b) = false
  | 0, _, h => absurd rfl h
  | n + 1, b, h => by
    rw [ff] at h ⊢
    split
    · rename_i q; rw [if_pos q] at h; exact absurd rfl h
    · rename_i q
      rw [if_neg q] at h
      split
      · rename_i z; exact ⟨by omega, by omega, z⟩
      · rename_i z
        rw [if_neg z] at h
        have := ff_in h
        exact ⟨by omega, this.2.1, this.2.2⟩
theorem lf_in {tk : Int → Bool} {lo : Int} : ∀ {n : Nat} {b : Int}, lf tk lo n b ≠ -1 → lf tk lo n b ≤ b ∧ lo ≤ lf tk lo n b ∧ tk (lf tk lo n b) = false
  | 0, _, h => absurd rfl h
  | n + 1, b, h => by
    rw [lf] at h ⊢
    split
    · rename_i q; rw [if_pos q] at h; exact absurd rfl h
    · rename_i q
      rw [if_neg q] at h
      split
      · rename_i z; exact ⟨by omega, by omega, z⟩
      · rename_i z
        rw [if_neg z] at h
        have := lf_in h
        exact ⟨by omega, this.2.1, this.2.2⟩
theorem endL_in {A : Int} : ∀ {p : List Fl}, okF A p → 0 ≤ endL p ∧ endL p ≤ 240
  | [], _ => ⟨by decide, by decide⟩
  | f :: p, o => by
    have := o.2.2.2.1
    show 0 ≤ fg f + fm f ∧ fg f + fm f ≤ 240
    omega
/-- what places needs of the act -/
def mPreA (M : MI) (a : Int) : Prop := (0 ≤ a ∧ a < M 53 37) ∧ ((1 ≤ M 79 a ∧ M 79 a ≤ 20) ∧ (1 ≤ M 80 a ∧ M 80 a ≤ 20) ∧ (1 ≤ M 81 a ∧ M 81 a ≤ 120)) ∧ (0 ≤ M 93 a ∧ M 93 a < 240) ∧ ∀ b : Int, 0 ≤ b → b < 240 → 0 ≤ M 91 b ∧ M 91 b ≤ 9
theorem mpl_ok {M : MI} {p : List Fl} {a : Int} {f : Fl} (hB : mBnd M) (ha : mPreA M a) (ho : okF (M 53 37) p) (hi : inF p a = false) (h : mpl M p a = some f) : okF (M 53 37) (f :: p) := by
  unfold mpl at h
  by_cases q : mBL M p a = -1
  · rw [if_pos q] at h; cases h
  rw [if_neg q] at h
  cases h
  have he := endL_in ho
  have h1 := fb_in (ok := mOkL M p a) (n := (240 - endL p).toNat) (b := endL p) q
  rw [show fb (mOkL M p a) (240 - endL p).toNat (endL p) = mBL M p a from rfl] at h1
  obtain ⟨b, hb⟩ : ∃ b, b = mBL M p a := ⟨_, rfl⟩
  rw [← hb] at h1 ⊢
  have h2 := mOkL_iff.mp h1.2.2
  obtain ⟨⟨l1, l2⟩, _, _, _, t1, t2, _⟩ := h2
  have hl := mLen_b hB a (M 91 b)
  rw [show mLen M a (M 91 b) = pLen M a b from rfl] at hl
  have h3 := lf_in (tk := tkL p) (lo := M 93 a) (n := (b - M 79 a - M 93 a + 1).toNat) (b := b - M 79 a) t1
  have h4 := ff_in (tk := tkL p) (n := (240 - (b + pLen M a b + M 80 a)).toNat) (b := b + pLen M a b + M 80 a) t2
  rw [show lf (tkL p) (M 93 a) (b - M 79 a - M 93 a + 1).toNat (b - M 79 a) = mTL M p a b from rfl] at h3
  rw [show ff (tkL p) (240 - (b + pLen M a b + M 80 a)).toNat (b + pLen M a b + M 80 a) = mLL M p a b from rfl] at h4
  obtain ⟨a1, a2, a3, _⟩ := ha
  exact ⟨a1, hi, ⟨show 0 ≤ mTL M p a b by omega, show mTL M p a b < mLL M p a b by omega, show mLL M p a b < 240 by omega⟩, ⟨show 0 ≤ b by omega, show 1 ≤ pLen M a b by omega, show b + pLen M a b ≤ 240 by omega⟩, ⟨h3.2.2, h4.2.2⟩, ho⟩
/-- what a search may change -/
def frM (M M' : MI) : Prop := (∀ i : Nat, i ≠ 53 → ¬ (94 ≤ i ∧ i ≤ 100) → ¬ (106 ≤ i ∧ i ≤ 111) → M' i = M i) ∧ (∀ z : Int, z ≠ 62 → ¬ (75 ≤ z ∧ z ≤ 78) → M' 53 z = M 53 z) ∧ ∀ z : Int, ¬ (0 ≤ z ∧ z ≤ 8) → M' 94 z = M 94 z
theorem frM_refl (M : MI) : frM M M := ⟨fun _ _ _ _ => rfl, fun _ _ _ => rfl, fun _ _ => rfl⟩
theorem frM_trans {M M1 M2 : MI} (h : frM M M1) (h' : frM M1 M2) : frM M M2 :=
  ⟨fun i a b c => (h'.1 i a b c).trans (h.1 i a b c), fun z a b => (h'.2.1 z a b).trans (h.2.1 z a b), fun z a => (h'.2.2 z a).trans (h.2.2 z a)⟩
theorem pLen_fr {M M' : MI} (h : frM M M') (a b : Int) : pLen M' a b = pLen M a b := by
  unfold pLen mLen mRf mHi mMn mHt mFar
  rw [h.1 91 (by decide) (by decide) (by decide), h.1 82 (by decide) (by decide) (by decide), h.1 83 (by decide) (by decide) (by decide), h.1 84 (by decide) (by decide) (by decide), h.1 85 (by decide) (by decide) (by decide), h.1 86 (by decide) (by decide) (by decide), h.1 87 (by decide) (by decide) (by decide), h.2.1 49 (by decide) (by decide), h.2.1 51 (by decide) (by decide), h.2.1 52 (by decide) (by decide)]
theorem vRL_fr {M M' : MI} (h : frM M M') (p : List Fl) (a b : Int) : vRL M' p a b = vRL M p a b := by
  unfold vRL
  rw [ask9_9 (f := M 94) h.2.2, pLen_fr h, h.1 76 (by decide) (by decide) (by decide), h.1 77 (by decide) (by decide) (by decide), h.1 78 (by decide) (by decide) (by decide), h.1 91 (by decide) (by decide) (by decide), h.2.1 51 (by decide) (by decide)]
theorem mRule_fr {M M' : MI} (h : frM M M') (v : Int → Int) (s : Int) : mRule (mrow M' 94 v) s = mRule (mrow M 94 v) s := by
  have e53 : (mrow M' 94 v) 53 18 = M 53 18 := h.2.1 18 (by decide) (by decide)
  have e53' : (mrow M 94 v) 53 18 = M 53 18 := rfl
  have e94 : (mrow M' 94 v) 94 = v := rfl
  have e94' : (mrow M 94 v) 94 = v := rfl
  have ee : ∀ i : Nat, 61 ≤ i → i ≤ 74 → (mrow M' 94 v) i = (mrow M 94 v) i := fun i q1 q2 => by
    rw [mrow_i _ _ (by omega), mrow_i _ _ (by omega)]; exact h.1 i (by omega) (by omega) (by omega)
  have hO : mO (mrow M' 94 v) = mO (mrow M 94 v) := by
    unfold mO
    rw [e53, e53', ee 72 (by decide) (by decide)]
  have hX : mX (mrow M' 94 v) = mX (mrow M 94 v) := by
    unfold mX
    rw [e53, e53', e94, e94', ee 68 (by decide) (by decide), ee 69 (by decide) (by decide), ee 70 (by decide) (by decide), ee 71 (by decide) (by decide), ee 73 (by decide) (by decide), ee 74 (by decide) (by decide)]
  have hH : mHold (mrow M' 94 v) = mHold (mrow M 94 v) := by
    funext q
    unfold mHold
    rw [hO, hX, ee 65 (by decide) (by decide), ee 66 (by decide) (by decide)]
  unfold mRule mP
  rw [e53, e53', ee 61 (by decide) (by decide), ee 62 (by decide) (by decide), hH]
theorem mHeld_fr {M M' : MI} (h : frM M M') (v : Int → Int) (s : Int) : mHeld (mrow M' 94 v) s = mHeld (mrow M 94 v) s := by
  unfold mHeld
  rw [mRule_fr h]
  have e53 : (mrow M' 94 v) 53 18 = (mrow M 94 v) 53 18 := h.2.1 18 (by decide) (by decide)
  have ee : ∀ i : Nat, 61 ≤ i → i ≤ 74 → (mrow M' 94 v) i = (mrow M 94 v) i := fun i q1 q2 => by
    rw [mrow_i _ _ (by omega), mrow_i _ _ (by omega)]; exact h.1 i (by omega) (by omega) (by omega)
  rw [e53, ee 63 (by decide) (by decide), ee 64 (by decide) (by decide), ee 73 (by decide) (by decide), ee 74 (by decide) (by decide)]
  rfl
theorem opN_fr {M M' : MI} (h : frM M M') (b : Int) : ∀ n : Nat, opN M' b n = opN M b n
  | 0 => rfl
  | n + 1 => by
    show (opN M' b n && decide (M' 92 (b + (n : Int)) = 0)) = (opN M b n && decide (M 92 (b + (n : Int)) = 0))
    rw [opN_fr h b n, h.1 92 (by decide) (by decide) (by decide)]
theorem mpl_fr {M M' : MI} (h : frM M M') (p : List Fl) (a : Int) : mpl M' p a = mpl M p a := by
  have hT : ∀ b, mTL M' p a b = mTL M p a b := fun b => by
    unfold mTL; rw [h.1 93 (by decide) (by decide) (by decide), h.1 79 (by decide) (by decide) (by decide)]
  have hL : ∀ b, mLL M' p a b = mLL M p a b := fun b => by
    unfold mLL; rw [pLen_fr h, h.1 80 (by decide) (by decide) (by decide)]
  have hO : mOkL M' p a = mOkL M p a := by
    funext b
    unfold mOkL
    rw [pLen_fr h, opN_fr h, vRL_fr h, mHeld_fr h, mHeld_fr h, mRule_fr h, hT, hL, h.1 81 (by decide) (by decide) (by decide)]
  have hBb : mBL M' p a = mBL M p a := by unfold mBL; rw [hO]
  unfold mpl
  rw [hBb, hT, hL, pLen_fr h]
theorem mBnd_fr {M M' : MI} (h : frM M M') (hB : mBnd M) : mBnd M' := by
  unfold mBnd at hB ⊢
  rw [h.2.1 37 (by decide) (by decide), h.2.1 49 (by decide) (by decide), h.2.1 51 (by decide) (by decide), h.2.1 52 (by decide) (by decide), h.2.1 53 (by decide) (by decide), h.1 82 (by decide) (by decide) (by decide), h.1 83 (by decide) (by decide) (by decide), h.1 84 (by decide) (by decide) (by decide), h.1 85 (by decide) (by decide) (by decide), h.1 87 (by decide) (by decide) (by decide)]
  exact hB
theorem mTxt_fr {M M' : MI} (h : frM M M') (hT : mTxt M) : mTxt M' := by
  unfold mTxt mRel at hT ⊢
  rw [h.2.1 18 (by decide) (by decide), h.1 61 (by decide) (by decide) (by decide), h.1 62 (by decide) (by decide) (by decide), h.1 63 (by decide) (by decide) (by decide), h.1 64 (by decide) (by decide) (by decide), h.1 65 (by decide) (by decide) (by decide), h.1 66 (by decide) (by decide) (by decide), h.1 69 (by decide) (by decide) (by decide), h.1 70 (by decide) (by decide) (by decide), h.1 71 (by decide) (by decide) (by decide), h.1 73 (by decide) (by decide) (by decide), h.1 74 (by decide) (by decide) (by decide)]
  exact hT
theorem mPreA_fr {M M' : MI} (h : frM M M') {a : Int} (hA : mPreA M a) : mPreA M' a := by
  unfold mPreA at hA ⊢
  rw [h.2.1 37 (by decide) (by decide), h.1 79 (by decide) (by decide) (by decide), h.1 80 (by decide) (by decide) (by decide), h.1 81 (by decide) (by decide) (by decide), h.1 91 (by decide) (by decide) (by decide), h.1 93 (by decide) (by decide) (by decide)]
  exact hA
/-- places, by lists -/
theorem c_X12_placesL (l : Launch) (D : va_G) (cy : Nat → ClassId) {N : Nat} {sh : MS} {ad : Nat → Nat} {M L : MI} {R : MR} (hS : Std N sh R) (a : Int) (p : List Fl) (hB : mBnd M) (hT : mTxt M) (hA : mPreA M a) (hp : rpN M p) (ho : okF (M 53 37) p) (hl : p.length < 6) : Ctr l D cy yX12_places wsX12_places ({ frames := 4, cells := 0, slots := 0, locals := 97 } : Room) N sh ad M L R [.ref (ad 53), .int (iz a)] (eB N sh ad L R (fun M' => ∃ f : Fl, mpl M p a = some f ∧ rpN M' (f :: p) ∧ frM M M' ∧ (∀ i : Nat, 106 ≤ i → M' i = M i) ∧ ∀ z : Int, z ≠ 62 → M' 53 z = M 53 z) (fun M' => mpl M p a = none ∧ rpN M' p ∧ frM M M' ∧ (∀ i : Nat, 106 ≤ i → M' i = M i) ∧ ∀ z : Int, z ≠ 62 → M' 53 z = M 53 z)) := by
  have h53 := hB.1
  have hin := rpG_in hp.2 ho
  have h62 := hp.1
  refine (c_X12_places l D cy hS a hB hT ⟨⟨hA.1.1, by have := hA.1.2; omega⟩, ⟨by omega, by omega⟩, fun k q1 q2 => ⟨⟨(hin k q1 (by omega)).1.1, by have := (hin k q1 (by omega)).1.2; omega⟩, (hin k q1 (by omega)).2.2.2.1⟩, hA.2.1, hA.2.2.1, hA.2.2.2⟩).mono ?_
  rintro rv N' sh' ad' M' L' R' ⟨e1, e2, e3, e4, e5, r, e6, e7⟩
  refine ⟨e1, e2, e3, e4, e5, r, e6, ?_⟩
  rcases e7 with ⟨er, hb, h, g, hh, hM⟩ | ⟨er, hb, h, g, hh, hM⟩
  · refine Or.inl ⟨er, (a, mTL M p a (mBL M p a), mBL M p a, pLen M a (mBL M p a), mLL M p a (mBL M p a)), ?_, ?_, ?_, ?_, ?_⟩
    · unfold mpl
      rw [if_neg (by rw [← mB_L hp]; exact hb)]
    · rw [mB_L hp] at hM
      rw [mT_L hp, mL_L hp, h62] at hM
      subst hM
      refine ⟨?_, ⟨?_, ?_, ?_, ?_, ?_⟩, ?_⟩
      · show (p.length : Int) + 1 = _
        simp only [List.length_cons]; omega
      · show (if (p.length : Int) = (p.length : Int) then a else _) = a
        rw [if_pos rfl]
      · show (if (p.length : Int) = (p.length : Int) then mTL M p a (mBL M p a) else _) = _
        rw [if_pos rfl]; rfl
      · show (if (p.length : Int) = (p.length : Int) then mBL M p a else _) = _
        rw [if_pos rfl]; rfl
      · show (if (p.length : Int) = (p.length : Int) then mBL M p a + pLen M a (mBL M p a) else _) = _
        rw [if_pos rfl]; rfl
      · show (if (p.length : Int) = (p.length : Int) then mLL M p a (mBL M p a) else _) = _
        rw [if_pos rfl]; rfl
      · refine rpG_congr hp.2 (fun k q1 q2 => ⟨?_, ?_, ?_, ?_, ?_⟩)
        · show (if k = (p.length : Int) then _ else M 96 k) = M 96 k
          rw [if_neg (by omega)]
        · show (if k = (p.length : Int) then _ else M 97 k) = M 97 k
          rw [if_neg (by omega)]
        · show (if k = (p.length : Int) then _ else M 98 k) = M 98 k
          rw [if_neg (by omega)]
        · show (if k = (p.length : Int) then _ else M 99 k) = M 99 k
          rw [if_neg (by omega)]
        · show (if k = (p.length : Int) then _ else M 100 k) = M 100 k
          rw [if_neg (by omega)]
    · subst hM
      refine ⟨fun i i1 i2 i3 => ?_, fun z z1 z2 => ?_, fun z hz => hh z hz⟩
      · rw [mu_i _ _ _ i1, mu_i _ _ _ (by omega), mu_i _ _ _ (by omega), mu_i _ _ _ (by omega), mu_i _ _ _ (by omega), mu_i _ _ _ (by omega), mrow_i _ _ (by omega), mrow_i _ _ (by omega)]
      · show (if z = 62 then _ else M 53 z) = _
        rw [if_neg z1]
    · intro i hi
      subst hM
      rw [mu_i _ _ _ (by omega), mu_i _ _ _ (by omega), mu_i _ _ _ (by omega), mu_i _ _ _ (by omega), mu_i _ _ _ (by omega), mu_i _ _ _ (by omega), mrow_i _ _ (by omega), mrow_i _ _ (by omega)]
    · intro z hz
      subst hM
      show (if z = 62 then _ else M 53 z) = _
      rw [if_neg hz]
  · subst hM
    refine Or.inr ⟨er, ?_, ⟨hp.1, hp.2⟩, ⟨fun i i1 i2 i3 => ?_, fun z z1 z2 => rfl, fun z hz => hh z hz⟩, fun i hi => ?_, fun z hz => rfl⟩
    · unfold mpl
      rw [if_pos (by rw [← mB_L hp]; exact hb)]
    · rw [mrow_i _ _ (by omega), mrow_i _ _ (by omega)]
    · rw [mrow_i _ _ (by omega), mrow_i _ _ (by omega)]

