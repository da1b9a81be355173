/-! THE SEARCH: what is left out changes nothing -/
def plOk (A : Nat) (pl : List Fl → Int → Option Fl) : Prop := ∀ (p : List Fl) (a : Int) (f : Fl), okF (A : Int) p → 0 ≤ a → a < (A : Int) → inF p a = false → pl p a = some f → okF (A : Int) (f :: p) ∧ fa f = a
section Srch
variable {pl pl' : List Fl → Int → Option Fl} {w w' g g' : Int → Int} {A : Nat}
theorem nsA_cons {u : Int → Int} {f : Fl} {p : List Fl} (h1 : 0 ≤ fa f) (hn : inF p (fa f) = false) : ∀ n : Nat, nsA u (f :: p) n = nsA u p n - (if fa f < (n : Int) then u (fa f) else 0)
  | 0 => by
    show (0 : Int) = 0 - (if fa f < ((0 : Nat) : Int) then u (fa f) else 0)
    rw [if_neg (by omega)]
    rfl
  | n + 1 => by
    rw [nsA_s, nsA_s, nsA_cons h1 hn n]
    show _ + (if (decide (fa f = (n : Int)) || inF p (n : Int)) = true then 0 else u (n : Int)) = _
    by_cases z : fa f = (n : Int)
    · rw [decide_eq_true z, Bool.true_or, if_pos rfl, ← z, hn, if_neg Bool.false_ne_true, if_neg (show ¬ fa f < fa f by omega), if_pos (show fa f < ((n + 1 : Nat) : Int) by omega)]
      omega
    · rw [decide_eq_false z, Bool.false_or]
      by_cases y : fa f < (n : Int)
      · rw [if_pos y, if_pos (show fa f < ((n + 1 : Nat) : Int) by omega)]; omega
      · rw [if_neg y, if_neg (show ¬ fa f < ((n + 1 : Nat) : Int) by omega)]; omega
theorem nsA_nn {u : Int → Int} {p : List Fl} : ∀ n : Nat, (∀ a : Int, 0 ≤ a → a < (n : Int) → 0 ≤ u a) → 0 ≤ nsA u p n
  | 0, _ => Int.le_refl _
  | n + 1, h => by
    rw [nsA_s]
    have := nsA_nn (p := p) n (fun a a1 a2 => h a a1 (by omega))
    have := h (n : Int) (by omega) (by omega)
    split <;> omega
theorem hop_child {f : Fl} {p q : List Fl} (h : hopL A w g p q = true) (o : okF (A : Int) (f :: p)) : hopL A w g (f :: p) q = true := by
  have e1 := nsA_cons (u := w) o.1.1 o.2.1 A
  have e2 := nsA_cons (u := fun a => if g a ≠ -1 then 1 else 0) o.1.1 o.2.1 A
  rw [if_pos o.1.2] at e1 e2
  have b := o.2.2.2.1.1
  unfold hopL at h ⊢
  rw [decide_eq_true_eq] at h ⊢
  have l : laL p ≤ laL (f :: p) := Int.le_max_left _ _
  have w1 : wL w (f :: p) = wL w p + w (fa f) := rfl
  have k1 : kpL g (f :: p) = kpL g p + (if g (fa f) = fg f then 1 else 0) := rfl
  have k2 : (if g (fa f) = fg f then (1 : Int) else 0) ≤ (if g (fa f) ≠ -1 then 1 else 0) := by
    by_cases c : g (fa f) = fg f
    · rw [if_pos c, if_pos (by omega)]; exact Int.le_refl _
    · rw [if_neg c]; split <;> omega
  rw [e1, e2, w1, k1]
  generalize (if g (fa f) = fg f then (1 : Int) else 0) = x1 at *
  generalize (if g (fa f) ≠ -1 then (1 : Int) else 0) = x2 at *
  omega
theorem hop_bet {p q : List Fl} (h : hopL A w g p q = true) (hw : ∀ a : Int, 0 ≤ a → a < (A : Int) → 0 ≤ w a) : betL w g p q = false := by
  unfold hopL at h
  unfold betL
  rw [decide_eq_true_eq] at h
  rw [decide_eq_false_iff_not]
  have n1 := nsA_nn (u := w) (p := p) A hw
  have n2 := nsA_nn (u := fun a => if g a ≠ -1 then 1 else 0) (p := p) A (fun a _ _ => by split <;> omega)
  omega
theorem kidsF_id {P : Int → Option Fl} {F : List Fl → List Fl → List Fl} {p q : List Fl} : ∀ (k : Nat) (a : Int), 0 ≤ a → a + (k : Int) ≤ (A : Int) → (∀ (a : Int) (f : Fl), 0 ≤ a → a < (A : Int) → inF p a = false → P a = some f → F (f :: p) q = q) → kidsF P F p k a q = q
  | 0, _, _, _, _ => rfl
  | k + 1, a, h0, h1, h => by
    rw [kidsF_s]
    have hk := kidsF_id k (a + 1) (by omega) (by omega) h
    cases hi : inF p a
    · rw [if_neg Bool.false_ne_true]
      cases hp : P a with
      | none => exact hk
      | some f =>
        dsimp only
        rw [h a f h0 (by omega) hi hp]
        exact hk
    · rw [if_pos rfl]
      exact hk
theorem hop_mS (hp : plOk A pl) (hw : ∀ a : Int, 0 ≤ a → a < (A : Int) → 0 ≤ w a) {q : List Fl} : ∀ (n : Nat) (p : List Fl), okF (A : Int) p → hopL A w g p q = true → mS pl w g A n p q = q
  | 0, p, o, h => by
    show lkS w g p q = q
    unfold lkS
    rw [hop_bet h hw]
    rfl
  | n + 1, p, o, h => by
    have e : lkS w g p q = q := by
      unfold lkS
      rw [hop_bet h hw]
      rfl
    show kidsF (pl p) (mS pl w g A n) p A 0 (lkS w g p q) = q
    rw [e]
    refine kidsF_id (A := A) A 0 (Int.le_refl _) (by omega) (fun a f a1 a2 hi hf => ?_)
    have o2 := (hp p a f o a1 a2 hi hf).1
    exact hop_mS hp hw n (f :: p) o2 (hop_child h o2)
theorem kidsF_two {P P' : Int → Option Fl} {F F' : List Fl → List Fl → List Fl} {p : List Fl} {G : List Fl → Prop} : ∀ (k : Nat) (a : Int) (q : List Fl), 0 ≤ a → a + (k : Int) ≤ (A : Int) → G q → (∀ a : Int, 0 ≤ a → a < (A : Int) → inF p a = false → P a = P' a) → (∀ (a : Int) (f : Fl) (q : List Fl), 0 ≤ a → a < (A : Int) → inF p a = false → P a = some f → G q → F (f :: p) q = F' (f :: p) q ∧ G (F (f :: p) q)) → kidsF P F p k a q = kidsF P' F' p k a q ∧ G (kidsF P F p k a q)
  | 0, _, _, _, _, hg, _, _ => ⟨rfl, hg⟩
  | k + 1, a, q, h0, h1, hg, hP, hF => by
    rw [kidsF_s, kidsF_s]
    cases hi : inF p a
    · rw [if_neg Bool.false_ne_true, if_neg Bool.false_ne_true, ← hP a h0 (by omega) hi]
      cases hp : P a with
      | none => exact kidsF_two k (a + 1) q (by omega) (by omega) hg hP hF
      | some f =>
        have z := hF a f q h0 (by omega) hi hp hg
        dsimp only
        rw [← z.1]
        exact kidsF_two k (a + 1) _ (by omega) (by omega) z.2 hP hF
    · rw [if_pos rfl, if_pos rfl]
      exact kidsF_two k (a + 1) q (by omega) (by omega) hg hP hF
theorem cS_mS (hA : A ≤ 6) (hp : plOk A pl) (hw : ∀ a : Int, 0 ≤ a → a < (A : Int) → 0 ≤ w a) : ∀ (n : Nat) (p q : List Fl), okF (A : Int) p → p.length + n = 6 → cS pl w g A n p q = mS pl w g A (n + 1) p q
  | 0, p, q, o, hl => by
    show lkS w g p q = kidsF (pl p) (mS pl w g A 0) p A 0 (lkS w g p q)
    refine (kidsF_id (A := A) A 0 (Int.le_refl _) (by omega) (fun a f a1 a2 hi hf => ?_)).symm
    have hle := okF_le (n := A) (Int.le_refl _) o
    have := okF_all (n := A) (Int.le_refl _) o (by omega) a a1 a2
    rw [this] at hi
    cases hi
  | n + 1, p, q, o, hl => by
    rw [cS_s]
    show _ = kidsF (pl p) (mS pl w g A (n + 1)) p A 0 (lkS w g p q)
    by_cases c : hopL A w g p (lkS w g p q) = true
    · rw [if_pos c]
      refine (kidsF_id (A := A) A 0 (Int.le_refl _) (by omega) (fun a f a1 a2 hi hf => ?_)).symm
      have o2 := (hp p a f o a1 a2 hi hf).1
      exact hop_mS hp hw (n + 1) (f :: p) o2 (hop_child c o2)
    · rw [if_neg c]
      refine (kidsF_two (A := A) (G := fun _ => True) A 0 _ (Int.le_refl _) (by omega) trivial (fun _ _ _ _ => rfl) (fun a f q' a1 a2 hi hf _ => ⟨?_, trivial⟩)).1
      have o2 := (hp p a f o a1 a2 hi hf).1
      exact cS_mS hA hp hw n (f :: p) q' o2 (by simp only [List.length_cons]; omega)
theorem wL_congr (hw : ∀ a : Int, 0 ≤ a → a < (A : Int) → w' a = w a) : ∀ {p : List Fl}, okF (A : Int) p → wL w' p = wL w p
  | [], _ => rfl
  | f :: p, o => by
    show wL w' p + w' (fa f) = wL w p + w (fa f)
    rw [wL_congr hw o.2.2.2.2.2, hw _ o.1.1 o.1.2]
theorem kpL_congr (hg : ∀ a : Int, 0 ≤ a → a < (A : Int) → g' a = g a) : ∀ {p : List Fl}, okF (A : Int) p → kpL g' p = kpL g p
  | [], _ => rfl
  | f :: p, o => by
    show kpL g' p + (if g' (fa f) = fg f then 1 else 0) = kpL g p + (if g (fa f) = fg f then 1 else 0)
    rw [kpL_congr hg o.2.2.2.2.2, hg _ o.1.1 o.1.2]
theorem lkS_congr (hw : ∀ a : Int, 0 ≤ a → a < (A : Int) → w' a = w a) (hg : ∀ a : Int, 0 ≤ a → a < (A : Int) → g' a = g a) {p q : List Fl} (op : okF (A : Int) p) (oq : okF (A : Int) q) : lkS w' g' p q = lkS w g p q := by
  unfold lkS betL
  rw [wL_congr hw op, wL_congr hw oq, kpL_congr hg op, kpL_congr hg oq]
theorem mS_congr (hp : plOk A pl) (hw : ∀ a : Int, 0 ≤ a → a < (A : Int) → w' a = w a) (hg : ∀ a : Int, 0 ≤ a → a < (A : Int) → g' a = g a) (he : ∀ (p : List Fl) (a : Int), okF (A : Int) p → 0 ≤ a → a < (A : Int) → inF p a = false → pl p a = pl' p a) : ∀ (n : Nat) (p q : List Fl), okF (A : Int) p → okF (A : Int) q → mS pl w g A n p q = mS pl' w' g' A n p q ∧ okF (A : Int) (mS pl w g A n p q)
  | 0, p, q, op, oq => ⟨(lkS_congr hw hg op oq).symm, lkS_ok op oq⟩
  | n + 1, p, q, op, oq => by
    show kidsF (pl p) (mS pl w g A n) p A 0 (lkS w g p q) = kidsF (pl' p) (mS pl' w' g' A n) p A 0 (lkS w' g' p q) ∧ _
    rw [lkS_congr hw hg op oq]
    exact kidsF_two (A := A) (G := okF (A : Int)) A 0 _ (Int.le_refl _) (by omega) (lkS_ok op oq) (fun a a1 a2 hi => he p a op a1 a2 hi) (fun a f q' a1 a2 hi hf oq' => mS_congr hp hw hg he n (f :: p) q' (hp p a f op a1 a2 hi hf).1 oq')
theorem FIN_same (hA : A ≤ 6) (hp : plOk A pl) (hw0 : ∀ a : Int, 0 ≤ a → a < (A : Int) → 0 ≤ w a) (hw : ∀ a : Int, 0 ≤ a → a < (A : Int) → w' a = w a) (hg : ∀ a : Int, 0 ≤ a → a < (A : Int) → g' a = g a) (he : ∀ (p : List Fl) (a : Int), okF (A : Int) p → 0 ≤ a → a < (A : Int) → inF p a = false → pl p a = pl' p a) : cS pl w g A 6 [] [] = mS pl' w' g' A 7 [] [] := by
  rw [cS_mS hA hp hw0 6 [] [] trivial rfl]
  exact (mS_congr hp hw hg he 7 [] [] trivial trivial).1
end Srch
