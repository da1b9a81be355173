/-! TEXTS ALIKE -/
def TxEq (M : MI) (t : Nat) : Prop := (M 53 18 = 0 ∨ M 53 18 = 1) ∧ (0 ≤ M t 7 ∧ M t 7 ≤ 16) ∧ M 61 (M 53 18) = M t 7 ∧ ∃ mz q : Int, mz ≤ 500 * M 53 18 + 500 ∧ q ≤ 200 ∧ ∀ r : Int, 0 ≤ r → r < M t 7 → RlEq (M (t + 5)) (M (t + 1)) (M (t + 2)) (M (t + 3)) (M (t + 4)) M (M 53 18) 400 mz q r
theorem cStep_v {v v' : Int → Int} (h : ∀ z : Int, 0 ≤ z → z < 9 → v z = v' z) (s : List Int) (c : Int) : cStep v s c = cStep v' s c := by
  unfold cStep
  by_cases c1 : kdI c = 25 ∧ (s.length : Int) < 32
  · rw [if_pos c1, if_pos c1]
  · rw [if_neg c1, if_neg c1]
    by_cases c2 : 6 ≤ kdI c ∧ kdI c < 15 ∧ (s.length : Int) < 32
    · rw [if_pos c2, if_pos c2, h _ (by omega) (by omega)]
    · rw [if_neg c2, if_neg c2]
theorem rn_v {v v' cd : Int → Int} (h : ∀ z : Int, 0 ≤ z → z < 9 → v z = v' z) (s : List Int) (a : Int) : ∀ n : Nat, rn cd v s a n = rn cd v' s a n
  | 0 => rfl
  | n + 1 => by rw [rn_s, rn_s, rn_v h s a n, cStep_v h]
theorem cVal_v {v v' cd : Int → Int} (h : ∀ z : Int, 0 ≤ z → z < 9 → v z = v' z) (a b : Int) : cVal cd v a b = cVal cd v' a b := by
  unfold cVal
  rw [rn_cRun, rn_cRun, rn_v h]
theorem b2i_ne (b : Bool) : (b2i b ≠ 0) ↔ b = true := by
  cases b <;> decide
theorem TxEq_c {M : MI} {t : Nat} (h : TxEq M t) : cTxt M t := by
  obtain ⟨hl, hz, h61, mz, q, hm, hq, hr⟩ := h
  refine ⟨hz, fun r r0 r1 => ?_⟩
  obtain ⟨a1, a2, a3, a4, a5, a6, a7⟩ := hr r r0 r1
  refine ⟨a3, fun v hne => ?_, fun v hk => ?_⟩
  · rcases a7 with b | b
    · exact absurd b.1 hne
    · rw [rn_cRun, b.2.2 v]; simp
  · obtain ⟨k, b1, b2, b3, b4, b5⟩ := a4 hk
    rw [rn_cRun, b1, show (M (t + 2) r + (k : Int) - M (t + 2) r).toNat = k by omega, EOk_run b5 v (s := []) (by simp)]
    simp
theorem TxEq_m {M : MI} {t : Nat} (h : TxEq M t) : mTxt M := by
  obtain ⟨hl, hz, h61, mz, q, hm, hq, hr⟩ := h
  refine ⟨by rw [h61]; exact hz, by omega, fun r r0 r1 => ?_⟩
  rw [h61] at r1
  obtain ⟨a1, a2, a3, a4, a5, a6, a7⟩ := hr r r0 r1
  refine ⟨⟨by omega, fun k k1 k2 => ?_⟩, fun hk => ?_⟩
  · have b := a6 k k1 k2
    exact ⟨b.1, b.2.1⟩
  · rw [a2] at hk
    obtain ⟨k, b1, b2, b3, b4, b5⟩ := a4 hk
    clear a4 a6 a7
    rw [b2]
    exact EOk_wf b5 (by omega) (by omega) (by omega)
theorem firstN_same {p p' : Int → Bool} : ∀ n : Nat, (∀ k : Nat, k < n → p (k : Int) = p' (k : Int)) → firstN p n = firstN p' n
  | 0, _ => rfl
  | n + 1, h => by rw [firstN_s, firstN_s, firstN_same n (fun k hk => h k (by omega)), h n (by omega)]
/-- a rule holds alike -/
theorem rl_hold {M : MI} {t : Nat} {mz q r : Int} (h : RlEq (M (t + 5)) (M (t + 1)) (M (t + 2)) (M (t + 3)) (M (t + 4)) M (M 53 18) 400 mz q r) {v v' : Int → Int} (hv : ∀ z : Int, 0 ≤ z → z < 9 → v z = v' z) (k : Int) : cP M t v k r = mP (mrow M 94 v') k r := by
  obtain ⟨a1, a2, a3, a4, a5, a6, a7⟩ := h
  unfold cP mP mHold
  show (decide (M (t + 1) r = k) && (decide (M (t + 3) r = M (t + 4) r) || decide (cVal (M (t + 5)) v (M (t + 3) r) (M (t + 4) r) ≠ 0))) = (decide (M 62 (16 * M 53 18 + r) = k) && (decide (M 65 (16 * M 53 18 + r) = M 66 (16 * M 53 18 + r)) || hRes (oS M (M 53 18)) (xS M (M 53 18) v') (M 65 (16 * M 53 18 + r)) (M 66 (16 * M 53 18 + r) - M 65 (16 * M 53 18 + r)).toNat))
  rw [a2]
  congr 1
  rcases a7 with b | b
  · rw [decide_eq_true b.1, decide_eq_true b.2.1]
    rfl
  · rw [decide_eq_false (show ¬ (M (t + 3) r = M (t + 4) r) by have := b.1; omega), decide_eq_false (show ¬ (M 65 (16 * M 53 18 + r) = M 66 (16 * M 53 18 + r)) by have := b.2.1; omega), Bool.false_or, Bool.false_or, cVal_v hv]
    unfold cVal
    rw [rn_cRun, b.2.2 v']
    show decide (b2i _ ≠ 0) = _
    rw [Bool.eq_iff_iff, decide_eq_true_eq]
    exact b2i_ne _
theorem tx_fst {M : MI} {t : Nat} (h : TxEq M t) {v v' : Int → Int} (hv : ∀ z : Int, 0 ≤ z → z < 9 → v z = v' z) (k : Int) : cFst M t v k = mRule (mrow M 94 v') k := by
  obtain ⟨hl, hz, h61, mz, q, hm, hq, hr⟩ := h
  unfold cFst mRule
  show _ = firstN (mP (mrow M 94 v') k) (M 61 (M 53 18)).toNat
  rw [h61]
  exact firstN_same _ (fun r hr9 => rl_hold (hr (r : Int) (by omega) (by omega)) hv k)
theorem tx_am {M : MI} {t : Nat} (h : TxEq M t) {v v' : Int → Int} (hv : ∀ z : Int, 0 ≤ z → z < 9 → v z = v' z) {k : Int} (hk : k = 1 ∨ k = 2) : cAm M t v (cFst M t v k) = mHeld (mrow M 94 v') k := by
  have e := tx_fst h hv k
  obtain ⟨hl, hz, h61, mz, q, hm, hq, hr⟩ := h
  unfold mHeld cAm
  rw [← e]
  by_cases c : cFst M t v k = -1
  · rw [if_pos c, if_neg (by omega)]
  · obtain ⟨y1, y2, y3⟩ := firstN_yes (p := cP M t v k) (n := (M t 7).toNat) c
    replace y1 : 0 ≤ cFst M t v k := y1
    replace y2 : cFst M t v k < ((M t 7).toNat : Int) := y2
    replace y3 : cP M t v k (cFst M t v k) = true := y3
    generalize cFst M t v k = r at *
    rw [if_neg c, if_pos (by omega)]
    obtain ⟨a1, a2, a3, a4, a5, a6, a7⟩ := hr r y1 (by omega)
    unfold cP at y3
    rw [Bool.and_eq_true, decide_eq_true_eq] at y3
    obtain ⟨j, b1, b2, b3, b4, b5⟩ := a4 (by omega)
    show max 0 (min 30 (cVal (M (t + 5)) v (M (t + 2) r) (M (t + 3) r))) = max 0 (min 30 (mVal (M 73) (M 74) v' (M 63 (16 * M 53 18 + r)) (M 64 (16 * M 53 18 + r))))
    rw [cVal_v hv, b2]
    unfold cVal
    rw [rn_cRun, b1, show (M (t + 2) r + (j : Int) - M (t + 2) r).toNat = j by omega, EOk_run b5 v' (s := []) (by simp)]
    rfl
/-- where the rows of a text and of the model's rules are the same -/
theorem TxEq_fr {M M' : MI} {t : Nat} (h : TxEq M t) (e : ∀ i : Nat, t < i → i ≤ t + 5 → M' i = M i) (e7 : M' t 7 = M t 7) (e18 : M' 53 18 = M 53 18) (e61 : M' 61 (M 53 18) = M 61 (M 53 18)) (e62 : ∀ i : Nat, 62 ≤ i → i ≤ 66 → ∀ z : Int, 16 * M 53 18 ≤ z → z < 16 * M 53 18 + 16 → M' i z = M i z) (e68 : ∀ i : Nat, 68 ≤ i → i ≤ 72 → ∀ z : Int, 200 * M 53 18 ≤ z → z < 200 * M 53 18 + 200 → M' i z = M i z) (e73 : ∀ z : Int, 500 * M 53 18 ≤ z → z < 500 * M 53 18 + 500 → M' 73 z = M 73 z ∧ M' 74 z = M 74 z) : TxEq M' t := by
  obtain ⟨hl, hz, h61, mz, q, hm, hq, hr⟩ := h
  unfold TxEq
  rw [e18, e7, e61, e (t + 1) (by omega) (by omega), e (t + 2) (by omega) (by omega), e (t + 3) (by omega) (by omega), e (t + 4) (by omega) (by omega), e (t + 5) (by omega) (by omega)]
  refine ⟨hl, hz, h61, mz, q, hm, hq, fun r r0 r1 => ?_⟩
  exact RlEq_congr (hr r r0 r1) (Int.le_refl _) (Int.le_refl _) (Int.le_refl _) rfl rfl rfl rfl (fun _ _ => rfl) (fun i a b => e62 i a b _ (by omega) (by omega)) ⟨fun i a b k k0 k1 => e68 i a b _ (by omega) (by omega), fun z z0 z1 => e73 z z0 (by omega)⟩
