/-! THE READER AS A MACHINE. A state: state, side, depth, what waits (top first), code's size, code, rules' number, their kinds, starts, conditions, ends -/
abbrev CSt : Type := Int × Int × Int × List Int × Int × (Int → Int) × Int × (Int → Int) × (Int → Int) × (Int → Int) × (Int → Int)
def fu (f : Int → Int) (k v : Int) : Int → Int := fun b => if b = k then v else f b
def emC (k v : Int) : Int := orI (shlI v 5) k
def emZ (cz : Int) : Int := if cz < 400 then cz + 1 else cz
def emD (cz : Int) (cd : Int → Int) (k v : Int) : Int → Int := if cz < 400 then fu cd cz (emC k v) else cd
def rkI (k : Int) : Int := if k = 18 then 5 else if k = 16 ∨ k = 17 then 4 else if k = 5 then 2 else if k = 4 then 1 else if 19 ≤ k ∧ k ≤ 22 then 3 else 0
def psh (k : Int) (w : List Int) : List Int := if (w.length : Int) < 24 then k :: w else w
def rlW (r : Int) : List Int → List Int
  | [] => []
  | x :: t => if x ≠ 23 ∧ r ≤ rkI x then rlW r t else x :: t
def rlZ (r : Int) : List Int → Int → Int
  | [], cz => cz
  | x :: t, cz => if x ≠ 23 ∧ r ≤ rkI x then rlZ r t (emZ cz) else cz
def rlD (r : Int) : List Int → Int → (Int → Int) → (Int → Int)
  | [], _, cd => cd
  | x :: t, cz, cd => if x ≠ 23 ∧ r ≤ rkI x then rlD r t (emZ cz) (emD cz cd x 0) else cd
def goU (dp sd k : Int) : Prop := (k = 16 ∨ k = 17 ∨ k = 18) ∨ (0 < dp ∧ k = 24) ∨ (¬ 0 < dp ∧ sd = 0 ∧ (k = 3 ∨ k = 15)) ∨ (¬ 0 < dp ∧ sd = 1 ∧ 19 ≤ k ∧ k ≤ 22) ∨ (¬ 0 < dp ∧ sd ≠ 0 ∧ sd ≠ 1 ∧ (k = 5 ∨ k = 4 ∨ k = 15))
def goW (st sd dp k : Int) : Prop := (st = 0 ∧ (k = 0 ∨ k = 1 ∨ k = 2)) ∨ (st = 1 ∧ k = 3) ∨ (st = 2 ∧ (k = 25 ∨ k = 23 ∨ (6 ≤ k ∧ k ≤ 14))) ∨ (¬ (st = 0 ∨ st = 1 ∨ st = 2) ∧ goU dp sd k)
abbrev laR (st dp rz k : Int) : Prop := (st = 0 ∧ 16 ≤ rz) ∨ (k = 23 ∧ 6 ≤ dp)
theorem goU_op {dp sd k : Int} (h : k = 16 ∨ k = 17 ∨ k = 18) : goU dp sd k = True := eq_true (Or.inl h)
theorem goU_d {dp sd k : Int} (h : ¬ (k = 16 ∨ k = 17 ∨ k = 18)) (h1 : 0 < dp) : goU dp sd k = (k = 24) := propext ⟨fun z => by
  rcases z with z | z | z | z | z
  · exact absurd z h
  · exact z.2
  · exact absurd h1 z.1
  · exact absurd h1 z.1
  · exact absurd h1 z.1, fun z => Or.inr (Or.inl ⟨h1, z⟩)⟩
theorem goU_0 {dp sd k : Int} (h : ¬ (k = 16 ∨ k = 17 ∨ k = 18)) (h1 : ¬ 0 < dp) (h2 : sd = 0) : goU dp sd k = (k = 3 ∨ k = 15) := propext ⟨fun z => by
  rcases z with z | z | z | z | z
  · exact absurd z h
  · exact absurd z.1 h1
  · exact z.2.2
  · omega
  · exact absurd h2 z.2.1, fun z => Or.inr (Or.inr (Or.inl ⟨h1, h2, z⟩))⟩
theorem goU_1 {dp sd k : Int} (h : ¬ (k = 16 ∨ k = 17 ∨ k = 18)) (h1 : ¬ 0 < dp) (h2 : sd = 1) : goU dp sd k = (19 ≤ k ∧ k ≤ 22) := propext ⟨fun z => by
  rcases z with z | z | z | z | z
  · exact absurd z h
  · exact absurd z.1 h1
  · omega
  · exact z.2.2
  · exact absurd h2 z.2.2.1, fun z => Or.inr (Or.inr (Or.inr (Or.inl ⟨h1, h2, z⟩)))⟩
theorem goU_2 {dp sd k : Int} (h : ¬ (k = 16 ∨ k = 17 ∨ k = 18)) (h1 : ¬ 0 < dp) (h2 : sd ≠ 0) (h3 : sd ≠ 1) : goU dp sd k = (k = 5 ∨ k = 4 ∨ k = 15) := propext ⟨fun z => by
  rcases z with z | z | z | z | z
  · exact absurd z h
  · exact absurd z.1 h1
  · exact absurd z.2.1 h2
  · exact absurd z.2.1 h3
  · exact z.2.2.2, fun z => Or.inr (Or.inr (Or.inr (Or.inr ⟨h1, h2, h3, z⟩)))⟩
theorem goW_0 {st sd dp k : Int} (h : st = 0) : goW st sd dp k = (k = 0 ∨ k = 1 ∨ k = 2) := propext ⟨fun z => by
  rcases z with z | z | z | z
  · exact z.2
  · omega
  · omega
  · exact absurd (Or.inl h) z.1, fun z => Or.inl ⟨h, z⟩⟩
theorem goW_1 {st sd dp k : Int} (h : st = 1) : goW st sd dp k = (k = 3) := propext ⟨fun z => by
  rcases z with z | z | z | z
  · omega
  · exact z.2
  · omega
  · exact absurd (Or.inr (Or.inl h)) z.1, fun z => Or.inr (Or.inl ⟨h, z⟩)⟩
theorem goW_2 {st sd dp k : Int} (h : st = 2) : goW st sd dp k = (k = 25 ∨ k = 23 ∨ (6 ≤ k ∧ k ≤ 14)) := propext ⟨fun z => by
  rcases z with z | z | z | z
  · omega
  · omega
  · exact z.2
  · exact absurd (Or.inr (Or.inr h)) z.1, fun z => Or.inr (Or.inr (Or.inl ⟨h, z⟩))⟩
theorem goW_3 {st sd dp k : Int} (h : st ≠ 0) (h1 : st ≠ 1) (h2 : st ≠ 2) : goW st sd dp k = goU dp sd k := propext ⟨fun z => by
  rcases z with z | z | z | z
  · exact absurd z.1 h
  · exact absurd z.1 h1
  · exact absurd z.1 h2
  · exact z.2, fun z => Or.inr (Or.inr (Or.inr ⟨fun y => y.elim h (fun y => y.elim h1 h2), z⟩))⟩
def tkC : CSt → Int → Int → CSt
  | (st, sd, dp, wt, cz, cd, rz, rk, rs, rc, re), k, v =>
    if st = 0 then (if k = 0 then 1 else 2, if k = 0 then 1 else 0, dp, wt, cz, cd, rz, if rz < 16 then fu rk rz k else rk, if rz < 16 then fu rs rz cz else rs, if rz < 16 then fu rc rz (if k = 0 then cz else -1) else rc, re)
    else if st = 1 then (2, sd, dp, wt, cz, cd, rz, rk, rs, rc, re)
    else if st = 2 then (if k = 23 then (2, sd, dp + 1, psh 23 wt, cz, cd, rz, rk, rs, rc, re) else (3, sd, dp, wt, emZ cz, emD cz cd k v, rz, rk, rs, rc, re))
    else if k = 24 then (st, sd, dp - 1, (rlW 0 wt).tail, rlZ 0 wt cz, rlD 0 wt cz cd, rz, rk, rs, rc, re)
    else if k = 15 then (0, sd, dp, rlW 0 wt, rlZ 0 wt cz, rlD 0 wt cz cd, if rz < 16 then rz + 1 else rz, rk, rs, if rz < 16 ∧ rc rz = -1 then fu rc rz (rlZ 0 wt cz) else rc, if rz < 16 then fu re rz (rlZ 0 wt cz) else re)
    else if k = 3 then (2, 1, dp, rlW 0 wt, rlZ 0 wt cz, rlD 0 wt cz cd, rz, rk, rs, if rz < 16 then fu rc rz (rlZ 0 wt cz) else rc, re)
    else (2, if 19 ≤ k ∧ k ≤ 22 then 2 else if k = 5 ∨ k = 4 then 1 else sd, dp, psh k (rlW (rkI k) wt), rlZ (rkI k) wt cz, rlD (rkI k) wt cz cd, rz, rk, rs, rc, re)
/-- the reader's memory, with text t, holds the state -/
def RC (M : MI) (t : Nat) : CSt → Prop
  | (st, sd, dp, wt, cz, cd, rz, rk, rs, rc, re) => (M 3 3 = st ∧ M 3 4 = sd ∧ M 3 5 = dp ∧ M 3 2 = (wt.length : Int) ∧ M t 6 = cz ∧ M t 7 = rz) ∧ rep (M 4) wt ∧ M (t + 5) = cd ∧ M (t + 1) = rk ∧ M (t + 2) = rs ∧ M (t + 3) = rc ∧ M (t + 4) = re
def frT (t : Nat) (M M' : MI) : Prop := ∀ i : Nat, i ≠ 3 → i ≠ 4 → ¬ (t ≤ i ∧ i ≤ t + 5) → M' i = M i
theorem frT_refl (t : Nat) (M : MI) : frT t M M := fun _ _ _ _ => rfl
theorem frT_trans {t : Nat} {M M1 M2 : MI} (h : frT t M M1) (h' : frT t M1 M2) : frT t M M2 := fun i a b c => (h' i a b c).trans (h i a b c)
section RCs
variable {M M' : MI} {t : Nat} {st sd dp cz rz : Int} {wt : List Int} {cd rk rs rc re : Int → Int}
theorem RC_f3 {x : Int} (ht : isT t) (h : RC M t (st, sd, dp, wt, cz, cd, rz, rk, rs, rc, re)) : RC (mu M 3 3 x) t (x, sd, dp, wt, cz, cd, rz, rk, rs, rc, re) ∧ frT t M (mu M 3 3 x) := by
  obtain ⟨⟨h1, h2, h3, h4, h5, h6⟩, h7⟩ := h
  rcases ht with rfl | rfl <;> exact ⟨⟨⟨rfl, h2, h3, h4, h5, h6⟩, h7⟩, fun i a b c => mu_i _ _ _ a⟩
theorem RC_f4 {x : Int} (ht : isT t) (h : RC M t (st, sd, dp, wt, cz, cd, rz, rk, rs, rc, re)) : RC (mu M 3 4 x) t (st, x, dp, wt, cz, cd, rz, rk, rs, rc, re) ∧ frT t M (mu M 3 4 x) := by
  obtain ⟨⟨h1, h2, h3, h4, h5, h6⟩, h7⟩ := h
  rcases ht with rfl | rfl <;> exact ⟨⟨⟨h1, rfl, h3, h4, h5, h6⟩, h7⟩, fun i a b c => mu_i _ _ _ a⟩
theorem RC_f5 {x : Int} (ht : isT t) (h : RC M t (st, sd, dp, wt, cz, cd, rz, rk, rs, rc, re)) : RC (mu M 3 5 x) t (st, sd, x, wt, cz, cd, rz, rk, rs, rc, re) ∧ frT t M (mu M 3 5 x) := by
  obtain ⟨⟨h1, h2, h3, h4, h5, h6⟩, h7⟩ := h
  rcases ht with rfl | rfl <;> exact ⟨⟨⟨h1, h2, rfl, h4, h5, h6⟩, h7⟩, fun i a b c => mu_i _ _ _ a⟩
theorem RC_tail {x : Int} (ht : isT t) (h : RC M t (st, sd, dp, wt, cz, cd, rz, rk, rs, rc, re)) (hx : x = max 0 (M 3 2 - 1)) : RC (mu M 3 2 x) t (st, sd, dp, wt.tail, cz, cd, rz, rk, rs, rc, re) ∧ frT t M (mu M 3 2 x) := by
  obtain ⟨⟨h1, h2, h3, h4, h5, h6⟩, h7, h8⟩ := h
  have e : x = (wt.tail.length : Int) := by
    rw [hx, h4]
    cases wt with
    | nil => rfl
    | cons y w => simp only [List.length_cons, List.tail_cons]; omega
  have r : rep (M 4) wt.tail := by
    cases wt with
    | nil => exact h7
    | cons y w => exact h7.2
  rcases ht with rfl | rfl <;> exact ⟨⟨⟨h1, h2, h3, e, h5, h6⟩, r, h8⟩, fun i a b c => mu_i _ _ _ a⟩
theorem RC_hold {k : Int} (ht : isT t) (h : RC M t (st, sd, dp, wt, cz, cd, rz, rk, rs, rc, re)) (e : M' = if M 3 2 < 24 then mu (mu M 4 (M 3 2) k) 3 2 (M 3 2 + 1) else M) : RC M' t (st, sd, dp, psh k wt, cz, cd, rz, rk, rs, rc, re) ∧ frT t M M' := by
  obtain ⟨⟨h1, h2, h3, h4, h5, h6⟩, h7, h8⟩ := h
  unfold psh
  rw [h4] at e
  by_cases c : (wt.length : Int) < 24
  · rw [if_pos c] at e ⊢
    subst e
    have r := rep_push (x := k) h7 (k := (wt.length : Int)) rfl
    have l : (wt.length : Int) + 1 = ((k :: wt).length : Int) := by simp
    rcases ht with rfl | rfl <;> exact ⟨⟨⟨h1, h2, h3, l, h5, h6⟩, r, h8⟩, fun i a b c => by rw [mu_i _ _ _ a, mu_i _ _ _ b]⟩
  · rw [if_neg c] at e ⊢
    subst e
    exact ⟨⟨⟨h1, h2, h3, h4, h5, h6⟩, h7, h8⟩, frT_refl _ _⟩
theorem RC_emit {k v : Int} (ht : isT t) (h : RC M t (st, sd, dp, wt, cz, cd, rz, rk, rs, rc, re)) (e : M' = if M t 6 < 400 then mu (mu M (t + 5) (M t 6) (emC k v)) t 6 (M t 6 + 1) else M) : RC M' t (st, sd, dp, wt, emZ cz, emD cz cd k v, rz, rk, rs, rc, re) ∧ frT t M M' := by
  obtain ⟨⟨h1, h2, h3, h4, h5, h6⟩, h7, h8, h9⟩ := h
  unfold emZ emD
  rw [h5] at e
  by_cases c : cz < 400
  · rw [if_pos c] at e ⊢
    rw [if_pos c]
    subst e
    subst h8
    rcases ht with rfl | rfl <;> exact ⟨⟨⟨h1, h2, h3, h4, rfl, h6⟩, h7, rfl, h9⟩, fun i a b c => by rw [mu_i _ _ _ (by omega), mu_i _ _ _ (by omega)]⟩
  · rw [if_neg c] at e ⊢
    rw [if_neg c]
    subst e
    exact ⟨⟨⟨h1, h2, h3, h4, h5, h6⟩, h7, h8, h9⟩, frT_refl _ _⟩
theorem RC_open {k : Int} (ht : isT t) (h : RC M t (st, sd, dp, wt, cz, cd, rz, rk, rs, rc, re)) (e : M' = if M t 7 < 16 then mu (mu (mu M (t + 1) (M t 7) k) (t + 2) (M t 7) (M t 6)) (t + 3) (M t 7) (if k = 0 then M t 6 else -1) else M) : RC M' t (st, sd, dp, wt, cz, cd, rz, if rz < 16 then fu rk rz k else rk, if rz < 16 then fu rs rz cz else rs, if rz < 16 then fu rc rz (if k = 0 then cz else -1) else rc, re) ∧ frT t M M' := by
  obtain ⟨⟨h1, h2, h3, h4, h5, h6⟩, h7, h8, h9, h10, h11, h12⟩ := h
  rw [h6, h5] at e
  by_cases c : rz < 16
  · rw [if_pos c] at e
    rw [if_pos c, if_pos c, if_pos c]
    subst e h9 h10 h11
    rcases ht with rfl | rfl <;> exact ⟨⟨⟨h1, h2, h3, h4, h5, h6⟩, h7, h8, rfl, rfl, rfl, h12⟩, fun i a b c => by rw [mu_i _ _ _ (by omega), mu_i _ _ _ (by omega), mu_i _ _ _ (by omega)]⟩
  · rw [if_neg c] at e
    rw [if_neg c, if_neg c, if_neg c]
    subst e
    exact ⟨⟨⟨h1, h2, h3, h4, h5, h6⟩, h7, h8, h9, h10, h11, h12⟩, frT_refl _ _⟩
theorem RC_cond (ht : isT t) (h : RC M t (st, sd, dp, wt, cz, cd, rz, rk, rs, rc, re)) (e : M' = if M t 7 < 16 then mu M (t + 3) (M t 7) (M t 6) else M) : RC M' t (st, sd, dp, wt, cz, cd, rz, rk, rs, if rz < 16 then fu rc rz cz else rc, re) ∧ frT t M M' := by
  obtain ⟨⟨h1, h2, h3, h4, h5, h6⟩, h7, h8, h9, h10, h11, h12⟩ := h
  rw [h6, h5] at e
  by_cases c : rz < 16
  · rw [if_pos c] at e
    rw [if_pos c]
    subst e h11
    rcases ht with rfl | rfl <;> exact ⟨⟨⟨h1, h2, h3, h4, h5, h6⟩, h7, h8, h9, h10, rfl, h12⟩, fun i a b c => by rw [mu_i _ _ _ (by omega)]⟩
  · rw [if_neg c] at e
    rw [if_neg c]
    subst e
    exact ⟨⟨⟨h1, h2, h3, h4, h5, h6⟩, h7, h8, h9, h10, h11, h12⟩, frT_refl _ _⟩
theorem RC_close (ht : isT t) (h : RC M t (st, sd, dp, wt, cz, cd, rz, rk, rs, rc, re)) (e : M' = if M t 7 < 16 then (if M (t + 3) (M t 7) = -1 then mu (mu (mu M (t + 4) (M t 7) (M t 6)) (t + 3) (M t 7) (M t 6)) t 7 (M t 7 + 1) else mu (mu M (t + 4) (M t 7) (M t 6)) t 7 (M t 7 + 1)) else M) : RC M' t (st, sd, dp, wt, cz, cd, if rz < 16 then rz + 1 else rz, rk, rs, if rz < 16 ∧ rc rz = -1 then fu rc rz cz else rc, if rz < 16 then fu re rz cz else re) ∧ frT t M M' := by
  obtain ⟨⟨h1, h2, h3, h4, h5, h6⟩, h7, h8, h9, h10, h11, h12⟩ := h
  rw [h6, h5] at e
  by_cases c : rz < 16
  · rw [if_pos c] at e
    rw [if_pos c, if_pos c]
    subst h11 h12
    by_cases d : M (t + 3) rz = -1
    · rw [if_pos d] at e
      rw [if_pos ⟨c, d⟩]
      subst e
      rcases ht with rfl | rfl <;> exact ⟨⟨⟨h1, h2, h3, h4, h5, rfl⟩, h7, h8, h9, h10, rfl, rfl⟩, fun i a b c => by rw [mu_i _ _ _ (by omega), mu_i _ _ _ (by omega), mu_i _ _ _ (by omega)]⟩
    · rw [if_neg d] at e
      rw [if_neg (fun z => d z.2)]
      subst e
      rcases ht with rfl | rfl <;> exact ⟨⟨⟨h1, h2, h3, h4, h5, rfl⟩, h7, h8, h9, h10, rfl, rfl⟩, fun i a b c => by rw [mu_i _ _ _ (by omega), mu_i _ _ _ (by omega)]⟩
  · rw [if_neg c] at e
    rw [if_neg c, if_neg c, if_neg (fun z => c z.1)]
    subst e
    exact ⟨⟨⟨h1, h2, h3, h4, h5, h6⟩, h7, h8, h9, h10, h11, h12⟩, frT_refl _ _⟩
end RCs
theorem emZ_in {cz : Int} (h : 0 ≤ cz ∧ cz ≤ 400) : 0 ≤ emZ cz ∧ emZ cz ≤ 400 := by
  unfold emZ
  split <;> omega
theorem rlZ_in {r : Int} : ∀ {w : List Int} {cz : Int}, 0 ≤ cz ∧ cz ≤ 400 → 0 ≤ rlZ r w cz ∧ rlZ r w cz ≤ 400
  | [], _, h => h
  | x :: t, cz, h => by
    unfold rlZ
    split
    · exact rlZ_in (emZ_in h)
    · exact h
theorem rlW_len {r : Int} : ∀ {w : List Int}, (rlW r w).length ≤ w.length
  | [] => Nat.le_refl _
  | x :: t => by
    unfold rlW
    split
    · exact Nat.le_trans rlW_len (by simp)
    · exact Nat.le_refl _
theorem psh_len {k : Int} {w : List Int} (h : w.length ≤ 24) : (psh k w).length ≤ 24 := by
  unfold psh
  split
  · simp only [List.length_cons]; omega
  · exact h
theorem rkI_in (k : Int) : 0 ≤ rkI k ∧ rkI k ≤ 5 := by
  unfold rkI
  repeat' split
  all_goals omega

-- isRelation
set_option maxHeartbeats 4000000 in
set_option maxRecDepth 100000 in
theorem c_X5_isRelation (l : Launch) (D : va_G) (cy : Nat → ClassId) {N : Nat} {sh : MS} {ad : Nat → Nat} {M L : MI} {R : MR} (a : Int) (ha : inR a) : Ctr l D cy yX5_isRelation wsX5_isRelation ({ frames := 0, cells := 0, slots := 0, locals := 0 } : Room) N sh ad M L R [.int (iz a)] (pB N sh ad M L R (19 ≤ a ∧ a ≤ 22)) := by
  refine Ctr.ofZ (by decide) rfl (Nat.le_of_ble_eq_true rfl) ?_
  intro K hKl hKd hRm hnm X hret
  have X : VX K cX5_isRelation 1 wsX5_isRelation RX5 := X
  show V K 1 0 0 N sh ad M L R [(0, .int (iz a))] [] 0
  refine v_iload_n X 0 dX5_isRelation_0 rfl rfl ?_
  refine v_bipush X dX5_isRelation_1 (by decide) ?_
  refine v_icmp_lt X 16 dX5_isRelation_3 (by decide) ⟨by omega, by omega⟩ ⟨by decide, by decide⟩ (fun u1 => ?_) (fun u1 => ?_)
  · skip
    refine v_iconst X dX5_isRelation_16 ?_
    refine hret _ _ _ _ _ _ _ _ _ _ _ (some (.int (iz 0))) dX5_isRelation_17 ⟨rfl, 0, ⟨by omega, by omega⟩, rfl⟩ (by decide) (by decide) (fun hmok => ?_)
    refine ⟨rfl, rfl, rfl, rfl, rfl, rfl, 0, rfl, Or.inr ⟨rfl, ?_⟩⟩
    omega
  · skip
    refine v_iload_n X 0 dX5_isRelation_6 rfl rfl ?_
    refine v_bipush X dX5_isRelation_7 (by decide) ?_
    refine v_icmp_gt X 16 dX5_isRelation_9 (by decide) ⟨by omega, by omega⟩ ⟨by decide, by decide⟩ (fun u2 => ?_) (fun u2 => ?_)
    · skip
      refine v_iconst X dX5_isRelation_16 ?_
      refine hret _ _ _ _ _ _ _ _ _ _ _ (some (.int (iz 0))) dX5_isRelation_17 ⟨rfl, 0, ⟨by omega, by omega⟩, rfl⟩ (by decide) (by decide) (fun hmok => ?_)
      refine ⟨rfl, rfl, rfl, rfl, rfl, rfl, 0, rfl, Or.inr ⟨rfl, ?_⟩⟩
      omega
    · skip
      refine v_iconst X dX5_isRelation_12 ?_
      refine v_goto X 17 dX5_isRelation_13 (by decide) ?_
      refine hret _ _ _ _ _ _ _ _ _ _ _ (some (.int (iz 1))) dX5_isRelation_17 ⟨rfl, 1, ⟨by omega, by omega⟩, rfl⟩ (by decide) (by decide) (fun hmok => ?_)
      refine ⟨rfl, rfl, rfl, rfl, rfl, rfl, 1, rfl, Or.inl ⟨rfl, ?_⟩⟩
      omega

-- isVar
set_option maxHeartbeats 4000000 in
set_option maxRecDepth 100000 in
theorem c_X5_isVar (l : Launch) (D : va_G) (cy : Nat → ClassId) {N : Nat} {sh : MS} {ad : Nat → Nat} {M L : MI} {R : MR} (a : Int) (ha : inR a) : Ctr l D cy yX5_isVar wsX5_isVar ({ frames := 0, cells := 0, slots := 0, locals := 0 } : Room) N sh ad M L R [.int (iz a)] (pB N sh ad M L R (6 ≤ a ∧ a ≤ 14)) := by
  refine Ctr.ofZ (by decide) rfl (Nat.le_of_ble_eq_true rfl) ?_
  intro K hKl hKd hRm hnm X hret
  have X : VX K cX5_isVar 1 wsX5_isVar RX5 := X
  show V K 1 0 0 N sh ad M L R [(0, .int (iz a))] [] 0
  refine v_iload_n X 0 dX5_isVar_0 rfl rfl ?_
  refine v_bipush X dX5_isVar_1 (by decide) ?_
  refine v_icmp_lt X 16 dX5_isVar_3 (by decide) ⟨by omega, by omega⟩ ⟨by decide, by decide⟩ (fun u1 => ?_) (fun u1 => ?_)
  · skip
    refine v_iconst X dX5_isVar_16 ?_
    refine hret _ _ _ _ _ _ _ _ _ _ _ (some (.int (iz 0))) dX5_isVar_17 ⟨rfl, 0, ⟨by omega, by omega⟩, rfl⟩ (by decide) (by decide) (fun hmok => ?_)
    refine ⟨rfl, rfl, rfl, rfl, rfl, rfl, 0, rfl, Or.inr ⟨rfl, ?_⟩⟩
    omega
  · skip
    refine v_iload_n X 0 dX5_isVar_6 rfl rfl ?_
    refine v_bipush X dX5_isVar_7 (by decide) ?_
    refine v_icmp_gt X 16 dX5_isVar_9 (by decide) ⟨by omega, by omega⟩ ⟨by decide, by decide⟩ (fun u2 => ?_) (fun u2 => ?_)
    · skip
      refine v_iconst X dX5_isVar_16 ?_
      refine hret _ _ _ _ _ _ _ _ _ _ _ (some (.int (iz 0))) dX5_isVar_17 ⟨rfl, 0, ⟨by omega, by omega⟩, rfl⟩ (by decide) (by decide) (fun hmok => ?_)
      refine ⟨rfl, rfl, rfl, rfl, rfl, rfl, 0, rfl, Or.inr ⟨rfl, ?_⟩⟩
      omega
    · skip
      refine v_iconst X dX5_isVar_12 ?_
      refine v_goto X 17 dX5_isVar_13 (by decide) ?_
      refine hret _ _ _ _ _ _ _ _ _ _ _ (some (.int (iz 1))) dX5_isVar_17 ⟨rfl, 1, ⟨by omega, by omega⟩, rfl⟩ (by decide) (by decide) (fun hmok => ?_)
      refine ⟨rfl, rfl, rfl, rfl, rfl, rfl, 1, rfl, Or.inl ⟨rfl, ?_⟩⟩
      omega

-- rankOf
set_option maxHeartbeats 4000000 in
set_option maxRecDepth 100000 in
theorem c_X5_rankOf (l : Launch) (D : va_G) (cy : Nat → ClassId) {N : Nat} {sh : MS} {ad : Nat → Nat} {M L : MI} {R : MR} (a : Int) (ha : inR a) : Ctr l D cy yX5_rankOf wsX5_rankOf ({ frames := 1, cells := 0, slots := 0, locals := 20 } : Room) N sh ad M L R [.int (iz a)] (pI N sh ad M L R (fun r => r = rkI a)) := by
  refine Ctr.ofI (by decide) rfl (Nat.le_of_ble_eq_true rfl) ?_
  intro K hKl hKd hRm hnm X hret
  have X : VX K cX5_rankOf 1 wsX5_rankOf RX5 := X
  show V K 1 0 0 N sh ad M L R [(0, .int (iz a))] [] 0
  refine v_iload_n X 0 dX5_rankOf_0 rfl rfl ?_
  by_cases u1 : a = 4
  · skip
    refine v_tabIn X 82 dX5_rankOf_1 ⟨by omega, by omega⟩ (by omega) (by omega) (by rw [u1]; rfl) (by decide) ?_
    refine v_iconst X dX5_rankOf_82 ?_
    refine hret _ _ _ _ _ _ _ _ _ _ _ (some (.int (iz 1))) dX5_rankOf_83 ⟨rfl, _, rfl⟩ (by decide) (by decide) (fun hmok => ?_)
    refine ⟨rfl, rfl, rfl, rfl, rfl, rfl, 1, rfl, ⟨by decide, by decide⟩, ?_⟩
    try dsimp only
    (first | (exfalso; omega; done) | skip)
    all_goals unfold rkI
    repeat (first | rw [if_pos (by omega)] | rw [if_neg (by omega)])
  by_cases u2 : a = 5
  · skip
    refine v_tabIn X 80 dX5_rankOf_1 ⟨by omega, by omega⟩ (by omega) (by omega) (by rw [u2]; rfl) (by decide) ?_
    refine v_iconst X dX5_rankOf_80 ?_
    refine hret _ _ _ _ _ _ _ _ _ _ _ (some (.int (iz 2))) dX5_rankOf_81 ⟨rfl, _, rfl⟩ (by decide) (by decide) (fun hmok => ?_)
    refine ⟨rfl, rfl, rfl, rfl, rfl, rfl, 2, rfl, ⟨by decide, by decide⟩, ?_⟩
    try dsimp only
    (first | (exfalso; omega; done) | skip)
    all_goals unfold rkI
    repeat (first | rw [if_pos (by omega)] | rw [if_neg (by omega)])
  by_cases u3 : a = 6
  · skip
    refine v_tabIn X 84 dX5_rankOf_1 ⟨by omega, by omega⟩ (by omega) (by omega) (by rw [u3]; rfl) (by decide) ?_
    refine v_iload_n X 0 dX5_rankOf_84 rfl rfl ?_
    refine v_callS X [.int (iz a)] hRm (c_X5_isRelation _ _ _ a ⟨by omega, by omega⟩) (gS bw_16_18 bw_16_19 bw_1_18 bw_16_20) rfl ddX5_isRelation (by decide) (Nat.le_of_ble_eq_true rfl) dX5_rankOf_85 (k_pB (fun b4 => ?_) (fun b4 => ?_))
    · skip
      refine v_if_eq X 95 dX5_rankOf_88 (by decide) ⟨by decide, by decide⟩ (fun q => absurd q (by decide)) (fun _ => ?_)
      refine v_iconst X dX5_rankOf_91 ?_
      refine v_goto X 96 dX5_rankOf_92 (by decide) ?_
      refine hret _ _ _ _ _ _ _ _ _ _ _ (some (.int (iz 3))) dX5_rankOf_96 ⟨rfl, _, rfl⟩ (by decide) (by decide) (fun hmok => ?_)
      refine ⟨rfl, rfl, rfl, rfl, rfl, rfl, 3, rfl, ⟨by decide, by decide⟩, ?_⟩
      try dsimp only
      (first | (exfalso; omega; done) | skip)
      all_goals unfold rkI
      repeat (first | rw [if_pos (by omega)] | rw [if_neg (by omega)])
    · skip
      refine v_if_eq X 95 dX5_rankOf_88 (by decide) ⟨by decide, by decide⟩ (fun _ => ?_) (fun q => absurd (by decide) q)
      refine v_iconst X dX5_rankOf_95 ?_
      refine hret _ _ _ _ _ _ _ _ _ _ _ (some (.int (iz 0))) dX5_rankOf_96 ⟨rfl, _, rfl⟩ (by decide) (by decide) (fun hmok => ?_)
      refine ⟨rfl, rfl, rfl, rfl, rfl, rfl, 0, rfl, ⟨by decide, by decide⟩, ?_⟩
      try dsimp only
      (first | (exfalso; omega; done) | skip)
      all_goals unfold rkI
      repeat (first | rw [if_pos (by omega)] | rw [if_neg (by omega)])
  by_cases u5 : a = 7
  · skip
    refine v_tabIn X 84 dX5_rankOf_1 ⟨by omega, by omega⟩ (by omega) (by omega) (by rw [u5]; rfl) (by decide) ?_
    refine v_iload_n X 0 dX5_rankOf_84 rfl rfl ?_
    refine v_callS X [.int (iz a)] hRm (c_X5_isRelation _ _ _ a ⟨by omega, by omega⟩) (gS bw_16_18 bw_16_19 bw_1_18 bw_16_20) rfl ddX5_isRelation (by decide) (Nat.le_of_ble_eq_true rfl) dX5_rankOf_85 (k_pB (fun b6 => ?_) (fun b6 => ?_))
    · skip
      refine v_if_eq X 95 dX5_rankOf_88 (by decide) ⟨by decide, by decide⟩ (fun q => absurd q (by decide)) (fun _ => ?_)
      refine v_iconst X dX5_rankOf_91 ?_
      refine v_goto X 96 dX5_rankOf_92 (by decide) ?_
      refine hret _ _ _ _ _ _ _ _ _ _ _ (some (.int (iz 3))) dX5_rankOf_96 ⟨rfl, _, rfl⟩ (by decide) (by decide) (fun hmok => ?_)
      refine ⟨rfl, rfl, rfl, rfl, rfl, rfl, 3, rfl, ⟨by decide, by decide⟩, ?_⟩
      try dsimp only
      (first | (exfalso; omega; done) | skip)
      all_goals unfold rkI
      repeat (first | rw [if_pos (by omega)] | rw [if_neg (by omega)])
    · skip
      refine v_if_eq X 95 dX5_rankOf_88 (by decide) ⟨by decide, by decide⟩ (fun _ => ?_) (fun q => absurd (by decide) q)
      refine v_iconst X dX5_rankOf_95 ?_
      refine hret _ _ _ _ _ _ _ _ _ _ _ (some (.int (iz 0))) dX5_rankOf_96 ⟨rfl, _, rfl⟩ (by decide) (by decide) (fun hmok => ?_)
      refine ⟨rfl, rfl, rfl, rfl, rfl, rfl, 0, rfl, ⟨by decide, by decide⟩, ?_⟩
      try dsimp only
      (first | (exfalso; omega; done) | skip)
      all_goals unfold rkI
      repeat (first | rw [if_pos (by omega)] | rw [if_neg (by omega)])
  by_cases u7 : a = 8
  · skip
    refine v_tabIn X 84 dX5_rankOf_1 ⟨by omega, by omega⟩ (by omega) (by omega) (by rw [u7]; rfl) (by decide) ?_
    refine v_iload_n X 0 dX5_rankOf_84 rfl rfl ?_
    refine v_callS X [.int (iz a)] hRm (c_X5_isRelation _ _ _ a ⟨by omega, by omega⟩) (gS bw_16_18 bw_16_19 bw_1_18 bw_16_20) rfl ddX5_isRelation (by decide) (Nat.le_of_ble_eq_true rfl) dX5_rankOf_85 (k_pB (fun b8 => ?_) (fun b8 => ?_))
    · skip
      refine v_if_eq X 95 dX5_rankOf_88 (by decide) ⟨by decide, by decide⟩ (fun q => absurd q (by decide)) (fun _ => ?_)
      refine v_iconst X dX5_rankOf_91 ?_
      refine v_goto X 96 dX5_rankOf_92 (by decide) ?_
      refine hret _ _ _ _ _ _ _ _ _ _ _ (some (.int (iz 3))) dX5_rankOf_96 ⟨rfl, _, rfl⟩ (by decide) (by decide) (fun hmok => ?_)
      refine ⟨rfl, rfl, rfl, rfl, rfl, rfl, 3, rfl, ⟨by decide, by decide⟩, ?_⟩
      try dsimp only
      (first | (exfalso; omega; done) | skip)
      all_goals unfold rkI
      repeat (first | rw [if_pos (by omega)] | rw [if_neg (by omega)])
    · skip
      refine v_if_eq X 95 dX5_rankOf_88 (by decide) ⟨by decide, by decide⟩ (fun _ => ?_) (fun q => absurd (by decide) q)
      refine v_iconst X dX5_rankOf_95 ?_
      refine hret _ _ _ _ _ _ _ _ _ _ _ (some (.int (iz 0))) dX5_rankOf_96 ⟨rfl, _, rfl⟩ (by decide) (by decide) (fun hmok => ?_)
      refine ⟨rfl, rfl, rfl, rfl, rfl, rfl, 0, rfl, ⟨by decide, by decide⟩, ?_⟩
      try dsimp only
      (first | (exfalso; omega; done) | skip)
      all_goals unfold rkI
      repeat (first | rw [if_pos (by omega)] | rw [if_neg (by omega)])
  by_cases u9 : a = 9
  · skip
    refine v_tabIn X 84 dX5_rankOf_1 ⟨by omega, by omega⟩ (by omega) (by omega) (by rw [u9]; rfl) (by decide) ?_
    refine v_iload_n X 0 dX5_rankOf_84 rfl rfl ?_
    refine v_callS X [.int (iz a)] hRm (c_X5_isRelation _ _ _ a ⟨by omega, by omega⟩) (gS bw_16_18 bw_16_19 bw_1_18 bw_16_20) rfl ddX5_isRelation (by decide) (Nat.le_of_ble_eq_true rfl) dX5_rankOf_85 (k_pB (fun b10 => ?_) (fun b10 => ?_))
    · skip
      refine v_if_eq X 95 dX5_rankOf_88 (by decide) ⟨by decide, by decide⟩ (fun q => absurd q (by decide)) (fun _ => ?_)
      refine v_iconst X dX5_rankOf_91 ?_
      refine v_goto X 96 dX5_rankOf_92 (by decide) ?_
      refine hret _ _ _ _ _ _ _ _ _ _ _ (some (.int (iz 3))) dX5_rankOf_96 ⟨rfl, _, rfl⟩ (by decide) (by decide) (fun hmok => ?_)
      refine ⟨rfl, rfl, rfl, rfl, rfl, rfl, 3, rfl, ⟨by decide, by decide⟩, ?_⟩
      try dsimp only
      (first | (exfalso; omega; done) | skip)
      all_goals unfold rkI
      repeat (first | rw [if_pos (by omega)] | rw [if_neg (by omega)])
    · skip
      refine v_if_eq X 95 dX5_rankOf_88 (by decide) ⟨by decide, by decide⟩ (fun _ => ?_) (fun q => absurd (by decide) q)
      refine v_iconst X dX5_rankOf_95 ?_
      refine hret _ _ _ _ _ _ _ _ _ _ _ (some (.int (iz 0))) dX5_rankOf_96 ⟨rfl, _, rfl⟩ (by decide) (by decide) (fun hmok => ?_)
      refine ⟨rfl, rfl, rfl, rfl, rfl, rfl, 0, rfl, ⟨by decide, by decide⟩, ?_⟩
      try dsimp only
      (first | (exfalso; omega; done) | skip)
      all_goals unfold rkI
      repeat (first | rw [if_pos (by omega)] | rw [if_neg (by omega)])
  by_cases u11 : a = 10
  · skip
    refine v_tabIn X 84 dX5_rankOf_1 ⟨by omega, by omega⟩ (by omega) (by omega) (by rw [u11]; rfl) (by decide) ?_
    refine v_iload_n X 0 dX5_rankOf_84 rfl rfl ?_
    refine v_callS X [.int (iz a)] hRm (c_X5_isRelation _ _ _ a ⟨by omega, by omega⟩) (gS bw_16_18 bw_16_19 bw_1_18 bw_16_20) rfl ddX5_isRelation (by decide) (Nat.le_of_ble_eq_true rfl) dX5_rankOf_85 (k_pB (fun b12 => ?_) (fun b12 => ?_))
    · skip
      refine v_if_eq X 95 dX5_rankOf_88 (by decide) ⟨by decide, by decide⟩ (fun q => absurd q (by decide)) (fun _ => ?_)
      refine v_iconst X dX5_rankOf_91 ?_
      refine v_goto X 96 dX5_rankOf_92 (by decide) ?_
      refine hret _ _ _ _ _ _ _ _ _ _ _ (some (.int (iz 3))) dX5_rankOf_96 ⟨rfl, _, rfl⟩ (by decide) (by decide) (fun hmok => ?_)
      refine ⟨rfl, rfl, rfl, rfl, rfl, rfl, 3, rfl, ⟨by decide, by decide⟩, ?_⟩
      try dsimp only
      (first | (exfalso; omega; done) | skip)
      all_goals unfold rkI
      repeat (first | rw [if_pos (by omega)] | rw [if_neg (by omega)])
    · skip
      refine v_if_eq X 95 dX5_rankOf_88 (by decide) ⟨by decide, by decide⟩ (fun _ => ?_) (fun q => absurd (by decide) q)
      refine v_iconst X dX5_rankOf_95 ?_
      refine hret _ _ _ _ _ _ _ _ _ _ _ (some (.int (iz 0))) dX5_rankOf_96 ⟨rfl, _, rfl⟩ (by decide) (by decide) (fun hmok => ?_)
      refine ⟨rfl, rfl, rfl, rfl, rfl, rfl, 0, rfl, ⟨by decide, by decide⟩, ?_⟩
      try dsimp only
      (first | (exfalso; omega; done) | skip)
      all_goals unfold rkI
      repeat (first | rw [if_pos (by omega)] | rw [if_neg (by omega)])
  by_cases u13 : a = 11
  · skip
    refine v_tabIn X 84 dX5_rankOf_1 ⟨by omega, by omega⟩ (by omega) (by omega) (by rw [u13]; rfl) (by decide) ?_
    refine v_iload_n X 0 dX5_rankOf_84 rfl rfl ?_
    refine v_callS X [.int (iz a)] hRm (c_X5_isRelation _ _ _ a ⟨by omega, by omega⟩) (gS bw_16_18 bw_16_19 bw_1_18 bw_16_20) rfl ddX5_isRelation (by decide) (Nat.le_of_ble_eq_true rfl) dX5_rankOf_85 (k_pB (fun b14 => ?_) (fun b14 => ?_))
    · skip
      refine v_if_eq X 95 dX5_rankOf_88 (by decide) ⟨by decide, by decide⟩ (fun q => absurd q (by decide)) (fun _ => ?_)
      refine v_iconst X dX5_rankOf_91 ?_
      refine v_goto X 96 dX5_rankOf_92 (by decide) ?_
      refine hret _ _ _ _ _ _ _ _ _ _ _ (some (.int (iz 3))) dX5_rankOf_96 ⟨rfl, _, rfl⟩ (by decide) (by decide) (fun hmok => ?_)
      refine ⟨rfl, rfl, rfl, rfl, rfl, rfl, 3, rfl, ⟨by decide, by decide⟩, ?_⟩
      try dsimp only
      (first | (exfalso; omega; done) | skip)
      all_goals unfold rkI
      repeat (first | rw [if_pos (by omega)] | rw [if_neg (by omega)])
    · skip
      refine v_if_eq X 95 dX5_rankOf_88 (by decide) ⟨by decide, by decide⟩ (fun _ => ?_) (fun q => absurd (by decide) q)
      refine v_iconst X dX5_rankOf_95 ?_
      refine hret _ _ _ _ _ _ _ _ _ _ _ (some (.int (iz 0))) dX5_rankOf_96 ⟨rfl, _, rfl⟩ (by decide) (by decide) (fun hmok => ?_)
      refine ⟨rfl, rfl, rfl, rfl, rfl, rfl, 0, rfl, ⟨by decide, by decide⟩, ?_⟩
      try dsimp only
      (first | (exfalso; omega; done) | skip)
      all_goals unfold rkI
      repeat (first | rw [if_pos (by omega)] | rw [if_neg (by omega)])
  by_cases u15 : a = 12
  · skip
    refine v_tabIn X 84 dX5_rankOf_1 ⟨by omega, by omega⟩ (by omega) (by omega) (by rw [u15]; rfl) (by decide) ?_
    refine v_iload_n X 0 dX5_rankOf_84 rfl rfl ?_
    refine v_callS X [.int (iz a)] hRm (c_X5_isRelation _ _ _ a ⟨by omega, by omega⟩) (gS bw_16_18 bw_16_19 bw_1_18 bw_16_20) rfl ddX5_isRelation (by decide) (Nat.le_of_ble_eq_true rfl) dX5_rankOf_85 (k_pB (fun b16 => ?_) (fun b16 => ?_))
    · skip
      refine v_if_eq X 95 dX5_rankOf_88 (by decide) ⟨by decide, by decide⟩ (fun q => absurd q (by decide)) (fun _ => ?_)
      refine v_iconst X dX5_rankOf_91 ?_
      refine v_goto X 96 dX5_rankOf_92 (by decide) ?_
      refine hret _ _ _ _ _ _ _ _ _ _ _ (some (.int (iz 3))) dX5_rankOf_96 ⟨rfl, _, rfl⟩ (by decide) (by decide) (fun hmok => ?_)
      refine ⟨rfl, rfl, rfl, rfl, rfl, rfl, 3, rfl, ⟨by decide, by decide⟩, ?_⟩
      try dsimp only
      (first | (exfalso; omega; done) | skip)
      all_goals unfold rkI
      repeat (first | rw [if_pos (by omega)] | rw [if_neg (by omega)])
    · skip
      refine v_if_eq X 95 dX5_rankOf_88 (by decide) ⟨by decide, by decide⟩ (fun _ => ?_) (fun q => absurd (by decide) q)
      refine v_iconst X dX5_rankOf_95 ?_
      refine hret _ _ _ _ _ _ _ _ _ _ _ (some (.int (iz 0))) dX5_rankOf_96 ⟨rfl, _, rfl⟩ (by decide) (by decide) (fun hmok => ?_)
      refine ⟨rfl, rfl, rfl, rfl, rfl, rfl, 0, rfl, ⟨by decide, by decide⟩, ?_⟩
      try dsimp only
      (first | (exfalso; omega; done) | skip)
      all_goals unfold rkI
      repeat (first | rw [if_pos (by omega)] | rw [if_neg (by omega)])
  by_cases u17 : a = 13
  · skip
    refine v_tabIn X 84 dX5_rankOf_1 ⟨by omega, by omega⟩ (by omega) (by omega) (by rw [u17]; rfl) (by decide) ?_
    refine v_iload_n X 0 dX5_rankOf_84 rfl rfl ?_
    refine v_callS X [.int (iz a)] hRm (c_X5_isRelation _ _ _ a ⟨by omega, by omega⟩) (gS bw_16_18 bw_16_19 bw_1_18 bw_16_20) rfl ddX5_isRelation (by decide) (Nat.le_of_ble_eq_true rfl) dX5_rankOf_85 (k_pB (fun b18 => ?_) (fun b18 => ?_))
    · skip
      refine v_if_eq X 95 dX5_rankOf_88 (by decide) ⟨by decide, by decide⟩ (fun q => absurd q (by decide)) (fun _ => ?_)
      refine v_iconst X dX5_rankOf_91 ?_
      refine v_goto X 96 dX5_rankOf_92 (by decide) ?_
      refine hret _ _ _ _ _ _ _ _ _ _ _ (some (.int (iz 3))) dX5_rankOf_96 ⟨rfl, _, rfl⟩ (by decide) (by decide) (fun hmok => ?_)
      refine ⟨rfl, rfl, rfl, rfl, rfl, rfl, 3, rfl, ⟨by decide, by decide⟩, ?_⟩
      try dsimp only
      (first | (exfalso; omega; done) | skip)
      all_goals unfold rkI
      repeat (first | rw [if_pos (by omega)] | rw [if_neg (by omega)])
    · skip
      refine v_if_eq X 95 dX5_rankOf_88 (by decide) ⟨by decide, by decide⟩ (fun _ => ?_) (fun q => absurd (by decide) q)
      refine v_iconst X dX5_rankOf_95 ?_
      refine hret _ _ _ _ _ _ _ _ _ _ _ (some (.int (iz 0))) dX5_rankOf_96 ⟨rfl, _, rfl⟩ (by decide) (by decide) (fun hmok => ?_)
      refine ⟨rfl, rfl, rfl, rfl, rfl, rfl, 0, rfl, ⟨by decide, by decide⟩, ?_⟩
      try dsimp only
      (first | (exfalso; omega; done) | skip)
      all_goals unfold rkI
      repeat (first | rw [if_pos (by omega)] | rw [if_neg (by omega)])
  by_cases u19 : a = 14
  · skip
    refine v_tabIn X 84 dX5_rankOf_1 ⟨by omega, by omega⟩ (by omega) (by omega) (by rw [u19]; rfl) (by decide) ?_
    refine v_iload_n X 0 dX5_rankOf_84 rfl rfl ?_
    refine v_callS X [.int (iz a)] hRm (c_X5_isRelation _ _ _ a ⟨by omega, by omega⟩) (gS bw_16_18 bw_16_19 bw_1_18 bw_16_20) rfl ddX5_isRelation (by decide) (Nat.le_of_ble_eq_true rfl) dX5_rankOf_85 (k_pB (fun b20 => ?_) (fun b20 => ?_))
    · skip
      refine v_if_eq X 95 dX5_rankOf_88 (by decide) ⟨by decide, by decide⟩ (fun q => absurd q (by decide)) (fun _ => ?_)
      refine v_iconst X dX5_rankOf_91 ?_
      refine v_goto X 96 dX5_rankOf_92 (by decide) ?_
      refine hret _ _ _ _ _ _ _ _ _ _ _ (some (.int (iz 3))) dX5_rankOf_96 ⟨rfl, _, rfl⟩ (by decide) (by decide) (fun hmok => ?_)
      refine ⟨rfl, rfl, rfl, rfl, rfl, rfl, 3, rfl, ⟨by decide, by decide⟩, ?_⟩
      try dsimp only
      (first | (exfalso; omega; done) | skip)
      all_goals unfold rkI
      repeat (first | rw [if_pos (by omega)] | rw [if_neg (by omega)])
    · skip
      refine v_if_eq X 95 dX5_rankOf_88 (by decide) ⟨by decide, by decide⟩ (fun _ => ?_) (fun q => absurd (by decide) q)
      refine v_iconst X dX5_rankOf_95 ?_
      refine hret _ _ _ _ _ _ _ _ _ _ _ (some (.int (iz 0))) dX5_rankOf_96 ⟨rfl, _, rfl⟩ (by decide) (by decide) (fun hmok => ?_)
      refine ⟨rfl, rfl, rfl, rfl, rfl, rfl, 0, rfl, ⟨by decide, by decide⟩, ?_⟩
      try dsimp only
      (first | (exfalso; omega; done) | skip)
      all_goals unfold rkI
      repeat (first | rw [if_pos (by omega)] | rw [if_neg (by omega)])
  by_cases u21 : a = 15
  · skip
    refine v_tabIn X 84 dX5_rankOf_1 ⟨by omega, by omega⟩ (by omega) (by omega) (by rw [u21]; rfl) (by decide) ?_
    refine v_iload_n X 0 dX5_rankOf_84 rfl rfl ?_
    refine v_callS X [.int (iz a)] hRm (c_X5_isRelation _ _ _ a ⟨by omega, by omega⟩) (gS bw_16_18 bw_16_19 bw_1_18 bw_16_20) rfl ddX5_isRelation (by decide) (Nat.le_of_ble_eq_true rfl) dX5_rankOf_85 (k_pB (fun b22 => ?_) (fun b22 => ?_))
    · skip
      refine v_if_eq X 95 dX5_rankOf_88 (by decide) ⟨by decide, by decide⟩ (fun q => absurd q (by decide)) (fun _ => ?_)
      refine v_iconst X dX5_rankOf_91 ?_
      refine v_goto X 96 dX5_rankOf_92 (by decide) ?_
      refine hret _ _ _ _ _ _ _ _ _ _ _ (some (.int (iz 3))) dX5_rankOf_96 ⟨rfl, _, rfl⟩ (by decide) (by decide) (fun hmok => ?_)
      refine ⟨rfl, rfl, rfl, rfl, rfl, rfl, 3, rfl, ⟨by decide, by decide⟩, ?_⟩
      try dsimp only
      (first | (exfalso; omega; done) | skip)
      all_goals unfold rkI
      repeat (first | rw [if_pos (by omega)] | rw [if_neg (by omega)])
    · skip
      refine v_if_eq X 95 dX5_rankOf_88 (by decide) ⟨by decide, by decide⟩ (fun _ => ?_) (fun q => absurd (by decide) q)
      refine v_iconst X dX5_rankOf_95 ?_
      refine hret _ _ _ _ _ _ _ _ _ _ _ (some (.int (iz 0))) dX5_rankOf_96 ⟨rfl, _, rfl⟩ (by decide) (by decide) (fun hmok => ?_)
      refine ⟨rfl, rfl, rfl, rfl, rfl, rfl, 0, rfl, ⟨by decide, by decide⟩, ?_⟩
      try dsimp only
      (first | (exfalso; omega; done) | skip)
      all_goals unfold rkI
      repeat (first | rw [if_pos (by omega)] | rw [if_neg (by omega)])
  by_cases u23 : a = 16
  · skip
    refine v_tabIn X 78 dX5_rankOf_1 ⟨by omega, by omega⟩ (by omega) (by omega) (by rw [u23]; rfl) (by decide) ?_
    refine v_iconst X dX5_rankOf_78 ?_
    refine hret _ _ _ _ _ _ _ _ _ _ _ (some (.int (iz 4))) dX5_rankOf_79 ⟨rfl, _, rfl⟩ (by decide) (by decide) (fun hmok => ?_)
    refine ⟨rfl, rfl, rfl, rfl, rfl, rfl, 4, rfl, ⟨by decide, by decide⟩, ?_⟩
    try dsimp only
    (first | (exfalso; omega; done) | skip)
    all_goals unfold rkI
    repeat (first | rw [if_pos (by omega)] | rw [if_neg (by omega)])
  by_cases u24 : a = 17
  · skip
    refine v_tabIn X 78 dX5_rankOf_1 ⟨by omega, by omega⟩ (by omega) (by omega) (by rw [u24]; rfl) (by decide) ?_
    refine v_iconst X dX5_rankOf_78 ?_
    refine hret _ _ _ _ _ _ _ _ _ _ _ (some (.int (iz 4))) dX5_rankOf_79 ⟨rfl, _, rfl⟩ (by decide) (by decide) (fun hmok => ?_)
    refine ⟨rfl, rfl, rfl, rfl, rfl, rfl, 4, rfl, ⟨by decide, by decide⟩, ?_⟩
    try dsimp only
    (first | (exfalso; omega; done) | skip)
    all_goals unfold rkI
    repeat (first | rw [if_pos (by omega)] | rw [if_neg (by omega)])
  by_cases u25 : a = 18
  · skip
    refine v_tabIn X 76 dX5_rankOf_1 ⟨by omega, by omega⟩ (by omega) (by omega) (by rw [u25]; rfl) (by decide) ?_
    refine v_iconst X dX5_rankOf_76 ?_
    refine hret _ _ _ _ _ _ _ _ _ _ _ (some (.int (iz 5))) dX5_rankOf_77 ⟨rfl, _, rfl⟩ (by decide) (by decide) (fun hmok => ?_)
    refine ⟨rfl, rfl, rfl, rfl, rfl, rfl, 5, rfl, ⟨by decide, by decide⟩, ?_⟩
    try dsimp only
    (first | (exfalso; omega; done) | skip)
    all_goals unfold rkI
    repeat (first | rw [if_pos (by omega)] | rw [if_neg (by omega)])
  refine v_tabOut X 84 dX5_rankOf_1 ⟨by omega, by omega⟩ (by omega) (by decide) ?_
  refine v_iload_n X 0 dX5_rankOf_84 rfl rfl ?_
  refine v_callS X [.int (iz a)] hRm (c_X5_isRelation _ _ _ a ⟨by omega, by omega⟩) (gS bw_16_18 bw_16_19 bw_1_18 bw_16_20) rfl ddX5_isRelation (by decide) (Nat.le_of_ble_eq_true rfl) dX5_rankOf_85 (k_pB (fun b26 => ?_) (fun b26 => ?_))
  · skip
    refine v_if_eq X 95 dX5_rankOf_88 (by decide) ⟨by decide, by decide⟩ (fun q => absurd q (by decide)) (fun _ => ?_)
    refine v_iconst X dX5_rankOf_91 ?_
    refine v_goto X 96 dX5_rankOf_92 (by decide) ?_
    refine hret _ _ _ _ _ _ _ _ _ _ _ (some (.int (iz 3))) dX5_rankOf_96 ⟨rfl, _, rfl⟩ (by decide) (by decide) (fun hmok => ?_)
    refine ⟨rfl, rfl, rfl, rfl, rfl, rfl, 3, rfl, ⟨by decide, by decide⟩, ?_⟩
    try dsimp only
    (first | (exfalso; omega; done) | skip)
    all_goals unfold rkI
    repeat (first | rw [if_pos (by omega)] | rw [if_neg (by omega)])
  · skip
    refine v_if_eq X 95 dX5_rankOf_88 (by decide) ⟨by decide, by decide⟩ (fun _ => ?_) (fun q => absurd (by decide) q)
    refine v_iconst X dX5_rankOf_95 ?_
    refine hret _ _ _ _ _ _ _ _ _ _ _ (some (.int (iz 0))) dX5_rankOf_96 ⟨rfl, _, rfl⟩ (by decide) (by decide) (fun hmok => ?_)
    refine ⟨rfl, rfl, rfl, rfl, rfl, rfl, 0, rfl, ⟨by decide, by decide⟩, ?_⟩
    try dsimp only
    (first | (exfalso; omega; done) | skip)
    all_goals unfold rkI
    repeat (first | rw [if_pos (by omega)] | rw [if_neg (by omega)])

-- hold
set_option maxHeartbeats 4000000 in
set_option maxRecDepth 100000 in
theorem c_X5_hold (l : Launch) (D : va_G) (cy : Nat → ClassId) {N : Nat} {sh : MS} {ad : Nat → Nat} {M L : MI} {R : MR} (hS : Std N sh R) (k : Int) (hk : inR k) (hz : 0 ≤ M 3 2 ∧ M 3 2 ≤ 24) : Ctr l D cy yX5_hold wsX5_hold ({ frames := 0, cells := 0, slots := 0, locals := 0 } : Room) N sh ad M L R [.ref (ad 3), .int (iz k)] (eV N sh ad L R (fun M' => M' = if M 3 2 < 24 then mu (mu M 4 (M 3 2) k) 3 2 (M 3 2 + 1) else M)) := by
  refine Ctr.ofV (by decide) rfl (Nat.le_of_ble_eq_true rfl) ?_
  intro K hKl hKd hRm hnm X hret
  have X : VX K cX5_hold 2 wsX5_hold RX5 := X
  show V K 2 0 0 N sh ad M L R [(0, .ref (ad 3)), (1, .int (iz k))] [] 0
  refine v_aload_n X 0 dX5_hold_0 rfl rfl ?_
  refine gt_X5_waitingSize X iwX5 (Std.lt hS rfl) (Std.k hS rfl rfl) (List.mem_cons_of_mem _ bw_3_16) dX5_hold_1 (M 3 2) rfl (fun hr1 => ?_)
  refine v_bipush X dX5_hold_4 (by decide) ?_
  refine v_icmp_ge X 29 dX5_hold_6 (by decide) ⟨by omega, by omega⟩ ⟨by decide, by decide⟩ (fun u2 => ?_) (fun u2 => ?_)
  · skip
    refine hret _ _ _ _ _ _ _ _ _ _ _ none dX5_hold_29 ⟨rfl, rfl⟩ (by decide) (by decide) (fun hmok => ?_)
    refine ⟨rfl, rfl, rfl, rfl, rfl, rfl, ?_⟩
    try dsimp only
    first | (rw [if_neg (by omega)]; done) | (rw [if_neg (by omega)]; rfl) | (rw [if_pos (by omega)]; done) | (rw [if_pos (by omega)]; rfl)
  · skip
    refine v_aload_n X 0 dX5_hold_9 rfl rfl ?_
    refine gt_X5_waiting X iwX5 (Std.lt hS rfl) (Std.k hS rfl rfl) (List.mem_cons_of_mem _ bw_3_11) dX5_hold_10 4 (Std.r hS 1 rfl) ?_
    refine v_aload_n X 0 dX5_hold_13 rfl rfl ?_
    refine gt_X5_waitingSize X iwX5 (Std.lt hS rfl) (Std.k hS rfl rfl) (List.mem_cons_of_mem _ bw_3_16) dX5_hold_14 (M 3 2) rfl (fun hr3 => ?_)
    refine v_iload_n X 1 dX5_hold_17 rfl rfl ?_
    refine v_iast X (Std.lt hS rfl) (Std.at hS rfl rfl) (by omega) (by omega) ⟨by omega, by omega⟩ dX5_hold_18 ?_
    refine v_aload_n X 0 dX5_hold_19 rfl rfl ?_
    refine v_dup X dX5_hold_20 rfl ?_
    refine gt_X5_waitingSize X iwX5 (Std.lt hS rfl) (Std.k hS rfl rfl) (List.mem_cons_of_mem _ bw_3_16) dX5_hold_21 (M 3 2) rfl (fun hr4 => ?_)
    refine v_iconst X dX5_hold_24 ?_
    refine v_iadd X dX5_hold_25 ?_
    refine pt_X5_waitingSize X iwX5 (Std.lt hS rfl) (Std.k hS rfl rfl) (List.mem_cons_of_mem _ bw_3_16) ⟨by omega, by omega⟩ dX5_hold_26 ?_
    refine hret _ _ _ _ _ _ _ _ _ _ _ none dX5_hold_29 ⟨rfl, rfl⟩ (by decide) (by decide) (fun hmok => ?_)
    refine ⟨rfl, rfl, rfl, rfl, rfl, rfl, ?_⟩
    try dsimp only
    first | (rw [if_neg (by omega)]; done) | (rw [if_neg (by omega)]; rfl) | (rw [if_pos (by omega)]; done) | (rw [if_pos (by omega)]; rfl)

-- placeReached
set_option maxHeartbeats 4000000 in
set_option maxRecDepth 100000 in
theorem c_X5_placeReached (l : Launch) (D : va_G) (cy : Nat → ClassId) {N : Nat} {sh : MS} {ad : Nat → Nat} {M L : MI} {R : MR} (hS : Std N sh R) : Ctr l D cy yX5_placeReached wsX5_placeReached ({ frames := 0, cells := 0, slots := 0, locals := 0 } : Room) N sh ad M L R [.ref (ad 3)] (pI N sh ad M L R (fun r => r = M 5 4)) := by
  refine Ctr.ofI (by decide) rfl (Nat.le_of_ble_eq_true rfl) ?_
  intro K hKl hKd hRm hnm X hret
  have X : VX K cX5_placeReached 1 wsX5_placeReached RX5 := X
  show V K 1 0 0 N sh ad M L R [(0, .ref (ad 3))] [] 0
  refine v_aload_n X 0 dX5_placeReached_0 rfl rfl ?_
  refine gt_X5_scanner X iwX5 (Std.lt hS rfl) (Std.k hS rfl rfl) (List.mem_cons_of_mem _ bw_3_15) dX5_placeReached_1 5 (Std.r hS 0 rfl) ?_
  refine gt_X6_place X iwX6 (Std.lt hS rfl) (Std.k hS rfl rfl) (List.mem_cons_of_mem _ bw_19_5) dX5_placeReached_4 (M 5 4) rfl (fun hr1 => ?_)
  refine hret _ _ _ _ _ _ _ _ _ _ _ (some (.int (iz (M 5 4)))) dX5_placeReached_7 ⟨rfl, _, rfl⟩ (by decide) (by decide) (fun hmok => ?_)
  refine ⟨rfl, rfl, rfl, rfl, rfl, rfl, (M 5 4), rfl, ⟨by omega, by omega⟩, ?_⟩
  try dsimp only
  all_goals rfl

-- goesOnBehindUnit
set_option maxHeartbeats 4000000 in
set_option maxRecDepth 100000 in
theorem c_X5_goesOnBehindUnit (l : Launch) (D : va_G) (cy : Nat → ClassId) {N : Nat} {sh : MS} {ad : Nat → Nat} {M L : MI} {R : MR} (hS : Std N sh R) (k : Int) (hk : inR k) : Ctr l D cy yX5_goesOnBehindUnit wsX5_goesOnBehindUnit ({ frames := 1, cells := 0, slots := 0, locals := 20 } : Room) N sh ad M L R [.ref (ad 3), .int (iz k)] (pB N sh ad M L R (goU (M 3 5) (M 3 4) k)) := by
  refine Ctr.ofZ (by decide) rfl (Nat.le_of_ble_eq_true rfl) ?_
  intro K hKl hKd hRm hnm X hret
  have X : VX K cX5_goesOnBehindUnit 2 wsX5_goesOnBehindUnit RX5 := X
  show V K 2 0 0 N sh ad M L R [(0, .ref (ad 3)), (1, .int (iz k))] [] 0
  refine v_iload_n X 1 dX5_goesOnBehindUnit_0 rfl rfl ?_
  refine v_bipush X dX5_goesOnBehindUnit_1 (by decide) ?_
  refine v_icmp_eq X 18 dX5_goesOnBehindUnit_3 (by decide) ⟨by omega, by omega⟩ ⟨by decide, by decide⟩ (fun u1 => ?_) (fun u1 => ?_)
  · skip
    refine v_iconst X dX5_goesOnBehindUnit_18 ?_
    refine hret _ _ _ _ _ _ _ _ _ _ _ (some (.int (iz 1))) dX5_goesOnBehindUnit_19 ⟨rfl, 1, ⟨by omega, by omega⟩, rfl⟩ (by decide) (by decide) (fun hmok => ?_)
    refine ⟨rfl, rfl, rfl, rfl, rfl, rfl, 1, rfl, Or.inl ⟨rfl, ?_⟩⟩
    first | (rw [goU_op (show k = 16 ∨ k = 17 ∨ k = 18 by omega)]; trivial) | (rw [goU_d (show ¬ (k = 16 ∨ k = 17 ∨ k = 18) by omega) (show 0 < M 3 5 by omega)]; omega) | (rw [goU_0 (show ¬ (k = 16 ∨ k = 17 ∨ k = 18) by omega) (show ¬ 0 < M 3 5 by omega) (show M 3 4 = 0 by omega)]; omega) | (rw [goU_1 (show ¬ (k = 16 ∨ k = 17 ∨ k = 18) by omega) (show ¬ 0 < M 3 5 by omega) (show M 3 4 = 1 by omega)]; omega) | (rw [goU_2 (show ¬ (k = 16 ∨ k = 17 ∨ k = 18) by omega) (show ¬ 0 < M 3 5 by omega) (show M 3 4 ≠ 0 by omega) (show M 3 4 ≠ 1 by omega)]; omega)
  · skip
    refine v_iload_n X 1 dX5_goesOnBehindUnit_6 rfl rfl ?_
    refine v_bipush X dX5_goesOnBehindUnit_7 (by decide) ?_
    refine v_icmp_eq X 18 dX5_goesOnBehindUnit_9 (by decide) ⟨by omega, by omega⟩ ⟨by decide, by decide⟩ (fun u2 => ?_) (fun u2 => ?_)
    · skip
      refine v_iconst X dX5_goesOnBehindUnit_18 ?_
      refine hret _ _ _ _ _ _ _ _ _ _ _ (some (.int (iz 1))) dX5_goesOnBehindUnit_19 ⟨rfl, 1, ⟨by omega, by omega⟩, rfl⟩ (by decide) (by decide) (fun hmok => ?_)
      refine ⟨rfl, rfl, rfl, rfl, rfl, rfl, 1, rfl, Or.inl ⟨rfl, ?_⟩⟩
      first | (rw [goU_op (show k = 16 ∨ k = 17 ∨ k = 18 by omega)]; trivial) | (rw [goU_d (show ¬ (k = 16 ∨ k = 17 ∨ k = 18) by omega) (show 0 < M 3 5 by omega)]; omega) | (rw [goU_0 (show ¬ (k = 16 ∨ k = 17 ∨ k = 18) by omega) (show ¬ 0 < M 3 5 by omega) (show M 3 4 = 0 by omega)]; omega) | (rw [goU_1 (show ¬ (k = 16 ∨ k = 17 ∨ k = 18) by omega) (show ¬ 0 < M 3 5 by omega) (show M 3 4 = 1 by omega)]; omega) | (rw [goU_2 (show ¬ (k = 16 ∨ k = 17 ∨ k = 18) by omega) (show ¬ 0 < M 3 5 by omega) (show M 3 4 ≠ 0 by omega) (show M 3 4 ≠ 1 by omega)]; omega)
    · skip
      refine v_iload_n X 1 dX5_goesOnBehindUnit_12 rfl rfl ?_
      refine v_bipush X dX5_goesOnBehindUnit_13 (by decide) ?_
      refine v_icmp_ne X 20 dX5_goesOnBehindUnit_15 (by decide) ⟨by omega, by omega⟩ ⟨by decide, by decide⟩ (fun u3 => ?_) (fun u3 => ?_)
      · skip
        refine v_aload_n X 0 dX5_goesOnBehindUnit_20 rfl rfl ?_
        refine gt_X5_depth X iwX5 (Std.lt hS rfl) (Std.k hS rfl rfl) (List.mem_cons_of_mem _ bw_3_19) dX5_goesOnBehindUnit_21 (M 3 5) rfl (fun hr4 => ?_)
        refine v_if_le X 39 dX5_goesOnBehindUnit_24 (by decide) ⟨by omega, by omega⟩ (fun u5 => ?_) (fun u5 => ?_)
        · skip
          refine v_aload_n X 0 dX5_goesOnBehindUnit_39 rfl rfl ?_
          refine gt_X5_side X iwX5 (Std.lt hS rfl) (Std.k hS rfl rfl) (List.mem_cons_of_mem _ bw_3_18) dX5_goesOnBehindUnit_40 (M 3 4) rfl (fun hr6 => ?_)
          by_cases u7 : (M 3 4) = 0
          · skip
            refine v_lookup X (off := 25) 68 dX5_goesOnBehindUnit_43 (by decide) ⟨by omega, by omega⟩ (by rw [u7] <;> rfl) (by decide) ?_
            refine v_iload_n X 1 dX5_goesOnBehindUnit_68 rfl rfl ?_
            refine v_iconst X dX5_goesOnBehindUnit_69 ?_
            refine v_icmp_eq X 79 dX5_goesOnBehindUnit_70 (by decide) ⟨by omega, by omega⟩ ⟨by decide, by decide⟩ (fun u8 => ?_) (fun u8 => ?_)
            · skip
              refine v_iconst X dX5_goesOnBehindUnit_79 ?_
              refine v_goto X 84 dX5_goesOnBehindUnit_80 (by decide) ?_
              refine hret _ _ _ _ _ _ _ _ _ _ _ (some (.int (iz 1))) dX5_goesOnBehindUnit_84 ⟨rfl, 1, ⟨by omega, by omega⟩, rfl⟩ (by decide) (by decide) (fun hmok => ?_)
              refine ⟨rfl, rfl, rfl, rfl, rfl, rfl, 1, rfl, Or.inl ⟨rfl, ?_⟩⟩
              first | (rw [goU_op (show k = 16 ∨ k = 17 ∨ k = 18 by omega)]; trivial) | (rw [goU_d (show ¬ (k = 16 ∨ k = 17 ∨ k = 18) by omega) (show 0 < M 3 5 by omega)]; omega) | (rw [goU_0 (show ¬ (k = 16 ∨ k = 17 ∨ k = 18) by omega) (show ¬ 0 < M 3 5 by omega) (show M 3 4 = 0 by omega)]; omega) | (rw [goU_1 (show ¬ (k = 16 ∨ k = 17 ∨ k = 18) by omega) (show ¬ 0 < M 3 5 by omega) (show M 3 4 = 1 by omega)]; omega) | (rw [goU_2 (show ¬ (k = 16 ∨ k = 17 ∨ k = 18) by omega) (show ¬ 0 < M 3 5 by omega) (show M 3 4 ≠ 0 by omega) (show M 3 4 ≠ 1 by omega)]; omega)
            · skip
              refine v_iload_n X 1 dX5_goesOnBehindUnit_73 rfl rfl ?_
              refine v_bipush X dX5_goesOnBehindUnit_74 (by decide) ?_
              refine v_icmp_ne X 83 dX5_goesOnBehindUnit_76 (by decide) ⟨by omega, by omega⟩ ⟨by decide, by decide⟩ (fun u9 => ?_) (fun u9 => ?_)
              · skip
                refine v_iconst X dX5_goesOnBehindUnit_83 ?_
                refine hret _ _ _ _ _ _ _ _ _ _ _ (some (.int (iz 0))) dX5_goesOnBehindUnit_84 ⟨rfl, 0, ⟨by omega, by omega⟩, rfl⟩ (by decide) (by decide) (fun hmok => ?_)
                refine ⟨rfl, rfl, rfl, rfl, rfl, rfl, 0, rfl, Or.inr ⟨rfl, ?_⟩⟩
                first | (rw [goU_op (show k = 16 ∨ k = 17 ∨ k = 18 by omega)]; trivial) | (rw [goU_d (show ¬ (k = 16 ∨ k = 17 ∨ k = 18) by omega) (show 0 < M 3 5 by omega)]; omega) | (rw [goU_0 (show ¬ (k = 16 ∨ k = 17 ∨ k = 18) by omega) (show ¬ 0 < M 3 5 by omega) (show M 3 4 = 0 by omega)]; omega) | (rw [goU_1 (show ¬ (k = 16 ∨ k = 17 ∨ k = 18) by omega) (show ¬ 0 < M 3 5 by omega) (show M 3 4 = 1 by omega)]; omega) | (rw [goU_2 (show ¬ (k = 16 ∨ k = 17 ∨ k = 18) by omega) (show ¬ 0 < M 3 5 by omega) (show M 3 4 ≠ 0 by omega) (show M 3 4 ≠ 1 by omega)]; omega)
              · skip
                refine v_iconst X dX5_goesOnBehindUnit_79 ?_
                refine v_goto X 84 dX5_goesOnBehindUnit_80 (by decide) ?_
                refine hret _ _ _ _ _ _ _ _ _ _ _ (some (.int (iz 1))) dX5_goesOnBehindUnit_84 ⟨rfl, 1, ⟨by omega, by omega⟩, rfl⟩ (by decide) (by decide) (fun hmok => ?_)
                refine ⟨rfl, rfl, rfl, rfl, rfl, rfl, 1, rfl, Or.inl ⟨rfl, ?_⟩⟩
                first | (rw [goU_op (show k = 16 ∨ k = 17 ∨ k = 18 by omega)]; trivial) | (rw [goU_d (show ¬ (k = 16 ∨ k = 17 ∨ k = 18) by omega) (show 0 < M 3 5 by omega)]; omega) | (rw [goU_0 (show ¬ (k = 16 ∨ k = 17 ∨ k = 18) by omega) (show ¬ 0 < M 3 5 by omega) (show M 3 4 = 0 by omega)]; omega) | (rw [goU_1 (show ¬ (k = 16 ∨ k = 17 ∨ k = 18) by omega) (show ¬ 0 < M 3 5 by omega) (show M 3 4 = 1 by omega)]; omega) | (rw [goU_2 (show ¬ (k = 16 ∨ k = 17 ∨ k = 18) by omega) (show ¬ 0 < M 3 5 by omega) (show M 3 4 ≠ 0 by omega) (show M 3 4 ≠ 1 by omega)]; omega)
          by_cases u10 : (M 3 4) = 1
          · skip
            refine v_lookup X (off := 42) 85 dX5_goesOnBehindUnit_43 (by decide) ⟨by omega, by omega⟩ (by rw [u10] <;> rfl) (by decide) ?_
            refine v_iload_n X 1 dX5_goesOnBehindUnit_85 rfl rfl ?_
            refine v_callS X [.int (iz k)] hRm (c_X5_isRelation _ _ _ k ⟨by omega, by omega⟩) (gS bw_16_18 bw_16_19 bw_1_18 bw_16_20) rfl ddX5_isRelation (by decide) (Nat.le_of_ble_eq_true rfl) dX5_goesOnBehindUnit_86 (k_pB (fun b11 => ?_) (fun b11 => ?_))
            · skip
              refine hret _ _ _ _ _ _ _ _ _ _ _ (some (.int (iz 1))) dX5_goesOnBehindUnit_89 ⟨rfl, 1, ⟨by omega, by omega⟩, rfl⟩ (by decide) (by decide) (fun hmok => ?_)
              refine ⟨rfl, rfl, rfl, rfl, rfl, rfl, 1, rfl, Or.inl ⟨rfl, ?_⟩⟩
              first | (rw [goU_op (show k = 16 ∨ k = 17 ∨ k = 18 by omega)]; trivial) | (rw [goU_d (show ¬ (k = 16 ∨ k = 17 ∨ k = 18) by omega) (show 0 < M 3 5 by omega)]; omega) | (rw [goU_0 (show ¬ (k = 16 ∨ k = 17 ∨ k = 18) by omega) (show ¬ 0 < M 3 5 by omega) (show M 3 4 = 0 by omega)]; omega) | (rw [goU_1 (show ¬ (k = 16 ∨ k = 17 ∨ k = 18) by omega) (show ¬ 0 < M 3 5 by omega) (show M 3 4 = 1 by omega)]; omega) | (rw [goU_2 (show ¬ (k = 16 ∨ k = 17 ∨ k = 18) by omega) (show ¬ 0 < M 3 5 by omega) (show M 3 4 ≠ 0 by omega) (show M 3 4 ≠ 1 by omega)]; omega)
            · skip
              refine hret _ _ _ _ _ _ _ _ _ _ _ (some (.int (iz 0))) dX5_goesOnBehindUnit_89 ⟨rfl, 0, ⟨by omega, by omega⟩, rfl⟩ (by decide) (by decide) (fun hmok => ?_)
              refine ⟨rfl, rfl, rfl, rfl, rfl, rfl, 0, rfl, Or.inr ⟨rfl, ?_⟩⟩
              first | (rw [goU_op (show k = 16 ∨ k = 17 ∨ k = 18 by omega)]; trivial) | (rw [goU_d (show ¬ (k = 16 ∨ k = 17 ∨ k = 18) by omega) (show 0 < M 3 5 by omega)]; omega) | (rw [goU_0 (show ¬ (k = 16 ∨ k = 17 ∨ k = 18) by omega) (show ¬ 0 < M 3 5 by omega) (show M 3 4 = 0 by omega)]; omega) | (rw [goU_1 (show ¬ (k = 16 ∨ k = 17 ∨ k = 18) by omega) (show ¬ 0 < M 3 5 by omega) (show M 3 4 = 1 by omega)]; omega) | (rw [goU_2 (show ¬ (k = 16 ∨ k = 17 ∨ k = 18) by omega) (show ¬ 0 < M 3 5 by omega) (show M 3 4 ≠ 0 by omega) (show M 3 4 ≠ 1 by omega)]; omega)
          refine v_lookup X (off := 47) 90 dX5_goesOnBehindUnit_43 (by decide) ⟨by omega, by omega⟩ (by simp only [Op.lookupswitch.offset_cons, List.toList_toArray]; rw [if_neg (by omega), if_neg (by omega)] <;> rfl) (by decide) ?_
          refine v_iload_n X 1 dX5_goesOnBehindUnit_90 rfl rfl ?_
          refine v_iconst X dX5_goesOnBehindUnit_91 ?_
          refine v_icmp_eq X 106 dX5_goesOnBehindUnit_92 (by decide) ⟨by omega, by omega⟩ ⟨by decide, by decide⟩ (fun u12 => ?_) (fun u12 => ?_)
          · skip
            refine v_iconst X dX5_goesOnBehindUnit_106 ?_
            refine v_goto X 111 dX5_goesOnBehindUnit_107 (by decide) ?_
            refine hret _ _ _ _ _ _ _ _ _ _ _ (some (.int (iz 1))) dX5_goesOnBehindUnit_111 ⟨rfl, 1, ⟨by omega, by omega⟩, rfl⟩ (by decide) (by decide) (fun hmok => ?_)
            refine ⟨rfl, rfl, rfl, rfl, rfl, rfl, 1, rfl, Or.inl ⟨rfl, ?_⟩⟩
            first | (rw [goU_op (show k = 16 ∨ k = 17 ∨ k = 18 by omega)]; trivial) | (rw [goU_d (show ¬ (k = 16 ∨ k = 17 ∨ k = 18) by omega) (show 0 < M 3 5 by omega)]; omega) | (rw [goU_0 (show ¬ (k = 16 ∨ k = 17 ∨ k = 18) by omega) (show ¬ 0 < M 3 5 by omega) (show M 3 4 = 0 by omega)]; omega) | (rw [goU_1 (show ¬ (k = 16 ∨ k = 17 ∨ k = 18) by omega) (show ¬ 0 < M 3 5 by omega) (show M 3 4 = 1 by omega)]; omega) | (rw [goU_2 (show ¬ (k = 16 ∨ k = 17 ∨ k = 18) by omega) (show ¬ 0 < M 3 5 by omega) (show M 3 4 ≠ 0 by omega) (show M 3 4 ≠ 1 by omega)]; omega)
          · skip
            refine v_iload_n X 1 dX5_goesOnBehindUnit_95 rfl rfl ?_
            refine v_iconst X dX5_goesOnBehindUnit_96 ?_
            refine v_icmp_eq X 106 dX5_goesOnBehindUnit_97 (by decide) ⟨by omega, by omega⟩ ⟨by decide, by decide⟩ (fun u13 => ?_) (fun u13 => ?_)
            · skip
              refine v_iconst X dX5_goesOnBehindUnit_106 ?_
              refine v_goto X 111 dX5_goesOnBehindUnit_107 (by decide) ?_
              refine hret _ _ _ _ _ _ _ _ _ _ _ (some (.int (iz 1))) dX5_goesOnBehindUnit_111 ⟨rfl, 1, ⟨by omega, by omega⟩, rfl⟩ (by decide) (by decide) (fun hmok => ?_)
              refine ⟨rfl, rfl, rfl, rfl, rfl, rfl, 1, rfl, Or.inl ⟨rfl, ?_⟩⟩
              first | (rw [goU_op (show k = 16 ∨ k = 17 ∨ k = 18 by omega)]; trivial) | (rw [goU_d (show ¬ (k = 16 ∨ k = 17 ∨ k = 18) by omega) (show 0 < M 3 5 by omega)]; omega) | (rw [goU_0 (show ¬ (k = 16 ∨ k = 17 ∨ k = 18) by omega) (show ¬ 0 < M 3 5 by omega) (show M 3 4 = 0 by omega)]; omega) | (rw [goU_1 (show ¬ (k = 16 ∨ k = 17 ∨ k = 18) by omega) (show ¬ 0 < M 3 5 by omega) (show M 3 4 = 1 by omega)]; omega) | (rw [goU_2 (show ¬ (k = 16 ∨ k = 17 ∨ k = 18) by omega) (show ¬ 0 < M 3 5 by omega) (show M 3 4 ≠ 0 by omega) (show M 3 4 ≠ 1 by omega)]; omega)
            · skip
              refine v_iload_n X 1 dX5_goesOnBehindUnit_100 rfl rfl ?_
              refine v_bipush X dX5_goesOnBehindUnit_101 (by decide) ?_
              refine v_icmp_ne X 110 dX5_goesOnBehindUnit_103 (by decide) ⟨by omega, by omega⟩ ⟨by decide, by decide⟩ (fun u14 => ?_) (fun u14 => ?_)
              · skip
                refine v_iconst X dX5_goesOnBehindUnit_110 ?_
                refine hret _ _ _ _ _ _ _ _ _ _ _ (some (.int (iz 0))) dX5_goesOnBehindUnit_111 ⟨rfl, 0, ⟨by omega, by omega⟩, rfl⟩ (by decide) (by decide) (fun hmok => ?_)
                refine ⟨rfl, rfl, rfl, rfl, rfl, rfl, 0, rfl, Or.inr ⟨rfl, ?_⟩⟩
                first | (rw [goU_op (show k = 16 ∨ k = 17 ∨ k = 18 by omega)]; trivial) | (rw [goU_d (show ¬ (k = 16 ∨ k = 17 ∨ k = 18) by omega) (show 0 < M 3 5 by omega)]; omega) | (rw [goU_0 (show ¬ (k = 16 ∨ k = 17 ∨ k = 18) by omega) (show ¬ 0 < M 3 5 by omega) (show M 3 4 = 0 by omega)]; omega) | (rw [goU_1 (show ¬ (k = 16 ∨ k = 17 ∨ k = 18) by omega) (show ¬ 0 < M 3 5 by omega) (show M 3 4 = 1 by omega)]; omega) | (rw [goU_2 (show ¬ (k = 16 ∨ k = 17 ∨ k = 18) by omega) (show ¬ 0 < M 3 5 by omega) (show M 3 4 ≠ 0 by omega) (show M 3 4 ≠ 1 by omega)]; omega)
              · skip
                refine v_iconst X dX5_goesOnBehindUnit_106 ?_
                refine v_goto X 111 dX5_goesOnBehindUnit_107 (by decide) ?_
                refine hret _ _ _ _ _ _ _ _ _ _ _ (some (.int (iz 1))) dX5_goesOnBehindUnit_111 ⟨rfl, 1, ⟨by omega, by omega⟩, rfl⟩ (by decide) (by decide) (fun hmok => ?_)
                refine ⟨rfl, rfl, rfl, rfl, rfl, rfl, 1, rfl, Or.inl ⟨rfl, ?_⟩⟩
                first | (rw [goU_op (show k = 16 ∨ k = 17 ∨ k = 18 by omega)]; trivial) | (rw [goU_d (show ¬ (k = 16 ∨ k = 17 ∨ k = 18) by omega) (show 0 < M 3 5 by omega)]; omega) | (rw [goU_0 (show ¬ (k = 16 ∨ k = 17 ∨ k = 18) by omega) (show ¬ 0 < M 3 5 by omega) (show M 3 4 = 0 by omega)]; omega) | (rw [goU_1 (show ¬ (k = 16 ∨ k = 17 ∨ k = 18) by omega) (show ¬ 0 < M 3 5 by omega) (show M 3 4 = 1 by omega)]; omega) | (rw [goU_2 (show ¬ (k = 16 ∨ k = 17 ∨ k = 18) by omega) (show ¬ 0 < M 3 5 by omega) (show M 3 4 ≠ 0 by omega) (show M 3 4 ≠ 1 by omega)]; omega)
        · skip
          refine v_iload_n X 1 dX5_goesOnBehindUnit_27 rfl rfl ?_
          refine v_bipush X dX5_goesOnBehindUnit_28 (by decide) ?_
          refine v_icmp_ne X 37 dX5_goesOnBehindUnit_30 (by decide) ⟨by omega, by omega⟩ ⟨by decide, by decide⟩ (fun u15 => ?_) (fun u15 => ?_)
          · skip
            refine v_iconst X dX5_goesOnBehindUnit_37 ?_
            refine hret _ _ _ _ _ _ _ _ _ _ _ (some (.int (iz 0))) dX5_goesOnBehindUnit_38 ⟨rfl, 0, ⟨by omega, by omega⟩, rfl⟩ (by decide) (by decide) (fun hmok => ?_)
            refine ⟨rfl, rfl, rfl, rfl, rfl, rfl, 0, rfl, Or.inr ⟨rfl, ?_⟩⟩
            first | (rw [goU_op (show k = 16 ∨ k = 17 ∨ k = 18 by omega)]; trivial) | (rw [goU_d (show ¬ (k = 16 ∨ k = 17 ∨ k = 18) by omega) (show 0 < M 3 5 by omega)]; omega) | (rw [goU_0 (show ¬ (k = 16 ∨ k = 17 ∨ k = 18) by omega) (show ¬ 0 < M 3 5 by omega) (show M 3 4 = 0 by omega)]; omega) | (rw [goU_1 (show ¬ (k = 16 ∨ k = 17 ∨ k = 18) by omega) (show ¬ 0 < M 3 5 by omega) (show M 3 4 = 1 by omega)]; omega) | (rw [goU_2 (show ¬ (k = 16 ∨ k = 17 ∨ k = 18) by omega) (show ¬ 0 < M 3 5 by omega) (show M 3 4 ≠ 0 by omega) (show M 3 4 ≠ 1 by omega)]; omega)
          · skip
            refine v_iconst X dX5_goesOnBehindUnit_33 ?_
            refine v_goto X 38 dX5_goesOnBehindUnit_34 (by decide) ?_
            refine hret _ _ _ _ _ _ _ _ _ _ _ (some (.int (iz 1))) dX5_goesOnBehindUnit_38 ⟨rfl, 1, ⟨by omega, by omega⟩, rfl⟩ (by decide) (by decide) (fun hmok => ?_)
            refine ⟨rfl, rfl, rfl, rfl, rfl, rfl, 1, rfl, Or.inl ⟨rfl, ?_⟩⟩
            first | (rw [goU_op (show k = 16 ∨ k = 17 ∨ k = 18 by omega)]; trivial) | (rw [goU_d (show ¬ (k = 16 ∨ k = 17 ∨ k = 18) by omega) (show 0 < M 3 5 by omega)]; omega) | (rw [goU_0 (show ¬ (k = 16 ∨ k = 17 ∨ k = 18) by omega) (show ¬ 0 < M 3 5 by omega) (show M 3 4 = 0 by omega)]; omega) | (rw [goU_1 (show ¬ (k = 16 ∨ k = 17 ∨ k = 18) by omega) (show ¬ 0 < M 3 5 by omega) (show M 3 4 = 1 by omega)]; omega) | (rw [goU_2 (show ¬ (k = 16 ∨ k = 17 ∨ k = 18) by omega) (show ¬ 0 < M 3 5 by omega) (show M 3 4 ≠ 0 by omega) (show M 3 4 ≠ 1 by omega)]; omega)
      · skip
        refine v_iconst X dX5_goesOnBehindUnit_18 ?_
        refine hret _ _ _ _ _ _ _ _ _ _ _ (some (.int (iz 1))) dX5_goesOnBehindUnit_19 ⟨rfl, 1, ⟨by omega, by omega⟩, rfl⟩ (by decide) (by decide) (fun hmok => ?_)
        refine ⟨rfl, rfl, rfl, rfl, rfl, rfl, 1, rfl, Or.inl ⟨rfl, ?_⟩⟩
        first | (rw [goU_op (show k = 16 ∨ k = 17 ∨ k = 18 by omega)]; trivial) | (rw [goU_d (show ¬ (k = 16 ∨ k = 17 ∨ k = 18) by omega) (show 0 < M 3 5 by omega)]; omega) | (rw [goU_0 (show ¬ (k = 16 ∨ k = 17 ∨ k = 18) by omega) (show ¬ 0 < M 3 5 by omega) (show M 3 4 = 0 by omega)]; omega) | (rw [goU_1 (show ¬ (k = 16 ∨ k = 17 ∨ k = 18) by omega) (show ¬ 0 < M 3 5 by omega) (show M 3 4 = 1 by omega)]; omega) | (rw [goU_2 (show ¬ (k = 16 ∨ k = 17 ∨ k = 18) by omega) (show ¬ 0 < M 3 5 by omega) (show M 3 4 ≠ 0 by omega) (show M 3 4 ≠ 1 by omega)]; omega)

-- goesOnWith
set_option maxHeartbeats 4000000 in
set_option maxRecDepth 100000 in
theorem c_X5_goesOnWith (l : Launch) (D : va_G) (cy : Nat → ClassId) {N : Nat} {sh : MS} {ad : Nat → Nat} {M L : MI} {R : MR} (hS : Std N sh R) (k : Int) (hk : inR k) : Ctr l D cy yX5_goesOnWith wsX5_goesOnWith ({ frames := 2, cells := 0, slots := 0, locals := 41 } : Room) N sh ad M L R [.ref (ad 3), .int (iz k)] (pB N sh ad M L R (goW (M 3 3) (M 3 4) (M 3 5) k)) := by
  refine Ctr.ofZ (by decide) rfl (Nat.le_of_ble_eq_true rfl) ?_
  intro K hKl hKd hRm hnm X hret
  have X : VX K cX5_goesOnWith 2 wsX5_goesOnWith RX5 := X
  show V K 2 0 0 N sh ad M L R [(0, .ref (ad 3)), (1, .int (iz k))] [] 0
  refine v_aload_n X 0 dX5_goesOnWith_0 rfl rfl ?_
  refine gt_X5_state X iwX5 (Std.lt hS rfl) (Std.k hS rfl rfl) (List.mem_cons_of_mem _ bw_3_17) dX5_goesOnWith_1 (M 3 3) rfl (fun hr1 => ?_)
  by_cases u2 : (M 3 3) = 0
  · skip
    refine v_tabIn X 32 dX5_goesOnWith_4 ⟨by omega, by omega⟩ (by omega) (by omega) (by rw [u2]; rfl) (by decide) ?_
    refine v_iload_n X 1 dX5_goesOnWith_32 rfl rfl ?_
    refine v_if_eq X 46 dX5_goesOnWith_33 (by decide) ⟨by omega, by omega⟩ (fun u3 => ?_) (fun u3 => ?_)
    · skip
      refine v_iconst X dX5_goesOnWith_46 ?_
      refine v_goto X 51 dX5_goesOnWith_47 (by decide) ?_
      refine hret _ _ _ _ _ _ _ _ _ _ _ (some (.int (iz 1))) dX5_goesOnWith_51 ⟨rfl, 1, ⟨by omega, by omega⟩, rfl⟩ (by decide) (by decide) (fun hmok => ?_)
      refine ⟨rfl, rfl, rfl, rfl, rfl, rfl, 1, rfl, Or.inl ⟨rfl, ?_⟩⟩
      first | (rw [goW_0 (show M 3 3 = 0 by omega)]; omega) | (rw [goW_1 (show M 3 3 = 1 by omega)]; omega) | (rw [goW_2 (show M 3 3 = 2 by omega)]; omega) | (rw [goW_3 (show M 3 3 ≠ 0 by omega) (show M 3 3 ≠ 1 by omega) (show M 3 3 ≠ 2 by omega)]; assumption)
    · skip
      refine v_iload_n X 1 dX5_goesOnWith_36 rfl rfl ?_
      refine v_iconst X dX5_goesOnWith_37 ?_
      refine v_icmp_eq X 46 dX5_goesOnWith_38 (by decide) ⟨by omega, by omega⟩ ⟨by decide, by decide⟩ (fun u4 => ?_) (fun u4 => ?_)
      · skip
        refine v_iconst X dX5_goesOnWith_46 ?_
        refine v_goto X 51 dX5_goesOnWith_47 (by decide) ?_
        refine hret _ _ _ _ _ _ _ _ _ _ _ (some (.int (iz 1))) dX5_goesOnWith_51 ⟨rfl, 1, ⟨by omega, by omega⟩, rfl⟩ (by decide) (by decide) (fun hmok => ?_)
        refine ⟨rfl, rfl, rfl, rfl, rfl, rfl, 1, rfl, Or.inl ⟨rfl, ?_⟩⟩
        first | (rw [goW_0 (show M 3 3 = 0 by omega)]; omega) | (rw [goW_1 (show M 3 3 = 1 by omega)]; omega) | (rw [goW_2 (show M 3 3 = 2 by omega)]; omega) | (rw [goW_3 (show M 3 3 ≠ 0 by omega) (show M 3 3 ≠ 1 by omega) (show M 3 3 ≠ 2 by omega)]; assumption)
      · skip
        refine v_iload_n X 1 dX5_goesOnWith_41 rfl rfl ?_
        refine v_iconst X dX5_goesOnWith_42 ?_
        refine v_icmp_ne X 50 dX5_goesOnWith_43 (by decide) ⟨by omega, by omega⟩ ⟨by decide, by decide⟩ (fun u5 => ?_) (fun u5 => ?_)
        · skip
          refine v_iconst X dX5_goesOnWith_50 ?_
          refine hret _ _ _ _ _ _ _ _ _ _ _ (some (.int (iz 0))) dX5_goesOnWith_51 ⟨rfl, 0, ⟨by omega, by omega⟩, rfl⟩ (by decide) (by decide) (fun hmok => ?_)
          refine ⟨rfl, rfl, rfl, rfl, rfl, rfl, 0, rfl, Or.inr ⟨rfl, ?_⟩⟩
          first | (rw [goW_0 (show M 3 3 = 0 by omega)]; omega) | (rw [goW_1 (show M 3 3 = 1 by omega)]; omega) | (rw [goW_2 (show M 3 3 = 2 by omega)]; omega) | (rw [goW_3 (show M 3 3 ≠ 0 by omega) (show M 3 3 ≠ 1 by omega) (show M 3 3 ≠ 2 by omega)]; assumption)
        · skip
          refine v_iconst X dX5_goesOnWith_46 ?_
          refine v_goto X 51 dX5_goesOnWith_47 (by decide) ?_
          refine hret _ _ _ _ _ _ _ _ _ _ _ (some (.int (iz 1))) dX5_goesOnWith_51 ⟨rfl, 1, ⟨by omega, by omega⟩, rfl⟩ (by decide) (by decide) (fun hmok => ?_)
          refine ⟨rfl, rfl, rfl, rfl, rfl, rfl, 1, rfl, Or.inl ⟨rfl, ?_⟩⟩
          first | (rw [goW_0 (show M 3 3 = 0 by omega)]; omega) | (rw [goW_1 (show M 3 3 = 1 by omega)]; omega) | (rw [goW_2 (show M 3 3 = 2 by omega)]; omega) | (rw [goW_3 (show M 3 3 ≠ 0 by omega) (show M 3 3 ≠ 1 by omega) (show M 3 3 ≠ 2 by omega)]; assumption)
  by_cases u6 : (M 3 3) = 1
  · skip
    refine v_tabIn X 52 dX5_goesOnWith_4 ⟨by omega, by omega⟩ (by omega) (by omega) (by rw [u6]; rfl) (by decide) ?_
    refine v_iload_n X 1 dX5_goesOnWith_52 rfl rfl ?_
    refine v_iconst X dX5_goesOnWith_53 ?_
    refine v_icmp_ne X 61 dX5_goesOnWith_54 (by decide) ⟨by omega, by omega⟩ ⟨by decide, by decide⟩ (fun u7 => ?_) (fun u7 => ?_)
    · skip
      refine v_iconst X dX5_goesOnWith_61 ?_
      refine hret _ _ _ _ _ _ _ _ _ _ _ (some (.int (iz 0))) dX5_goesOnWith_62 ⟨rfl, 0, ⟨by omega, by omega⟩, rfl⟩ (by decide) (by decide) (fun hmok => ?_)
      refine ⟨rfl, rfl, rfl, rfl, rfl, rfl, 0, rfl, Or.inr ⟨rfl, ?_⟩⟩
      first | (rw [goW_0 (show M 3 3 = 0 by omega)]; omega) | (rw [goW_1 (show M 3 3 = 1 by omega)]; omega) | (rw [goW_2 (show M 3 3 = 2 by omega)]; omega) | (rw [goW_3 (show M 3 3 ≠ 0 by omega) (show M 3 3 ≠ 1 by omega) (show M 3 3 ≠ 2 by omega)]; assumption)
    · skip
      refine v_iconst X dX5_goesOnWith_57 ?_
      refine v_goto X 62 dX5_goesOnWith_58 (by decide) ?_
      refine hret _ _ _ _ _ _ _ _ _ _ _ (some (.int (iz 1))) dX5_goesOnWith_62 ⟨rfl, 1, ⟨by omega, by omega⟩, rfl⟩ (by decide) (by decide) (fun hmok => ?_)
      refine ⟨rfl, rfl, rfl, rfl, rfl, rfl, 1, rfl, Or.inl ⟨rfl, ?_⟩⟩
      first | (rw [goW_0 (show M 3 3 = 0 by omega)]; omega) | (rw [goW_1 (show M 3 3 = 1 by omega)]; omega) | (rw [goW_2 (show M 3 3 = 2 by omega)]; omega) | (rw [goW_3 (show M 3 3 ≠ 0 by omega) (show M 3 3 ≠ 1 by omega) (show M 3 3 ≠ 2 by omega)]; assumption)
  by_cases u8 : (M 3 3) = 2
  · skip
    refine v_tabIn X 63 dX5_goesOnWith_4 ⟨by omega, by omega⟩ (by omega) (by omega) (by rw [u8]; rfl) (by decide) ?_
    refine v_iload_n X 1 dX5_goesOnWith_63 rfl rfl ?_
    refine v_bipush X dX5_goesOnWith_64 (by decide) ?_
    refine v_icmp_eq X 82 dX5_goesOnWith_66 (by decide) ⟨by omega, by omega⟩ ⟨by decide, by decide⟩ (fun u9 => ?_) (fun u9 => ?_)
    · skip
      refine v_iconst X dX5_goesOnWith_82 ?_
      refine v_goto X 87 dX5_goesOnWith_83 (by decide) ?_
      refine hret _ _ _ _ _ _ _ _ _ _ _ (some (.int (iz 1))) dX5_goesOnWith_87 ⟨rfl, 1, ⟨by omega, by omega⟩, rfl⟩ (by decide) (by decide) (fun hmok => ?_)
      refine ⟨rfl, rfl, rfl, rfl, rfl, rfl, 1, rfl, Or.inl ⟨rfl, ?_⟩⟩
      first | (rw [goW_0 (show M 3 3 = 0 by omega)]; omega) | (rw [goW_1 (show M 3 3 = 1 by omega)]; omega) | (rw [goW_2 (show M 3 3 = 2 by omega)]; omega) | (rw [goW_3 (show M 3 3 ≠ 0 by omega) (show M 3 3 ≠ 1 by omega) (show M 3 3 ≠ 2 by omega)]; assumption)
    · skip
      refine v_iload_n X 1 dX5_goesOnWith_69 rfl rfl ?_
      refine v_bipush X dX5_goesOnWith_70 (by decide) ?_
      refine v_icmp_eq X 82 dX5_goesOnWith_72 (by decide) ⟨by omega, by omega⟩ ⟨by decide, by decide⟩ (fun u10 => ?_) (fun u10 => ?_)
      · skip
        refine v_iconst X dX5_goesOnWith_82 ?_
        refine v_goto X 87 dX5_goesOnWith_83 (by decide) ?_
        refine hret _ _ _ _ _ _ _ _ _ _ _ (some (.int (iz 1))) dX5_goesOnWith_87 ⟨rfl, 1, ⟨by omega, by omega⟩, rfl⟩ (by decide) (by decide) (fun hmok => ?_)
        refine ⟨rfl, rfl, rfl, rfl, rfl, rfl, 1, rfl, Or.inl ⟨rfl, ?_⟩⟩
        first | (rw [goW_0 (show M 3 3 = 0 by omega)]; omega) | (rw [goW_1 (show M 3 3 = 1 by omega)]; omega) | (rw [goW_2 (show M 3 3 = 2 by omega)]; omega) | (rw [goW_3 (show M 3 3 ≠ 0 by omega) (show M 3 3 ≠ 1 by omega) (show M 3 3 ≠ 2 by omega)]; assumption)
      · skip
        refine v_iload_n X 1 dX5_goesOnWith_75 rfl rfl ?_
        refine v_callS X [.int (iz k)] hRm (c_X5_isVar _ _ _ k ⟨by omega, by omega⟩) (gS bw_16_11 bw_16_12 bw_1_18 bw_16_13) rfl ddX5_isVar (by decide) (Nat.le_of_ble_eq_true rfl) dX5_goesOnWith_76 (k_pB (fun b11 => ?_) (fun b11 => ?_))
        · skip
          refine v_if_eq X 86 dX5_goesOnWith_79 (by decide) ⟨by decide, by decide⟩ (fun q => absurd q (by decide)) (fun _ => ?_)
          refine v_iconst X dX5_goesOnWith_82 ?_
          refine v_goto X 87 dX5_goesOnWith_83 (by decide) ?_
          refine hret _ _ _ _ _ _ _ _ _ _ _ (some (.int (iz 1))) dX5_goesOnWith_87 ⟨rfl, 1, ⟨by omega, by omega⟩, rfl⟩ (by decide) (by decide) (fun hmok => ?_)
          refine ⟨rfl, rfl, rfl, rfl, rfl, rfl, 1, rfl, Or.inl ⟨rfl, ?_⟩⟩
          first | (rw [goW_0 (show M 3 3 = 0 by omega)]; omega) | (rw [goW_1 (show M 3 3 = 1 by omega)]; omega) | (rw [goW_2 (show M 3 3 = 2 by omega)]; omega) | (rw [goW_3 (show M 3 3 ≠ 0 by omega) (show M 3 3 ≠ 1 by omega) (show M 3 3 ≠ 2 by omega)]; assumption)
        · skip
          refine v_if_eq X 86 dX5_goesOnWith_79 (by decide) ⟨by decide, by decide⟩ (fun _ => ?_) (fun q => absurd (by decide) q)
          refine v_iconst X dX5_goesOnWith_86 ?_
          refine hret _ _ _ _ _ _ _ _ _ _ _ (some (.int (iz 0))) dX5_goesOnWith_87 ⟨rfl, 0, ⟨by omega, by omega⟩, rfl⟩ (by decide) (by decide) (fun hmok => ?_)
          refine ⟨rfl, rfl, rfl, rfl, rfl, rfl, 0, rfl, Or.inr ⟨rfl, ?_⟩⟩
          first | (rw [goW_0 (show M 3 3 = 0 by omega)]; omega) | (rw [goW_1 (show M 3 3 = 1 by omega)]; omega) | (rw [goW_2 (show M 3 3 = 2 by omega)]; omega) | (rw [goW_3 (show M 3 3 ≠ 0 by omega) (show M 3 3 ≠ 1 by omega) (show M 3 3 ≠ 2 by omega)]; assumption)
  refine v_tabOut X 88 dX5_goesOnWith_4 ⟨by omega, by omega⟩ (by omega) (by decide) ?_
  refine v_aload_n X 0 dX5_goesOnWith_88 rfl rfl ?_
  refine v_iload_n X 1 dX5_goesOnWith_89 rfl rfl ?_
  refine v_callV X [.int (iz k)] hRm (c_X5_goesOnBehindUnit _ _ _ hS k ⟨by omega, by omega⟩) (gV bw_16_14 bw_16_15 bw_16_16 bw_1_18 bw_16_17) rfl ddX5_goesOnBehindUnit (by decide) (Std.lt hS rfl) (Std.k hS rfl rfl) ⟨rfl, by decide⟩ (Nat.le_of_ble_eq_true rfl) dX5_goesOnWith_90 (k_pB (fun b12 => ?_) (fun b12 => ?_))
  · skip
    refine hret _ _ _ _ _ _ _ _ _ _ _ (some (.int (iz 1))) dX5_goesOnWith_93 ⟨rfl, 1, ⟨by omega, by omega⟩, rfl⟩ (by decide) (by decide) (fun hmok => ?_)
    refine ⟨rfl, rfl, rfl, rfl, rfl, rfl, 1, rfl, Or.inl ⟨rfl, ?_⟩⟩
    first | (rw [goW_0 (show M 3 3 = 0 by omega)]; omega) | (rw [goW_1 (show M 3 3 = 1 by omega)]; omega) | (rw [goW_2 (show M 3 3 = 2 by omega)]; omega) | (rw [goW_3 (show M 3 3 ≠ 0 by omega) (show M 3 3 ≠ 1 by omega) (show M 3 3 ≠ 2 by omega)]; assumption)
  · skip
    refine hret _ _ _ _ _ _ _ _ _ _ _ (some (.int (iz 0))) dX5_goesOnWith_93 ⟨rfl, 0, ⟨by omega, by omega⟩, rfl⟩ (by decide) (by decide) (fun hmok => ?_)
    refine ⟨rfl, rfl, rfl, rfl, rfl, rfl, 0, rfl, Or.inr ⟨rfl, ?_⟩⟩
    first | (rw [goW_0 (show M 3 3 = 0 by omega)]; omega) | (rw [goW_1 (show M 3 3 = 1 by omega)]; omega) | (rw [goW_2 (show M 3 3 = 2 by omega)]; omega) | (rw [goW_3 (show M 3 3 ≠ 0 by omega) (show M 3 3 ≠ 1 by omega) (show M 3 3 ≠ 2 by omega)]; assumption)

-- clear
set_option maxHeartbeats 4000000 in
set_option maxRecDepth 100000 in
theorem c_X10_clear_17 (l : Launch) (D : va_G) (cy : Nat → ClassId) {N : Nat} {sh : MS} {ad : Nat → Nat} {M L : MI} {R : MR} (hS : Std N sh R) : Ctr l D cy yX10_clear wsX10_clear ({ frames := 0, cells := 0, slots := 0, locals := 0 } : Room) N sh ad M L R [.ref (ad 17)] (eV N sh ad L R (fun M' => M' = (mu (mu M 17 6 0) 17 7 0))) := by
  refine Ctr.ofV (by decide) rfl (Nat.le_of_ble_eq_true rfl) ?_
  intro K hKl hKd hRm hnm X hret
  have X : VX K cX10_clear 1 wsX10_clear RX10 := X
  show V K 1 0 0 N sh ad M L R [(0, .ref (ad 17))] [] 0
  refine v_aload_n X 0 dX10_clear_0 rfl rfl ?_
  refine v_iconst X dX10_clear_1 ?_
  refine pt_X10_codeSize X iwX10 (Std.lt hS rfl) (Std.k hS rfl rfl) (List.mem_cons_of_mem _ bw_6_1) ⟨by decide, by decide⟩ dX10_clear_2 ?_
  refine v_aload_n X 0 dX10_clear_5 rfl rfl ?_
  refine v_iconst X dX10_clear_6 ?_
  refine pt_X10_size X iwX10 (Std.lt hS rfl) (Std.k hS rfl rfl) (List.mem_cons_of_mem _ bw_6_2) ⟨by decide, by decide⟩ dX10_clear_7 ?_
  refine hret _ _ _ _ _ _ _ _ _ _ _ none dX10_clear_10 ⟨rfl, rfl⟩ (by decide) (by decide) (fun hmok => ?_)
  refine ⟨rfl, rfl, rfl, rfl, rfl, rfl, ?_⟩
  try dsimp only
  all_goals rfl

-- isFull
set_option maxHeartbeats 4000000 in
set_option maxRecDepth 100000 in
theorem c_X10_isFull_17 (l : Launch) (D : va_G) (cy : Nat → ClassId) {N : Nat} {sh : MS} {ad : Nat → Nat} {M L : MI} {R : MR} (hS : Std N sh R) : Ctr l D cy yX10_isFull wsX10_isFull ({ frames := 0, cells := 0, slots := 0, locals := 0 } : Room) N sh ad M L R [.ref (ad 17)] (pB N sh ad M L R (16 ≤ M 17 7)) := by
  refine Ctr.ofZ (by decide) rfl (Nat.le_of_ble_eq_true rfl) ?_
  intro K hKl hKd hRm hnm X hret
  have X : VX K cX10_isFull 1 wsX10_isFull RX10 := X
  show V K 1 0 0 N sh ad M L R [(0, .ref (ad 17))] [] 0
  refine v_aload_n X 0 dX10_isFull_0 rfl rfl ?_
  refine gt_X10_size X iwX10 (Std.lt hS rfl) (Std.k hS rfl rfl) (List.mem_cons_of_mem _ bw_6_2) dX10_isFull_1 (M 17 7) rfl (fun hr1 => ?_)
  refine v_bipush X dX10_isFull_4 (by decide) ?_
  refine v_icmp_lt X 13 dX10_isFull_6 (by decide) ⟨by omega, by omega⟩ ⟨by decide, by decide⟩ (fun u2 => ?_) (fun u2 => ?_)
  · skip
    refine v_iconst X dX10_isFull_13 ?_
    refine hret _ _ _ _ _ _ _ _ _ _ _ (some (.int (iz 0))) dX10_isFull_14 ⟨rfl, 0, ⟨by omega, by omega⟩, rfl⟩ (by decide) (by decide) (fun hmok => ?_)
    refine ⟨rfl, rfl, rfl, rfl, rfl, rfl, 0, rfl, Or.inr ⟨rfl, ?_⟩⟩
    omega
  · skip
    refine v_iconst X dX10_isFull_9 ?_
    refine v_goto X 14 dX10_isFull_10 (by decide) ?_
    refine hret _ _ _ _ _ _ _ _ _ _ _ (some (.int (iz 1))) dX10_isFull_14 ⟨rfl, 1, ⟨by omega, by omega⟩, rfl⟩ (by decide) (by decide) (fun hmok => ?_)
    refine ⟨rfl, rfl, rfl, rfl, rfl, rfl, 1, rfl, Or.inl ⟨rfl, ?_⟩⟩
    omega

-- openRule
set_option maxHeartbeats 4000000 in
set_option maxRecDepth 100000 in
theorem c_X10_openRule_17 (l : Launch) (D : va_G) (cy : Nat → ClassId) {N : Nat} {sh : MS} {ad : Nat → Nat} {M L : MI} {R : MR} (hS : Std N sh R) (k : Int) (hk : inR k) (hz : 0 ≤ M 17 7 ∧ M 17 7 ≤ 16) : Ctr l D cy yX10_openRule wsX10_openRule ({ frames := 0, cells := 0, slots := 0, locals := 0 } : Room) N sh ad M L R [.ref (ad 17), .int (iz k)] (eV N sh ad L R (fun M' => M' = if M 17 7 < 16 then mu (mu (mu M 18 (M 17 7) k) 19 (M 17 7) (M 17 6)) 20 (M 17 7) (if k = 0 then M 17 6 else -1) else M)) := by
  refine Ctr.ofV (by decide) rfl (Nat.le_of_ble_eq_true rfl) ?_
  intro K hKl hKd hRm hnm X hret
  have X : VX K cX10_openRule 2 wsX10_openRule RX10 := X
  show V K 2 0 0 N sh ad M L R [(0, .ref (ad 17)), (1, .int (iz k))] [] 0
  refine v_aload_n X 0 dX10_openRule_0 rfl rfl ?_
  refine gt_X10_size X iwX10 (Std.lt hS rfl) (Std.k hS rfl rfl) (List.mem_cons_of_mem _ bw_6_2) dX10_openRule_1 (M 17 7) rfl (fun hr1 => ?_)
  refine v_bipush X dX10_openRule_4 (by decide) ?_
  refine v_icmp_ge X 53 dX10_openRule_6 (by decide) ⟨by omega, by omega⟩ ⟨by decide, by decide⟩ (fun u2 => ?_) (fun u2 => ?_)
  · skip
    refine hret _ _ _ _ _ _ _ _ _ _ _ none dX10_openRule_53 ⟨rfl, rfl⟩ (by decide) (by decide) (fun hmok => ?_)
    refine ⟨rfl, rfl, rfl, rfl, rfl, rfl, ?_⟩
    try dsimp only
    first | (rw [if_neg (show ¬ (M 17 7 < 16) by omega)]; done) | (rw [if_pos (show M 17 7 < 16 by omega), if_pos (show k = 0 by omega)]; done) | (rw [if_pos (show M 17 7 < 16 by omega), if_neg (show ¬ (k = 0) by omega)]; done)
  · skip
    refine v_aload_n X 0 dX10_openRule_9 rfl rfl ?_
    refine gt_X10_kinds X iwX10 (Std.lt hS rfl) (Std.k hS rfl rfl) (List.mem_cons_of_mem _ bw_5_19) dX10_openRule_10 18 (Std.r hS 0 rfl) ?_
    refine v_aload_n X 0 dX10_openRule_13 rfl rfl ?_
    refine gt_X10_size X iwX10 (Std.lt hS rfl) (Std.k hS rfl rfl) (List.mem_cons_of_mem _ bw_6_2) dX10_openRule_14 (M 17 7) rfl (fun hr3 => ?_)
    refine v_iload_n X 1 dX10_openRule_17 rfl rfl ?_
    refine v_iast X (Std.lt hS rfl) (Std.at hS rfl rfl) (by omega) (by omega) ⟨by omega, by omega⟩ dX10_openRule_18 ?_
    refine v_aload_n X 0 dX10_openRule_19 rfl rfl ?_
    refine gt_X10_starts X iwX10 (Std.lt hS rfl) (Std.k hS rfl rfl) (List.mem_cons_of_mem _ bw_5_20) dX10_openRule_20 19 (Std.r hS 1 rfl) ?_
    refine v_aload_n X 0 dX10_openRule_23 rfl rfl ?_
    refine gt_X10_size X iwX10 (Std.lt hS rfl) (Std.k hS rfl rfl) (List.mem_cons_of_mem _ bw_6_2) dX10_openRule_24 (M 17 7) rfl (fun hr4 => ?_)
    refine v_aload_n X 0 dX10_openRule_27 rfl rfl ?_
    refine gt_X10_codeSize X iwX10 (Std.lt hS rfl) (Std.k hS rfl rfl) (List.mem_cons_of_mem _ bw_6_1) dX10_openRule_28 (M 17 6) rfl (fun hr5 => ?_)
    refine v_iast X (Std.lt hS rfl) (Std.at hS rfl rfl) (by omega) (by omega) ⟨by omega, by omega⟩ dX10_openRule_31 ?_
    refine v_aload_n X 0 dX10_openRule_32 rfl rfl ?_
    refine gt_X10_conditions X iwX10 (Std.lt hS rfl) (Std.k hS rfl rfl) (List.mem_cons_of_mem _ bw_5_21) dX10_openRule_33 20 (Std.r hS 2 rfl) ?_
    refine v_aload_n X 0 dX10_openRule_36 rfl rfl ?_
    refine gt_X10_size X iwX10 (Std.lt hS rfl) (Std.k hS rfl rfl) (List.mem_cons_of_mem _ bw_6_2) dX10_openRule_37 (M 17 7) rfl (fun hr6 => ?_)
    refine v_iload_n X 1 dX10_openRule_40 rfl rfl ?_
    refine v_if_ne X 51 dX10_openRule_41 (by decide) ⟨by omega, by omega⟩ (fun u7 => ?_) (fun u7 => ?_)
    · skip
      refine v_iconst X dX10_openRule_51 ?_
      refine v_iast X (Std.lt hS rfl) (Std.at hS rfl rfl) (by omega) (by omega) ⟨by decide, by decide⟩ dX10_openRule_52 ?_
      refine hret _ _ _ _ _ _ _ _ _ _ _ none dX10_openRule_53 ⟨rfl, rfl⟩ (by decide) (by decide) (fun hmok => ?_)
      refine ⟨rfl, rfl, rfl, rfl, rfl, rfl, ?_⟩
      try dsimp only
      first | (rw [if_neg (show ¬ (M 17 7 < 16) by omega)]; done) | (rw [if_pos (show M 17 7 < 16 by omega), if_pos (show k = 0 by omega)]; done) | (rw [if_pos (show M 17 7 < 16 by omega), if_neg (show ¬ (k = 0) by omega)]; done)
    · skip
      refine v_aload_n X 0 dX10_openRule_44 rfl rfl ?_
      refine gt_X10_codeSize X iwX10 (Std.lt hS rfl) (Std.k hS rfl rfl) (List.mem_cons_of_mem _ bw_6_1) dX10_openRule_45 (M 17 6) rfl (fun hr8 => ?_)
      refine v_goto X 52 dX10_openRule_48 (by decide) ?_
      refine v_iast X (Std.lt hS rfl) (Std.at hS rfl rfl) (by omega) (by omega) ⟨by omega, by omega⟩ dX10_openRule_52 ?_
      refine hret _ _ _ _ _ _ _ _ _ _ _ none dX10_openRule_53 ⟨rfl, rfl⟩ (by decide) (by decide) (fun hmok => ?_)
      refine ⟨rfl, rfl, rfl, rfl, rfl, rfl, ?_⟩
      try dsimp only
      first | (rw [if_neg (show ¬ (M 17 7 < 16) by omega)]; done) | (rw [if_pos (show M 17 7 < 16 by omega), if_pos (show k = 0 by omega)]; done) | (rw [if_pos (show M 17 7 < 16 by omega), if_neg (show ¬ (k = 0) by omega)]; done)

-- openCondition
set_option maxHeartbeats 4000000 in
set_option maxRecDepth 100000 in
theorem c_X10_openCondition_17 (l : Launch) (D : va_G) (cy : Nat → ClassId) {N : Nat} {sh : MS} {ad : Nat → Nat} {M L : MI} {R : MR} (hS : Std N sh R) (hz : 0 ≤ M 17 7 ∧ M 17 7 ≤ 16) : Ctr l D cy yX10_openCondition wsX10_openCondition ({ frames := 0, cells := 0, slots := 0, locals := 0 } : Room) N sh ad M L R [.ref (ad 17)] (eV N sh ad L R (fun M' => M' = if M 17 7 < 16 then mu M 20 (M 17 7) (M 17 6) else M)) := by
  refine Ctr.ofV (by decide) rfl (Nat.le_of_ble_eq_true rfl) ?_
  intro K hKl hKd hRm hnm X hret
  have X : VX K cX10_openCondition 1 wsX10_openCondition RX10 := X
  show V K 1 0 0 N sh ad M L R [(0, .ref (ad 17))] [] 0
  refine v_aload_n X 0 dX10_openCondition_0 rfl rfl ?_
  refine gt_X10_size X iwX10 (Std.lt hS rfl) (Std.k hS rfl rfl) (List.mem_cons_of_mem _ bw_6_2) dX10_openCondition_1 (M 17 7) rfl (fun hr1 => ?_)
  refine v_bipush X dX10_openCondition_4 (by decide) ?_
  refine v_icmp_ge X 22 dX10_openCondition_6 (by decide) ⟨by omega, by omega⟩ ⟨by decide, by decide⟩ (fun u2 => ?_) (fun u2 => ?_)
  · skip
    refine hret _ _ _ _ _ _ _ _ _ _ _ none dX10_openCondition_22 ⟨rfl, rfl⟩ (by decide) (by decide) (fun hmok => ?_)
    refine ⟨rfl, rfl, rfl, rfl, rfl, rfl, ?_⟩
    try dsimp only
    first | (rw [if_neg (by omega)]; done) | (rw [if_neg (by omega)]; rfl) | (rw [if_pos (by omega)]; done) | (rw [if_pos (by omega)]; rfl)
  · skip
    refine v_aload_n X 0 dX10_openCondition_9 rfl rfl ?_
    refine gt_X10_conditions X iwX10 (Std.lt hS rfl) (Std.k hS rfl rfl) (List.mem_cons_of_mem _ bw_5_21) dX10_openCondition_10 20 (Std.r hS 2 rfl) ?_
    refine v_aload_n X 0 dX10_openCondition_13 rfl rfl ?_
    refine gt_X10_size X iwX10 (Std.lt hS rfl) (Std.k hS rfl rfl) (List.mem_cons_of_mem _ bw_6_2) dX10_openCondition_14 (M 17 7) rfl (fun hr3 => ?_)
    refine v_aload_n X 0 dX10_openCondition_17 rfl rfl ?_
    refine gt_X10_codeSize X iwX10 (Std.lt hS rfl) (Std.k hS rfl rfl) (List.mem_cons_of_mem _ bw_6_1) dX10_openCondition_18 (M 17 6) rfl (fun hr4 => ?_)
    refine v_iast X (Std.lt hS rfl) (Std.at hS rfl rfl) (by omega) (by omega) ⟨by omega, by omega⟩ dX10_openCondition_21 ?_
    refine hret _ _ _ _ _ _ _ _ _ _ _ none dX10_openCondition_22 ⟨rfl, rfl⟩ (by decide) (by decide) (fun hmok => ?_)
    refine ⟨rfl, rfl, rfl, rfl, rfl, rfl, ?_⟩
    try dsimp only
    first | (rw [if_neg (by omega)]; done) | (rw [if_neg (by omega)]; rfl) | (rw [if_pos (by omega)]; done) | (rw [if_pos (by omega)]; rfl)

-- closeRule
set_option maxHeartbeats 4000000 in
set_option maxRecDepth 100000 in
theorem c_X10_closeRule_17 (l : Launch) (D : va_G) (cy : Nat → ClassId) {N : Nat} {sh : MS} {ad : Nat → Nat} {M L : MI} {R : MR} (hS : Std N sh R) (hz : 0 ≤ M 17 7 ∧ M 17 7 ≤ 16) : Ctr l D cy yX10_closeRule wsX10_closeRule ({ frames := 0, cells := 0, slots := 0, locals := 0 } : Room) N sh ad M L R [.ref (ad 17)] (eV N sh ad L R (fun M' => M' = if M 17 7 < 16 then (if M 20 (M 17 7) = -1 then mu (mu (mu M 21 (M 17 7) (M 17 6)) 20 (M 17 7) (M 17 6)) 17 7 (M 17 7 + 1) else mu (mu M 21 (M 17 7) (M 17 6)) 17 7 (M 17 7 + 1)) else M)) := by
  refine Ctr.ofV (by decide) rfl (Nat.le_of_ble_eq_true rfl) ?_
  intro K hKl hKd hRm hnm X hret
  have X : VX K cX10_closeRule 1 wsX10_closeRule RX10 := X
  show V K 1 0 0 N sh ad M L R [(0, .ref (ad 17))] [] 0
  refine v_aload_n X 0 dX10_closeRule_0 rfl rfl ?_
  refine gt_X10_size X iwX10 (Std.lt hS rfl) (Std.k hS rfl rfl) (List.mem_cons_of_mem _ bw_6_2) dX10_closeRule_1 (M 17 7) rfl (fun hr1 => ?_)
  refine v_bipush X dX10_closeRule_4 (by decide) ?_
  refine v_icmp_ge X 58 dX10_closeRule_6 (by decide) ⟨by omega, by omega⟩ ⟨by decide, by decide⟩ (fun u2 => ?_) (fun u2 => ?_)
  · skip
    refine hret _ _ _ _ _ _ _ _ _ _ _ none dX10_closeRule_58 ⟨rfl, rfl⟩ (by decide) (by decide) (fun hmok => ?_)
    refine ⟨rfl, rfl, rfl, rfl, rfl, rfl, ?_⟩
    try dsimp only
    first | (rw [if_neg (show ¬ (M 17 7 < 16) by omega)]; done) | (rw [if_pos (show M 17 7 < 16 by omega), if_pos (show M 20 (M 17 7) = -1 by omega)]; done) | (rw [if_pos (show M 17 7 < 16 by omega), if_neg (show ¬ (M 20 (M 17 7) = -1) by omega)]; done)
  · skip
    refine v_aload_n X 0 dX10_closeRule_9 rfl rfl ?_
    refine gt_X10_ends X iwX10 (Std.lt hS rfl) (Std.k hS rfl rfl) (List.mem_cons_of_mem _ bw_5_22) dX10_closeRule_10 21 (Std.r hS 3 rfl) ?_
    refine v_aload_n X 0 dX10_closeRule_13 rfl rfl ?_
    refine gt_X10_size X iwX10 (Std.lt hS rfl) (Std.k hS rfl rfl) (List.mem_cons_of_mem _ bw_6_2) dX10_closeRule_14 (M 17 7) rfl (fun hr3 => ?_)
    refine v_aload_n X 0 dX10_closeRule_17 rfl rfl ?_
    refine gt_X10_codeSize X iwX10 (Std.lt hS rfl) (Std.k hS rfl rfl) (List.mem_cons_of_mem _ bw_6_1) dX10_closeRule_18 (M 17 6) rfl (fun hr4 => ?_)
    refine v_iast X (Std.lt hS rfl) (Std.at hS rfl rfl) (by omega) (by omega) ⟨by omega, by omega⟩ dX10_closeRule_21 ?_
    refine v_aload_n X 0 dX10_closeRule_22 rfl rfl ?_
    refine gt_X10_conditions X iwX10 (Std.lt hS rfl) (Std.k hS rfl rfl) (List.mem_cons_of_mem _ bw_5_21) dX10_closeRule_23 20 (Std.r hS 2 rfl) ?_
    refine v_aload_n X 0 dX10_closeRule_26 rfl rfl ?_
    refine gt_X10_size X iwX10 (Std.lt hS rfl) (Std.k hS rfl rfl) (List.mem_cons_of_mem _ bw_6_2) dX10_closeRule_27 (M 17 7) rfl (fun hr5 => ?_)
    refine v_iald X (M 20 (M 17 7)) (Std.lt hS rfl) (Std.at hS rfl rfl) (by omega) (by omega) dX10_closeRule_30 rfl (fun hr6 => ?_)
    refine v_iconst X dX10_closeRule_31 ?_
    refine v_icmp_ne X 48 dX10_closeRule_32 (by decide) ⟨by omega, by omega⟩ ⟨by decide, by decide⟩ (fun u7 => ?_) (fun u7 => ?_)
    · skip
      refine v_aload_n X 0 dX10_closeRule_48 rfl rfl ?_
      refine v_dup X dX10_closeRule_49 rfl ?_
      refine gt_X10_size X iwX10 (Std.lt hS rfl) (Std.k hS rfl rfl) (List.mem_cons_of_mem _ bw_6_2) dX10_closeRule_50 (M 17 7) rfl (fun hr8 => ?_)
      refine v_iconst X dX10_closeRule_53 ?_
      refine v_iadd X dX10_closeRule_54 ?_
      refine pt_X10_size X iwX10 (Std.lt hS rfl) (Std.k hS rfl rfl) (List.mem_cons_of_mem _ bw_6_2) ⟨by omega, by omega⟩ dX10_closeRule_55 ?_
      refine hret _ _ _ _ _ _ _ _ _ _ _ none dX10_closeRule_58 ⟨rfl, rfl⟩ (by decide) (by decide) (fun hmok => ?_)
      refine ⟨rfl, rfl, rfl, rfl, rfl, rfl, ?_⟩
      try dsimp only
      first | (rw [if_neg (show ¬ (M 17 7 < 16) by omega)]; done) | (rw [if_pos (show M 17 7 < 16 by omega), if_pos (show M 20 (M 17 7) = -1 by omega)]; done) | (rw [if_pos (show M 17 7 < 16 by omega), if_neg (show ¬ (M 20 (M 17 7) = -1) by omega)]; done)
    · skip
      refine v_aload_n X 0 dX10_closeRule_35 rfl rfl ?_
      refine gt_X10_conditions X iwX10 (Std.lt hS rfl) (Std.k hS rfl rfl) (List.mem_cons_of_mem _ bw_5_21) dX10_closeRule_36 20 (Std.r hS 2 rfl) ?_
      refine v_aload_n X 0 dX10_closeRule_39 rfl rfl ?_
      refine gt_X10_size X iwX10 (Std.lt hS rfl) (Std.k hS rfl rfl) (List.mem_cons_of_mem _ bw_6_2) dX10_closeRule_40 (M 17 7) rfl (fun hr9 => ?_)
      refine v_aload_n X 0 dX10_closeRule_43 rfl rfl ?_
      refine gt_X10_codeSize X iwX10 (Std.lt hS rfl) (Std.k hS rfl rfl) (List.mem_cons_of_mem _ bw_6_1) dX10_closeRule_44 (M 17 6) rfl (fun hr10 => ?_)
      refine v_iast X (Std.lt hS rfl) (Std.at hS rfl rfl) (by omega) (by omega) ⟨by omega, by omega⟩ dX10_closeRule_47 ?_
      refine v_aload_n X 0 dX10_closeRule_48 rfl rfl ?_
      refine v_dup X dX10_closeRule_49 rfl ?_
      refine gt_X10_size X iwX10 (Std.lt hS rfl) (Std.k hS rfl rfl) (List.mem_cons_of_mem _ bw_6_2) dX10_closeRule_50 (M 17 7) rfl (fun hr11 => ?_)
      refine v_iconst X dX10_closeRule_53 ?_
      refine v_iadd X dX10_closeRule_54 ?_
      refine pt_X10_size X iwX10 (Std.lt hS rfl) (Std.k hS rfl rfl) (List.mem_cons_of_mem _ bw_6_2) ⟨by omega, by omega⟩ dX10_closeRule_55 ?_
      refine hret _ _ _ _ _ _ _ _ _ _ _ none dX10_closeRule_58 ⟨rfl, rfl⟩ (by decide) (by decide) (fun hmok => ?_)
      refine ⟨rfl, rfl, rfl, rfl, rfl, rfl, ?_⟩
      try dsimp only
      first | (rw [if_neg (show ¬ (M 17 7 < 16) by omega)]; done) | (rw [if_pos (show M 17 7 < 16 by omega), if_pos (show M 20 (M 17 7) = -1 by omega)]; done) | (rw [if_pos (show M 17 7 < 16 by omega), if_neg (show ¬ (M 20 (M 17 7) = -1) by omega)]; done)

-- emit
set_option maxHeartbeats 4000000 in
set_option maxRecDepth 100000 in
theorem c_X10_emit_17 (l : Launch) (D : va_G) (cy : Nat → ClassId) {N : Nat} {sh : MS} {ad : Nat → Nat} {M L : MI} {R : MR} (hS : Std N sh R) (k v : Int) (hk : inR k) (hv : inR v) (hz : 0 ≤ M 17 6 ∧ M 17 6 ≤ 400) : Ctr l D cy yX10_emit wsX10_emit ({ frames := 0, cells := 0, slots := 0, locals := 0 } : Room) N sh ad M L R [.ref (ad 17), .int (iz k), .int (iz v)] (eV N sh ad L R (fun M' => M' = if M 17 6 < 400 then mu (mu M 22 (M 17 6) (emC k v)) 17 6 (M 17 6 + 1) else M)) := by
  refine Ctr.ofV (by decide) rfl (Nat.le_of_ble_eq_true rfl) ?_
  intro K hKl hKd hRm hnm X hret
  have X : VX K cX10_emit 3 wsX10_emit RX10 := X
  show V K 3 0 0 N sh ad M L R [(0, .ref (ad 17)), (1, .int (iz k)), (2, .int (iz v))] [] 0
  refine v_aload_n X 0 dX10_emit_0 rfl rfl ?_
  refine gt_X10_codeSize X iwX10 (Std.lt hS rfl) (Std.k hS rfl rfl) (List.mem_cons_of_mem _ bw_6_1) dX10_emit_1 (M 17 6) rfl (fun hr1 => ?_)
  refine v_sipush X dX10_emit_4 (by decide) ?_
  refine v_icmp_ge X 34 dX10_emit_7 (by decide) ⟨by omega, by omega⟩ ⟨by decide, by decide⟩ (fun u2 => ?_) (fun u2 => ?_)
  · skip
    refine hret _ _ _ _ _ _ _ _ _ _ _ none dX10_emit_34 ⟨rfl, rfl⟩ (by decide) (by decide) (fun hmok => ?_)
    refine ⟨rfl, rfl, rfl, rfl, rfl, rfl, ?_⟩
    try dsimp only
    first | (rw [if_neg (by omega)]; done) | (rw [if_neg (by omega)]; rfl) | (rw [if_pos (by omega)]; done) | (rw [if_pos (by omega)]; rfl)
  · skip
    refine v_aload_n X 0 dX10_emit_10 rfl rfl ?_
    refine gt_X10_code X iwX10 (Std.lt hS rfl) (Std.k hS rfl rfl) (List.mem_cons_of_mem _ bw_5_23) dX10_emit_11 22 (Std.r hS 4 rfl) ?_
    refine v_aload_n X 0 dX10_emit_14 rfl rfl ?_
    refine gt_X10_codeSize X iwX10 (Std.lt hS rfl) (Std.k hS rfl rfl) (List.mem_cons_of_mem _ bw_6_1) dX10_emit_15 (M 17 6) rfl (fun hr3 => ?_)
    refine v_iload_n X 2 dX10_emit_18 rfl rfl ?_
    refine v_iconst X dX10_emit_19 ?_
    refine v_ishl X (shlI v 5) dX10_emit_20 (iz_self _).symm ?_
    refine v_iload_n X 1 dX10_emit_21 rfl rfl ?_
    refine v_ior X (emC k v) dX10_emit_22 (iz_self _).symm ?_
    have hem : inR (emC k v) := iz_rng _
    refine v_iast X (Std.lt hS rfl) (Std.at hS rfl rfl) (by omega) (by omega) ⟨by omega, by omega⟩ dX10_emit_23 ?_
    refine v_aload_n X 0 dX10_emit_24 rfl rfl ?_
    refine v_dup X dX10_emit_25 rfl ?_
    refine gt_X10_codeSize X iwX10 (Std.lt hS rfl) (Std.k hS rfl rfl) (List.mem_cons_of_mem _ bw_6_1) dX10_emit_26 (M 17 6) rfl (fun hr4 => ?_)
    refine v_iconst X dX10_emit_29 ?_
    refine v_iadd X dX10_emit_30 ?_
    refine pt_X10_codeSize X iwX10 (Std.lt hS rfl) (Std.k hS rfl rfl) (List.mem_cons_of_mem _ bw_6_1) ⟨by omega, by omega⟩ dX10_emit_31 ?_
    refine hret _ _ _ _ _ _ _ _ _ _ _ none dX10_emit_34 ⟨rfl, rfl⟩ (by decide) (by decide) (fun hmok => ?_)
    refine ⟨rfl, rfl, rfl, rfl, rfl, rfl, ?_⟩
    try dsimp only
    first | (rw [if_neg (by omega)]; done) | (rw [if_neg (by omega)]; rfl) | (rw [if_pos (by omega)]; done) | (rw [if_pos (by omega)]; rfl)

-- clear
set_option maxHeartbeats 4000000 in
set_option maxRecDepth 100000 in
theorem c_X10_clear_24 (l : Launch) (D : va_G) (cy : Nat → ClassId) {N : Nat} {sh : MS} {ad : Nat → Nat} {M L : MI} {R : MR} (hS : Std N sh R) : Ctr l D cy yX10_clear wsX10_clear ({ frames := 0, cells := 0, slots := 0, locals := 0 } : Room) N sh ad M L R [.ref (ad 24)] (eV N sh ad L R (fun M' => M' = (mu (mu M 24 6 0) 24 7 0))) := by
  refine Ctr.ofV (by decide) rfl (Nat.le_of_ble_eq_true rfl) ?_
  intro K hKl hKd hRm hnm X hret
  have X : VX K cX10_clear 1 wsX10_clear RX10 := X
  show V K 1 0 0 N sh ad M L R [(0, .ref (ad 24))] [] 0
  refine v_aload_n X 0 dX10_clear_0 rfl rfl ?_
  refine v_iconst X dX10_clear_1 ?_
  refine pt_X10_codeSize X iwX10 (Std.lt hS rfl) (Std.k hS rfl rfl) (List.mem_cons_of_mem _ bw_6_1) ⟨by decide, by decide⟩ dX10_clear_2 ?_
  refine v_aload_n X 0 dX10_clear_5 rfl rfl ?_
  refine v_iconst X dX10_clear_6 ?_
  refine pt_X10_size X iwX10 (Std.lt hS rfl) (Std.k hS rfl rfl) (List.mem_cons_of_mem _ bw_6_2) ⟨by decide, by decide⟩ dX10_clear_7 ?_
  refine hret _ _ _ _ _ _ _ _ _ _ _ none dX10_clear_10 ⟨rfl, rfl⟩ (by decide) (by decide) (fun hmok => ?_)
  refine ⟨rfl, rfl, rfl, rfl, rfl, rfl, ?_⟩
  try dsimp only
  all_goals rfl

-- isFull
set_option maxHeartbeats 4000000 in
set_option maxRecDepth 100000 in
theorem c_X10_isFull_24 (l : Launch) (D : va_G) (cy : Nat → ClassId) {N : Nat} {sh : MS} {ad : Nat → Nat} {M L : MI} {R : MR} (hS : Std N sh R) : Ctr l D cy yX10_isFull wsX10_isFull ({ frames := 0, cells := 0, slots := 0, locals := 0 } : Room) N sh ad M L R [.ref (ad 24)] (pB N sh ad M L R (16 ≤ M 24 7)) := by
  refine Ctr.ofZ (by decide) rfl (Nat.le_of_ble_eq_true rfl) ?_
  intro K hKl hKd hRm hnm X hret
  have X : VX K cX10_isFull 1 wsX10_isFull RX10 := X
  show V K 1 0 0 N sh ad M L R [(0, .ref (ad 24))] [] 0
  refine v_aload_n X 0 dX10_isFull_0 rfl rfl ?_
  refine gt_X10_size X iwX10 (Std.lt hS rfl) (Std.k hS rfl rfl) (List.mem_cons_of_mem _ bw_6_2) dX10_isFull_1 (M 24 7) rfl (fun hr1 => ?_)
  refine v_bipush X dX10_isFull_4 (by decide) ?_
  refine v_icmp_lt X 13 dX10_isFull_6 (by decide) ⟨by omega, by omega⟩ ⟨by decide, by decide⟩ (fun u2 => ?_) (fun u2 => ?_)
  · skip
    refine v_iconst X dX10_isFull_13 ?_
    refine hret _ _ _ _ _ _ _ _ _ _ _ (some (.int (iz 0))) dX10_isFull_14 ⟨rfl, 0, ⟨by omega, by omega⟩, rfl⟩ (by decide) (by decide) (fun hmok => ?_)
    refine ⟨rfl, rfl, rfl, rfl, rfl, rfl, 0, rfl, Or.inr ⟨rfl, ?_⟩⟩
    omega
  · skip
    refine v_iconst X dX10_isFull_9 ?_
    refine v_goto X 14 dX10_isFull_10 (by decide) ?_
    refine hret _ _ _ _ _ _ _ _ _ _ _ (some (.int (iz 1))) dX10_isFull_14 ⟨rfl, 1, ⟨by omega, by omega⟩, rfl⟩ (by decide) (by decide) (fun hmok => ?_)
    refine ⟨rfl, rfl, rfl, rfl, rfl, rfl, 1, rfl, Or.inl ⟨rfl, ?_⟩⟩
    omega

-- openRule
set_option maxHeartbeats 4000000 in
set_option maxRecDepth 100000 in
theorem c_X10_openRule_24 (l : Launch) (D : va_G) (cy : Nat → ClassId) {N : Nat} {sh : MS} {ad : Nat → Nat} {M L : MI} {R : MR} (hS : Std N sh R) (k : Int) (hk : inR k) (hz : 0 ≤ M 24 7 ∧ M 24 7 ≤ 16) : Ctr l D cy yX10_openRule wsX10_openRule ({ frames := 0, cells := 0, slots := 0, locals := 0 } : Room) N sh ad M L R [.ref (ad 24), .int (iz k)] (eV N sh ad L R (fun M' => M' = if M 24 7 < 16 then mu (mu (mu M 25 (M 24 7) k) 26 (M 24 7) (M 24 6)) 27 (M 24 7) (if k = 0 then M 24 6 else -1) else M)) := by
  refine Ctr.ofV (by decide) rfl (Nat.le_of_ble_eq_true rfl) ?_
  intro K hKl hKd hRm hnm X hret
  have X : VX K cX10_openRule 2 wsX10_openRule RX10 := X
  show V K 2 0 0 N sh ad M L R [(0, .ref (ad 24)), (1, .int (iz k))] [] 0
  refine v_aload_n X 0 dX10_openRule_0 rfl rfl ?_
  refine gt_X10_size X iwX10 (Std.lt hS rfl) (Std.k hS rfl rfl) (List.mem_cons_of_mem _ bw_6_2) dX10_openRule_1 (M 24 7) rfl (fun hr1 => ?_)
  refine v_bipush X dX10_openRule_4 (by decide) ?_
  refine v_icmp_ge X 53 dX10_openRule_6 (by decide) ⟨by omega, by omega⟩ ⟨by decide, by decide⟩ (fun u2 => ?_) (fun u2 => ?_)
  · skip
    refine hret _ _ _ _ _ _ _ _ _ _ _ none dX10_openRule_53 ⟨rfl, rfl⟩ (by decide) (by decide) (fun hmok => ?_)
    refine ⟨rfl, rfl, rfl, rfl, rfl, rfl, ?_⟩
    try dsimp only
    first | (rw [if_neg (show ¬ (M 24 7 < 16) by omega)]; done) | (rw [if_pos (show M 24 7 < 16 by omega), if_pos (show k = 0 by omega)]; done) | (rw [if_pos (show M 24 7 < 16 by omega), if_neg (show ¬ (k = 0) by omega)]; done)
  · skip
    refine v_aload_n X 0 dX10_openRule_9 rfl rfl ?_
    refine gt_X10_kinds X iwX10 (Std.lt hS rfl) (Std.k hS rfl rfl) (List.mem_cons_of_mem _ bw_5_19) dX10_openRule_10 25 (Std.r hS 0 rfl) ?_
    refine v_aload_n X 0 dX10_openRule_13 rfl rfl ?_
    refine gt_X10_size X iwX10 (Std.lt hS rfl) (Std.k hS rfl rfl) (List.mem_cons_of_mem _ bw_6_2) dX10_openRule_14 (M 24 7) rfl (fun hr3 => ?_)
    refine v_iload_n X 1 dX10_openRule_17 rfl rfl ?_
    refine v_iast X (Std.lt hS rfl) (Std.at hS rfl rfl) (by omega) (by omega) ⟨by omega, by omega⟩ dX10_openRule_18 ?_
    refine v_aload_n X 0 dX10_openRule_19 rfl rfl ?_
    refine gt_X10_starts X iwX10 (Std.lt hS rfl) (Std.k hS rfl rfl) (List.mem_cons_of_mem _ bw_5_20) dX10_openRule_20 26 (Std.r hS 1 rfl) ?_
    refine v_aload_n X 0 dX10_openRule_23 rfl rfl ?_
    refine gt_X10_size X iwX10 (Std.lt hS rfl) (Std.k hS rfl rfl) (List.mem_cons_of_mem _ bw_6_2) dX10_openRule_24 (M 24 7) rfl (fun hr4 => ?_)
    refine v_aload_n X 0 dX10_openRule_27 rfl rfl ?_
    refine gt_X10_codeSize X iwX10 (Std.lt hS rfl) (Std.k hS rfl rfl) (List.mem_cons_of_mem _ bw_6_1) dX10_openRule_28 (M 24 6) rfl (fun hr5 => ?_)
    refine v_iast X (Std.lt hS rfl) (Std.at hS rfl rfl) (by omega) (by omega) ⟨by omega, by omega⟩ dX10_openRule_31 ?_
    refine v_aload_n X 0 dX10_openRule_32 rfl rfl ?_
    refine gt_X10_conditions X iwX10 (Std.lt hS rfl) (Std.k hS rfl rfl) (List.mem_cons_of_mem _ bw_5_21) dX10_openRule_33 27 (Std.r hS 2 rfl) ?_
    refine v_aload_n X 0 dX10_openRule_36 rfl rfl ?_
    refine gt_X10_size X iwX10 (Std.lt hS rfl) (Std.k hS rfl rfl) (List.mem_cons_of_mem _ bw_6_2) dX10_openRule_37 (M 24 7) rfl (fun hr6 => ?_)
    refine v_iload_n X 1 dX10_openRule_40 rfl rfl ?_
    refine v_if_ne X 51 dX10_openRule_41 (by decide) ⟨by omega, by omega⟩ (fun u7 => ?_) (fun u7 => ?_)
    · skip
      refine v_iconst X dX10_openRule_51 ?_
      refine v_iast X (Std.lt hS rfl) (Std.at hS rfl rfl) (by omega) (by omega) ⟨by decide, by decide⟩ dX10_openRule_52 ?_
      refine hret _ _ _ _ _ _ _ _ _ _ _ none dX10_openRule_53 ⟨rfl, rfl⟩ (by decide) (by decide) (fun hmok => ?_)
      refine ⟨rfl, rfl, rfl, rfl, rfl, rfl, ?_⟩
      try dsimp only
      first | (rw [if_neg (show ¬ (M 24 7 < 16) by omega)]; done) | (rw [if_pos (show M 24 7 < 16 by omega), if_pos (show k = 0 by omega)]; done) | (rw [if_pos (show M 24 7 < 16 by omega), if_neg (show ¬ (k = 0) by omega)]; done)
    · skip
      refine v_aload_n X 0 dX10_openRule_44 rfl rfl ?_
      refine gt_X10_codeSize X iwX10 (Std.lt hS rfl) (Std.k hS rfl rfl) (List.mem_cons_of_mem _ bw_6_1) dX10_openRule_45 (M 24 6) rfl (fun hr8 => ?_)
      refine v_goto X 52 dX10_openRule_48 (by decide) ?_
      refine v_iast X (Std.lt hS rfl) (Std.at hS rfl rfl) (by omega) (by omega) ⟨by omega, by omega⟩ dX10_openRule_52 ?_
      refine hret _ _ _ _ _ _ _ _ _ _ _ none dX10_openRule_53 ⟨rfl, rfl⟩ (by decide) (by decide) (fun hmok => ?_)
      refine ⟨rfl, rfl, rfl, rfl, rfl, rfl, ?_⟩
      try dsimp only
      first | (rw [if_neg (show ¬ (M 24 7 < 16) by omega)]; done) | (rw [if_pos (show M 24 7 < 16 by omega), if_pos (show k = 0 by omega)]; done) | (rw [if_pos (show M 24 7 < 16 by omega), if_neg (show ¬ (k = 0) by omega)]; done)

-- openCondition
set_option maxHeartbeats 4000000 in
set_option maxRecDepth 100000 in
theorem c_X10_openCondition_24 (l : Launch) (D : va_G) (cy : Nat → ClassId) {N : Nat} {sh : MS} {ad : Nat → Nat} {M L : MI} {R : MR} (hS : Std N sh R) (hz : 0 ≤ M 24 7 ∧ M 24 7 ≤ 16) : Ctr l D cy yX10_openCondition wsX10_openCondition ({ frames := 0, cells := 0, slots := 0, locals := 0 } : Room) N sh ad M L R [.ref (ad 24)] (eV N sh ad L R (fun M' => M' = if M 24 7 < 16 then mu M 27 (M 24 7) (M 24 6) else M)) := by
  refine Ctr.ofV (by decide) rfl (Nat.le_of_ble_eq_true rfl) ?_
  intro K hKl hKd hRm hnm X hret
  have X : VX K cX10_openCondition 1 wsX10_openCondition RX10 := X
  show V K 1 0 0 N sh ad M L R [(0, .ref (ad 24))] [] 0
  refine v_aload_n X 0 dX10_openCondition_0 rfl rfl ?_
  refine gt_X10_size X iwX10 (Std.lt hS rfl) (Std.k hS rfl rfl) (List.mem_cons_of_mem _ bw_6_2) dX10_openCondition_1 (M 24 7) rfl (fun hr1 => ?_)
  refine v_bipush X dX10_openCondition_4 (by decide) ?_
  refine v_icmp_ge X 22 dX10_openCondition_6 (by decide) ⟨by omega, by omega⟩ ⟨by decide, by decide⟩ (fun u2 => ?_) (fun u2 => ?_)
  · skip
    refine hret _ _ _ _ _ _ _ _ _ _ _ none dX10_openCondition_22 ⟨rfl, rfl⟩ (by decide) (by decide) (fun hmok => ?_)
    refine ⟨rfl, rfl, rfl, rfl, rfl, rfl, ?_⟩
    try dsimp only
    first | (rw [if_neg (by omega)]; done) | (rw [if_neg (by omega)]; rfl) | (rw [if_pos (by omega)]; done) | (rw [if_pos (by omega)]; rfl)
  · skip
    refine v_aload_n X 0 dX10_openCondition_9 rfl rfl ?_
    refine gt_X10_conditions X iwX10 (Std.lt hS rfl) (Std.k hS rfl rfl) (List.mem_cons_of_mem _ bw_5_21) dX10_openCondition_10 27 (Std.r hS 2 rfl) ?_
    refine v_aload_n X 0 dX10_openCondition_13 rfl rfl ?_
    refine gt_X10_size X iwX10 (Std.lt hS rfl) (Std.k hS rfl rfl) (List.mem_cons_of_mem _ bw_6_2) dX10_openCondition_14 (M 24 7) rfl (fun hr3 => ?_)
    refine v_aload_n X 0 dX10_openCondition_17 rfl rfl ?_
    refine gt_X10_codeSize X iwX10 (Std.lt hS rfl) (Std.k hS rfl rfl) (List.mem_cons_of_mem _ bw_6_1) dX10_openCondition_18 (M 24 6) rfl (fun hr4 => ?_)
    refine v_iast X (Std.lt hS rfl) (Std.at hS rfl rfl) (by omega) (by omega) ⟨by omega, by omega⟩ dX10_openCondition_21 ?_
    refine hret _ _ _ _ _ _ _ _ _ _ _ none dX10_openCondition_22 ⟨rfl, rfl⟩ (by decide) (by decide) (fun hmok => ?_)
    refine ⟨rfl, rfl, rfl, rfl, rfl, rfl, ?_⟩
    try dsimp only
    first | (rw [if_neg (by omega)]; done) | (rw [if_neg (by omega)]; rfl) | (rw [if_pos (by omega)]; done) | (rw [if_pos (by omega)]; rfl)

-- closeRule
set_option maxHeartbeats 4000000 in
set_option maxRecDepth 100000 in
theorem c_X10_closeRule_24 (l : Launch) (D : va_G) (cy : Nat → ClassId) {N : Nat} {sh : MS} {ad : Nat → Nat} {M L : MI} {R : MR} (hS : Std N sh R) (hz : 0 ≤ M 24 7 ∧ M 24 7 ≤ 16) : Ctr l D cy yX10_closeRule wsX10_closeRule ({ frames := 0, cells := 0, slots := 0, locals := 0 } : Room) N sh ad M L R [.ref (ad 24)] (eV N sh ad L R (fun M' => M' = if M 24 7 < 16 then (if M 27 (M 24 7) = -1 then mu (mu (mu M 28 (M 24 7) (M 24 6)) 27 (M 24 7) (M 24 6)) 24 7 (M 24 7 + 1) else mu (mu M 28 (M 24 7) (M 24 6)) 24 7 (M 24 7 + 1)) else M)) := by
  refine Ctr.ofV (by decide) rfl (Nat.le_of_ble_eq_true rfl) ?_
  intro K hKl hKd hRm hnm X hret
  have X : VX K cX10_closeRule 1 wsX10_closeRule RX10 := X
  show V K 1 0 0 N sh ad M L R [(0, .ref (ad 24))] [] 0
  refine v_aload_n X 0 dX10_closeRule_0 rfl rfl ?_
  refine gt_X10_size X iwX10 (Std.lt hS rfl) (Std.k hS rfl rfl) (List.mem_cons_of_mem _ bw_6_2) dX10_closeRule_1 (M 24 7) rfl (fun hr1 => ?_)
  refine v_bipush X dX10_closeRule_4 (by decide) ?_
  refine v_icmp_ge X 58 dX10_closeRule_6 (by decide) ⟨by omega, by omega⟩ ⟨by decide, by decide⟩ (fun u2 => ?_) (fun u2 => ?_)
  · skip
    refine hret _ _ _ _ _ _ _ _ _ _ _ none dX10_closeRule_58 ⟨rfl, rfl⟩ (by decide) (by decide) (fun hmok => ?_)
    refine ⟨rfl, rfl, rfl, rfl, rfl, rfl, ?_⟩
    try dsimp only
    first | (rw [if_neg (show ¬ (M 24 7 < 16) by omega)]; done) | (rw [if_pos (show M 24 7 < 16 by omega), if_pos (show M 27 (M 24 7) = -1 by omega)]; done) | (rw [if_pos (show M 24 7 < 16 by omega), if_neg (show ¬ (M 27 (M 24 7) = -1) by omega)]; done)
  · skip
    refine v_aload_n X 0 dX10_closeRule_9 rfl rfl ?_
    refine gt_X10_ends X iwX10 (Std.lt hS rfl) (Std.k hS rfl rfl) (List.mem_cons_of_mem _ bw_5_22) dX10_closeRule_10 28 (Std.r hS 3 rfl) ?_
    refine v_aload_n X 0 dX10_closeRule_13 rfl rfl ?_
    refine gt_X10_size X iwX10 (Std.lt hS rfl) (Std.k hS rfl rfl) (List.mem_cons_of_mem _ bw_6_2) dX10_closeRule_14 (M 24 7) rfl (fun hr3 => ?_)
    refine v_aload_n X 0 dX10_closeRule_17 rfl rfl ?_
    refine gt_X10_codeSize X iwX10 (Std.lt hS rfl) (Std.k hS rfl rfl) (List.mem_cons_of_mem _ bw_6_1) dX10_closeRule_18 (M 24 6) rfl (fun hr4 => ?_)
    refine v_iast X (Std.lt hS rfl) (Std.at hS rfl rfl) (by omega) (by omega) ⟨by omega, by omega⟩ dX10_closeRule_21 ?_
    refine v_aload_n X 0 dX10_closeRule_22 rfl rfl ?_
    refine gt_X10_conditions X iwX10 (Std.lt hS rfl) (Std.k hS rfl rfl) (List.mem_cons_of_mem _ bw_5_21) dX10_closeRule_23 27 (Std.r hS 2 rfl) ?_
    refine v_aload_n X 0 dX10_closeRule_26 rfl rfl ?_
    refine gt_X10_size X iwX10 (Std.lt hS rfl) (Std.k hS rfl rfl) (List.mem_cons_of_mem _ bw_6_2) dX10_closeRule_27 (M 24 7) rfl (fun hr5 => ?_)
    refine v_iald X (M 27 (M 24 7)) (Std.lt hS rfl) (Std.at hS rfl rfl) (by omega) (by omega) dX10_closeRule_30 rfl (fun hr6 => ?_)
    refine v_iconst X dX10_closeRule_31 ?_
    refine v_icmp_ne X 48 dX10_closeRule_32 (by decide) ⟨by omega, by omega⟩ ⟨by decide, by decide⟩ (fun u7 => ?_) (fun u7 => ?_)
    · skip
      refine v_aload_n X 0 dX10_closeRule_48 rfl rfl ?_
      refine v_dup X dX10_closeRule_49 rfl ?_
      refine gt_X10_size X iwX10 (Std.lt hS rfl) (Std.k hS rfl rfl) (List.mem_cons_of_mem _ bw_6_2) dX10_closeRule_50 (M 24 7) rfl (fun hr8 => ?_)
      refine v_iconst X dX10_closeRule_53 ?_
      refine v_iadd X dX10_closeRule_54 ?_
      refine pt_X10_size X iwX10 (Std.lt hS rfl) (Std.k hS rfl rfl) (List.mem_cons_of_mem _ bw_6_2) ⟨by omega, by omega⟩ dX10_closeRule_55 ?_
      refine hret _ _ _ _ _ _ _ _ _ _ _ none dX10_closeRule_58 ⟨rfl, rfl⟩ (by decide) (by decide) (fun hmok => ?_)
      refine ⟨rfl, rfl, rfl, rfl, rfl, rfl, ?_⟩
      try dsimp only
      first | (rw [if_neg (show ¬ (M 24 7 < 16) by omega)]; done) | (rw [if_pos (show M 24 7 < 16 by omega), if_pos (show M 27 (M 24 7) = -1 by omega)]; done) | (rw [if_pos (show M 24 7 < 16 by omega), if_neg (show ¬ (M 27 (M 24 7) = -1) by omega)]; done)
    · skip
      refine v_aload_n X 0 dX10_closeRule_35 rfl rfl ?_
      refine gt_X10_conditions X iwX10 (Std.lt hS rfl) (Std.k hS rfl rfl) (List.mem_cons_of_mem _ bw_5_21) dX10_closeRule_36 27 (Std.r hS 2 rfl) ?_
      refine v_aload_n X 0 dX10_closeRule_39 rfl rfl ?_
      refine gt_X10_size X iwX10 (Std.lt hS rfl) (Std.k hS rfl rfl) (List.mem_cons_of_mem _ bw_6_2) dX10_closeRule_40 (M 24 7) rfl (fun hr9 => ?_)
      refine v_aload_n X 0 dX10_closeRule_43 rfl rfl ?_
      refine gt_X10_codeSize X iwX10 (Std.lt hS rfl) (Std.k hS rfl rfl) (List.mem_cons_of_mem _ bw_6_1) dX10_closeRule_44 (M 24 6) rfl (fun hr10 => ?_)
      refine v_iast X (Std.lt hS rfl) (Std.at hS rfl rfl) (by omega) (by omega) ⟨by omega, by omega⟩ dX10_closeRule_47 ?_
      refine v_aload_n X 0 dX10_closeRule_48 rfl rfl ?_
      refine v_dup X dX10_closeRule_49 rfl ?_
      refine gt_X10_size X iwX10 (Std.lt hS rfl) (Std.k hS rfl rfl) (List.mem_cons_of_mem _ bw_6_2) dX10_closeRule_50 (M 24 7) rfl (fun hr11 => ?_)
      refine v_iconst X dX10_closeRule_53 ?_
      refine v_iadd X dX10_closeRule_54 ?_
      refine pt_X10_size X iwX10 (Std.lt hS rfl) (Std.k hS rfl rfl) (List.mem_cons_of_mem _ bw_6_2) ⟨by omega, by omega⟩ dX10_closeRule_55 ?_
      refine hret _ _ _ _ _ _ _ _ _ _ _ none dX10_closeRule_58 ⟨rfl, rfl⟩ (by decide) (by decide) (fun hmok => ?_)
      refine ⟨rfl, rfl, rfl, rfl, rfl, rfl, ?_⟩
      try dsimp only
      first | (rw [if_neg (show ¬ (M 24 7 < 16) by omega)]; done) | (rw [if_pos (show M 24 7 < 16 by omega), if_pos (show M 27 (M 24 7) = -1 by omega)]; done) | (rw [if_pos (show M 24 7 < 16 by omega), if_neg (show ¬ (M 27 (M 24 7) = -1) by omega)]; done)

-- emit
set_option maxHeartbeats 4000000 in
set_option maxRecDepth 100000 in
theorem c_X10_emit_24 (l : Launch) (D : va_G) (cy : Nat → ClassId) {N : Nat} {sh : MS} {ad : Nat → Nat} {M L : MI} {R : MR} (hS : Std N sh R) (k v : Int) (hk : inR k) (hv : inR v) (hz : 0 ≤ M 24 6 ∧ M 24 6 ≤ 400) : Ctr l D cy yX10_emit wsX10_emit ({ frames := 0, cells := 0, slots := 0, locals := 0 } : Room) N sh ad M L R [.ref (ad 24), .int (iz k), .int (iz v)] (eV N sh ad L R (fun M' => M' = if M 24 6 < 400 then mu (mu M 29 (M 24 6) (emC k v)) 24 6 (M 24 6 + 1) else M)) := by
  refine Ctr.ofV (by decide) rfl (Nat.le_of_ble_eq_true rfl) ?_
  intro K hKl hKd hRm hnm X hret
  have X : VX K cX10_emit 3 wsX10_emit RX10 := X
  show V K 3 0 0 N sh ad M L R [(0, .ref (ad 24)), (1, .int (iz k)), (2, .int (iz v))] [] 0
  refine v_aload_n X 0 dX10_emit_0 rfl rfl ?_
  refine gt_X10_codeSize X iwX10 (Std.lt hS rfl) (Std.k hS rfl rfl) (List.mem_cons_of_mem _ bw_6_1) dX10_emit_1 (M 24 6) rfl (fun hr1 => ?_)
  refine v_sipush X dX10_emit_4 (by decide) ?_
  refine v_icmp_ge X 34 dX10_emit_7 (by decide) ⟨by omega, by omega⟩ ⟨by decide, by decide⟩ (fun u2 => ?_) (fun u2 => ?_)
  · skip
    refine hret _ _ _ _ _ _ _ _ _ _ _ none dX10_emit_34 ⟨rfl, rfl⟩ (by decide) (by decide) (fun hmok => ?_)
    refine ⟨rfl, rfl, rfl, rfl, rfl, rfl, ?_⟩
    try dsimp only
    first | (rw [if_neg (by omega)]; done) | (rw [if_neg (by omega)]; rfl) | (rw [if_pos (by omega)]; done) | (rw [if_pos (by omega)]; rfl)
  · skip
    refine v_aload_n X 0 dX10_emit_10 rfl rfl ?_
    refine gt_X10_code X iwX10 (Std.lt hS rfl) (Std.k hS rfl rfl) (List.mem_cons_of_mem _ bw_5_23) dX10_emit_11 29 (Std.r hS 4 rfl) ?_
    refine v_aload_n X 0 dX10_emit_14 rfl rfl ?_
    refine gt_X10_codeSize X iwX10 (Std.lt hS rfl) (Std.k hS rfl rfl) (List.mem_cons_of_mem _ bw_6_1) dX10_emit_15 (M 24 6) rfl (fun hr3 => ?_)
    refine v_iload_n X 2 dX10_emit_18 rfl rfl ?_
    refine v_iconst X dX10_emit_19 ?_
    refine v_ishl X (shlI v 5) dX10_emit_20 (iz_self _).symm ?_
    refine v_iload_n X 1 dX10_emit_21 rfl rfl ?_
    refine v_ior X (emC k v) dX10_emit_22 (iz_self _).symm ?_
    have hem : inR (emC k v) := iz_rng _
    refine v_iast X (Std.lt hS rfl) (Std.at hS rfl rfl) (by omega) (by omega) ⟨by omega, by omega⟩ dX10_emit_23 ?_
    refine v_aload_n X 0 dX10_emit_24 rfl rfl ?_
    refine v_dup X dX10_emit_25 rfl ?_
    refine gt_X10_codeSize X iwX10 (Std.lt hS rfl) (Std.k hS rfl rfl) (List.mem_cons_of_mem _ bw_6_1) dX10_emit_26 (M 24 6) rfl (fun hr4 => ?_)
    refine v_iconst X dX10_emit_29 ?_
    refine v_iadd X dX10_emit_30 ?_
    refine pt_X10_codeSize X iwX10 (Std.lt hS rfl) (Std.k hS rfl rfl) (List.mem_cons_of_mem _ bw_6_1) ⟨by omega, by omega⟩ dX10_emit_31 ?_
    refine hret _ _ _ _ _ _ _ _ _ _ _ none dX10_emit_34 ⟨rfl, rfl⟩ (by decide) (by decide) (fun hmok => ?_)
    refine ⟨rfl, rfl, rfl, rfl, rfl, rfl, ?_⟩
    try dsimp only
    first | (rw [if_neg (by omega)]; done) | (rw [if_neg (by omega)]; rfl) | (rw [if_pos (by omega)]; done) | (rw [if_pos (by omega)]; rfl)

