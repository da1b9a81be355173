/-! CONDITIONS: 'or', 'and' of the class's code against the model's relations -/
def b2i (b : Bool) : Int := if b = true then 1 else 0
theorem rl_two {r r' : Int} (h : r ≤ r') : ∀ {w : List Int} {z : Int} {d : Int → Int}, rlW r w = rlW r (rlW r' w) ∧ rlZ r w z = rlZ r (rlW r' w) (rlZ r' w z) ∧ rlD r w z d = rlD r (rlW r' w) (rlZ r' w z) (rlD r' w z d)
  | [], _, _ => ⟨rfl, rfl, rfl⟩
  | x :: t, z, d => by
    by_cases q : x ≠ 23 ∧ r' ≤ rkI x
    · have g := rl_go (r := r) (x := x) (z := z) (t := t) (d := d) q.1 (by omega)
      have g' := rl_go (r := r') (x := x) (z := z) (t := t) (d := d) q.1 q.2
      rw [g.1, g.2.1, g.2.2, g'.1, g'.2.1, g'.2.2]
      exact rl_two h
    · have g' := rl_stop (r := r') (x := x) (z := z) (t := t) (d := d) q
      rw [g'.1, g'.2.1, g'.2.2]
      exact ⟨rfl, rfl, rfl⟩
theorem cStep_op {v : Int → Int} {x y k : Int} {s : List Int} (h0 : 0 ≤ k) (h1 : k < 32) (h2 : k ≠ 25) (h3 : ¬ (6 ≤ k ∧ k < 15)) : cStep v (y :: x :: s) (emC k 0) = joinC k x y :: s := by
  unfold cStep
  rw [kdI_em h0 h1 (by decide) (by decide), if_neg (fun z => h2 z.1), if_neg (fun z => h3 ⟨z.1, z.2.1⟩)]
  rfl
theorem rn_emit {cd v : Int → Int} {cc z k : Int} (h : cc ≤ z) : rn (fu cd z (emC k 0)) v [] cc (z + 1 - cc).toNat = cStep v (rn cd v [] cc (z - cc).toNat) (emC k 0) := by
  rw [show (z + 1 - cc).toNat = (z - cc).toNat + 1 by omega, rn_s, rn_congr (cd := cd) _ (fun i hi => fu_n _ _ (by omega)), show cc + (((z - cc).toNat : Nat) : Int) = z by omega, fu_s]
theorem joinC_rel {k x y : Int} (h : 19 ≤ k ∧ k ≤ 22) : joinC k x y = b2i (relB (k - 19) x y) := by
  unfold joinC b2i
  rw [relB_eq]
  rcases (show k = 19 ∨ k = 20 ∨ k = 21 ∨ k = 22 by omega) with rfl | rfl | rfl | rfl <;> rfl
theorem joinC_and (a b : Bool) : joinC 5 (b2i a) (b2i b) = b2i (a && b) := by
  revert a b
  decide +kernel
theorem joinC_or (a b : Bool) : joinC 4 (b2i a) (b2i b) = b2i (a || b) := by
  revert a b
  decide +kernel
theorem hSt_congr {o o' x x' : Int → Bool} {k0 : Int} : ∀ n : Nat, (∀ i : Nat, i < n → o' (k0 + (i : Int)) = o (k0 + (i : Int)) ∧ x' (k0 + (i : Int)) = x (k0 + (i : Int))) → hSt o' x' k0 n = hSt o x k0 n
  | 0, _ => rfl
  | n + 1, h => by rw [hSt_s, hSt_s, hSt_congr n (fun i hi => h i (by omega)), (h n (by omega)).1, (h n (by omega)).2]
section Conds
variable {cd : Int → Int} {cc cz : Int} {pend : List Int} {o o' : Int → Bool} {x x' : (Int → Int) → Int → Bool} {q0 : Int} {n : Nat} {orf : Int}
/-- a relation is due: n of them are told, the next with flag orf -/
def CP (cd : Int → Int) (cc cz : Int) (pend : List Int) (o : Int → Bool) (x : (Int → Int) → Int → Bool) (q0 : Int) (n : Nat) (orf : Int) : Prop :=
  (orf = 1 ∧ n = 0 ∧ pend = [] ∧ cz = cc) ∨ (orf = 1 ∧ 1 ≤ n ∧ pend = [4] ∧ ∀ v : Int → Int, rn cd v [] cc (cz - cc).toNat = [b2i ((hSt o (x v) q0 n).1 || (hSt o (x v) q0 n).2)]) ∨ (orf = 0 ∧ 1 ≤ n ∧ pend = [5] ∧ ∀ v : Int → Int, (hSt o (x v) q0 n).1 = false ∧ rn cd v [] cc (cz - cc).toNat = [b2i (hSt o (x v) q0 n).2]) ∨ (orf = 0 ∧ 1 ≤ n ∧ pend = [5, 4] ∧ ∀ v : Int → Int, ∃ ab : Bool, rn cd v [] cc (cz - cc).toNat = [b2i ab, b2i (hSt o (x v) q0 n).1] ∧ ((hSt o (x v) q0 n).1 = false → ab = (hSt o (x v) q0 n).2))
/-- a relation has just been told, what binds closer than 'or' is out -/
def CQ (cd : Int → Int) (cc cz : Int) (pend : List Int) (o : Int → Bool) (x : (Int → Int) → Int → Bool) (q0 : Int) (n : Nat) : Prop :=
  1 ≤ n ∧ ((pend = [] ∧ ∀ v : Int → Int, (hSt o (x v) q0 n).1 = false ∧ rn cd v [] cc (cz - cc).toNat = [b2i (hSt o (x v) q0 n).2]) ∨ (pend = [4] ∧ ∀ v : Int → Int, ∃ ab : Bool, rn cd v [] cc (cz - cc).toNat = [b2i ab, b2i (hSt o (x v) q0 n).1] ∧ ((hSt o (x v) q0 n).1 = false → ab = (hSt o (x v) q0 n).2)))
theorem CP_congr (h : CP cd cc cz pend o x q0 n orf) (e : ∀ i : Nat, i < n → o' (q0 + (i : Int)) = o (q0 + (i : Int)) ∧ ∀ v : Int → Int, x' v (q0 + (i : Int)) = x v (q0 + (i : Int))) : CP cd cc cz pend o' x' q0 n orf := by
  have q : ∀ v : Int → Int, hSt o' (x' v) q0 n = hSt o (x v) q0 n := fun v => hSt_congr n (fun i hi => ⟨(e i hi).1, (e i hi).2 v⟩)
  unfold CP
  simp only [q]
  exact h
theorem CP_pend (h : CP cd cc cz pend o x q0 n orf) : (∀ y ∈ pend, y ≠ 23 ∧ rkI y ≤ 2) ∧ pend.length ≤ 2 := by
  rcases h with h | h | h | h
  · rw [h.2.2.1]; simp
  · rw [h.2.2.1]; simp; decide
  · rw [h.2.2.1]; simp; decide
  · rw [h.2.2.1]; simp; decide
theorem CP_rel {cd0 cdF c ci : Int → Int} {cz0 mz0 kop : Int} {k1 k2 : Nat} (h : CP cd0 cc cz0 pend o x q0 n orf) (hcc : cc ≤ cz0) (hA : ∀ z : Int, z < cz0 → cdF z = cd0 z) (e1 : EOk cdF c ci cz0 mz0 k1) (e2 : EOk cdF c ci (cz0 + (k1 : Int)) (mz0 + (k1 : Int)) k2) (ho : o (q0 + (n : Int)) = decide (orf ≠ 0)) (hx : ∀ v : Int → Int, x v (q0 + (n : Int)) = relB (kop - 19) (mVal c ci v mz0 (mz0 + (k1 : Int))) (mVal c ci v (mz0 + (k1 : Int)) (mz0 + (k1 : Int) + (k2 : Int)))) (hk : 19 ≤ kop ∧ kop ≤ 22) (hr : cz0 + (k1 : Int) + (k2 : Int) + (pend.length : Int) + 1 ≤ 400) :
    CQ (rlD 2 (kop :: pend) (cz0 + (k1 : Int) + (k2 : Int)) cdF) cc (rlZ 2 (kop :: pend) (cz0 + (k1 : Int) + (k2 : Int))) (rlW 2 (kop :: pend)) o x q0 (n + 1) ∧ cc < rlZ 2 (kop :: pend) (cz0 + (k1 : Int) + (k2 : Int)) := by
  have hrk : rkI kop = 3 := by rcases (show kop = 19 ∨ kop = 20 ∨ kop = 21 ∨ kop = 22 by omega) with rfl | rfl | rfl | rfl <;> rfl
  have hS : ∀ v : Int → Int, (rn cd0 v [] cc (cz0 - cc).toNat).length ≤ 8 → rn (fu cdF (cz0 + (k1 : Int) + (k2 : Int)) (emC kop 0)) v [] cc (cz0 + (k1 : Int) + (k2 : Int) + 1 - cc).toNat = b2i (x v (q0 + (n : Int))) :: rn cd0 v [] cc (cz0 - cc).toNat := by
    intro v hl
    rw [rn_emit (by omega), show (cz0 + (k1 : Int) + (k2 : Int) - cc).toNat = (cz0 - cc).toNat + k1 + k2 by omega, rn_add, rn_add, rn_congr (cd := cd0) (cz0 - cc).toNat (fun i hi => hA _ (by omega)), show cc + (((cz0 - cc).toNat : Nat) : Int) = cz0 by omega, EOk_run e1 v hl, show cc + (((cz0 - cc).toNat + k1 : Nat) : Int) = cz0 + (k1 : Int) by omega]
    have hq : ∀ (s : List Int), s.length ≤ 8 → rn cdF v s (cz0 + (k1 : Int)) k2 = mVal c ci v (mz0 + (k1 : Int)) (mz0 + (k1 : Int) + (k2 : Int)) :: s := fun s hs => EOk_run e2 v hs
    generalize hSS : rn cd0 v [] cc (cz0 - cc).toNat = S at *
    by_cases hl8 : S.length ≤ 7
    · rw [hq _ (by simp only [List.length_cons]; omega), cStep_op (by omega) (by omega) (by omega) (by omega), joinC_rel hk, hx v]
    · exfalso
      rcases h with h | h | h | h
      · rw [h.2.2.2, Int.sub_self] at hSS
        rw [← hSS] at hl8
        exact hl8 (by simp [rn])
      · rw [h.2.2.2 v] at hSS; rw [← hSS] at hl8; simp at hl8
      · rw [(h.2.2.2 v).2] at hSS; rw [← hSS] at hl8; simp at hl8
      · obtain ⟨ab, h1, _⟩ := h.2.2.2 v
        rw [h1] at hSS; rw [← hSS] at hl8; simp at hl8
  have g := fun (t : List Int) => rl_go (r := 2) (x := kop) (z := cz0 + (k1 : Int) + (k2 : Int)) (t := t) (d := cdF) (by omega) (by omega)
  have ez : emZ (cz0 + (k1 : Int) + (k2 : Int)) = cz0 + (k1 : Int) + (k2 : Int) + 1 := if_pos (by omega)
  have ed : emD (cz0 + (k1 : Int) + (k2 : Int)) cdF kop 0 = fu cdF (cz0 + (k1 : Int) + (k2 : Int)) (emC kop 0) := if_pos (by omega)
  rw [(g pend).1, (g pend).2.1, (g pend).2.2, ez, ed]
  have eo : ∀ v : Int → Int, hSt o (x v) q0 (n + 1) = if (hSt o (x v) q0 n).1 = true then hSt o (x v) q0 n else if orf ≠ 0 ∧ (hSt o (x v) q0 n).2 = true then (true, true) else if orf ≠ 0 ∨ (hSt o (x v) q0 n).2 = true then (false, x v (q0 + (n : Int))) else (false, false) := by
    intro v
    rw [hSt_s, ho]
    simp only [decide_eq_true_eq]
  have h4 : rkI 4 = 1 := rfl
  have h5 : rkI 5 = 2 := rfl
  rcases h with ⟨a1, a2, a3, a4⟩ | ⟨a1, a2, a3, a4⟩ | ⟨a1, a2, a3, a4⟩ | ⟨a1, a2, a3, a4⟩
  · subst a3
    subst a2
    subst a4
    refine ⟨⟨by omega, Or.inl ⟨rfl, fun v => ?_⟩⟩, by show cz0 < cz0 + (k1 : Int) + (k2 : Int) + 1; omega⟩
    have hs := hS v (by rw [Int.sub_self]; simp [rn])
    rw [Int.sub_self] at hs
    have z0 : hSt o (x v) q0 0 = (false, false) := rfl
    have e0 : hSt o (x v) q0 (0 + 1) = (false, x v (q0 + ((0 : Nat) : Int))) := by
      rw [eo v, z0, if_neg (by decide), if_neg (fun z => absurd z.2 (by decide)), if_pos (Or.inl (by omega))]
    rw [e0]
    exact ⟨rfl, hs⟩
  · subst a3
    have gs := rl_stop (r := 2) (x := 4) (z := cz0 + (k1 : Int) + (k2 : Int) + 1) (t := []) (d := fu cdF (cz0 + (k1 : Int) + (k2 : Int)) (emC kop 0)) (by omega)
    rw [gs.1, gs.2.1, gs.2.2]
    refine ⟨⟨by omega, Or.inr ⟨rfl, fun v => ?_⟩⟩, by omega⟩
    have hs := hS v (by rw [a4 v]; simp)
    refine ⟨x v (q0 + (n : Int)), ?_, ?_⟩
    · rw [hs, a4 v, eo v]
      cases h1 : (hSt o (x v) q0 n).1
      · cases h2 : (hSt o (x v) q0 n).2
        · rw [if_neg (by decide), if_neg (fun z => absurd z.2 (by decide)), if_pos (Or.inl (by omega))]; rfl
        · rw [if_neg (by decide), if_pos ⟨by omega, rfl⟩]; rfl
      · rw [if_pos rfl, h1]; rfl
    · rw [eo v]
      cases h1 : (hSt o (x v) q0 n).1
      · cases h2 : (hSt o (x v) q0 n).2
        · rw [if_neg (by decide), if_neg (fun z => absurd z.2 (by decide)), if_pos (Or.inl (by omega))]; exact fun _ => rfl
        · rw [if_neg (by decide), if_pos ⟨by omega, rfl⟩]; intro z; cases z
      · rw [if_pos rfl, h1]; intro z; cases z
  · subst a3
    have g5 := rl_go (r := 2) (x := 5) (z := cz0 + (k1 : Int) + (k2 : Int) + 1) (t := []) (d := fu cdF (cz0 + (k1 : Int) + (k2 : Int)) (emC kop 0)) (by decide) (by decide)
    simp only [List.length_cons, List.length_nil] at hr
    have ez5 : emZ (cz0 + (k1 : Int) + (k2 : Int) + 1) = cz0 + (k1 : Int) + (k2 : Int) + 1 + 1 := if_pos (by omega)
    have ed5 : emD (cz0 + (k1 : Int) + (k2 : Int) + 1) (fu cdF (cz0 + (k1 : Int) + (k2 : Int)) (emC kop 0)) 5 0 = fu (fu cdF (cz0 + (k1 : Int) + (k2 : Int)) (emC kop 0)) (cz0 + (k1 : Int) + (k2 : Int) + 1) (emC 5 0) := if_pos (by omega)
    rw [g5.1, g5.2.1, g5.2.2, ez5, ed5]
    refine ⟨⟨by omega, Or.inl ⟨rfl, fun v => ?_⟩⟩, by show cc < cz0 + (k1 : Int) + (k2 : Int) + 1 + 1; omega⟩
    have a4 := a4 v
    have hs := hS v (by rw [a4.2]; simp)
    have hs2 : rn (fu (fu cdF (cz0 + (k1 : Int) + (k2 : Int)) (emC kop 0)) (cz0 + (k1 : Int) + (k2 : Int) + 1) (emC 5 0)) v [] cc (cz0 + (k1 : Int) + (k2 : Int) + 1 + 1 - cc).toNat = [b2i ((hSt o (x v) q0 n).2 && x v (q0 + (n : Int)))] := by
      rw [rn_emit (by omega), hs, a4.2, cStep_op (by decide) (by decide) (by decide) (by decide), joinC_and]
    rw [eo v, a4.1, if_neg (by decide), if_neg (by omega)]
    cases h2 : (hSt o (x v) q0 n).2
    · rw [h2] at hs2
      rw [if_neg (fun z => z.elim (fun q => q a1) (fun q => absurd q (by decide)))]
      exact ⟨rfl, hs2⟩
    · rw [h2, Bool.true_and] at hs2
      rw [if_pos (Or.inr rfl)]
      exact ⟨rfl, hs2⟩
  · subst a3
    have g5 := rl_go (r := 2) (x := 5) (z := cz0 + (k1 : Int) + (k2 : Int) + 1) (t := [4]) (d := fu cdF (cz0 + (k1 : Int) + (k2 : Int)) (emC kop 0)) (by decide) (by decide)
    simp only [List.length_cons, List.length_nil] at hr
    have ez5 : emZ (cz0 + (k1 : Int) + (k2 : Int) + 1) = cz0 + (k1 : Int) + (k2 : Int) + 1 + 1 := if_pos (by omega)
    have ed5 : emD (cz0 + (k1 : Int) + (k2 : Int) + 1) (fu cdF (cz0 + (k1 : Int) + (k2 : Int)) (emC kop 0)) 5 0 = fu (fu cdF (cz0 + (k1 : Int) + (k2 : Int)) (emC kop 0)) (cz0 + (k1 : Int) + (k2 : Int) + 1) (emC 5 0) := if_pos (by omega)
    have gs := rl_stop (r := 2) (x := 4) (z := cz0 + (k1 : Int) + (k2 : Int) + 1 + 1) (t := []) (d := fu (fu cdF (cz0 + (k1 : Int) + (k2 : Int)) (emC kop 0)) (cz0 + (k1 : Int) + (k2 : Int) + 1) (emC 5 0)) (by omega)
    rw [g5.1, g5.2.1, g5.2.2, ez5, ed5, gs.1, gs.2.1, gs.2.2]
    refine ⟨⟨by omega, Or.inr ⟨rfl, fun v => ?_⟩⟩, by omega⟩
    obtain ⟨ab, b1, b2⟩ := a4 v
    have hs := hS v (by rw [b1]; simp)
    have hs2 : rn (fu (fu cdF (cz0 + (k1 : Int) + (k2 : Int)) (emC kop 0)) (cz0 + (k1 : Int) + (k2 : Int) + 1) (emC 5 0)) v [] cc (cz0 + (k1 : Int) + (k2 : Int) + 1 + 1 - cc).toNat = [b2i (ab && x v (q0 + (n : Int))), b2i (hSt o (x v) q0 n).1] := by
      rw [rn_emit (by omega), hs, b1, cStep_op (by decide) (by decide) (by decide) (by decide), joinC_and]
    refine ⟨ab && x v (q0 + (n : Int)), ?_, ?_⟩
    · rw [hs2, eo v]
      cases h1 : (hSt o (x v) q0 n).1
      · rw [if_neg (by decide), if_neg (by omega)]
        split <;> rfl
      · rw [if_pos rfl, h1]
    · rw [eo v]
      cases h1 : (hSt o (x v) q0 n).1
      · rw [b2 h1, if_neg (by decide), if_neg (by omega)]
        cases h2 : (hSt o (x v) q0 n).2
        · rw [if_neg (fun z => z.elim (fun q => q a1) (fun q => absurd q (by decide)))]; exact fun _ => by simp
        · rw [if_pos (Or.inr rfl)]; exact fun _ => rfl
      · rw [if_pos rfl, h1]; intro z; cases z
theorem CQ_and (h : CQ cd cc cz pend o x q0 n) : CP cd cc cz (5 :: pend) o x q0 n 0 := by
  rcases h with ⟨h0, ⟨rfl, h⟩ | ⟨rfl, h⟩⟩
  · exact Or.inr (Or.inr (Or.inl ⟨rfl, h0, rfl, h⟩))
  · exact Or.inr (Or.inr (Or.inr ⟨rfl, h0, rfl, h⟩))
theorem CQ_out {r : Int} (hr : r ≤ 1) (h : CQ cd cc cz pend o x q0 n) (hcc : cc < cz) (hz : cz + (pend.length : Int) ≤ 400) : rlW r pend = [] ∧ cc < rlZ r pend cz ∧ rlZ r pend cz = cz + (pend.length : Int) ∧ ∀ v : Int → Int, rn (rlD r pend cz cd) v [] cc (rlZ r pend cz - cc).toNat = [b2i (hRes o (x v) q0 n)] := by
  rcases h with ⟨h0, ⟨rfl, h⟩ | ⟨rfl, h⟩⟩
  · refine ⟨rfl, hcc, by show cz = cz + 0; omega, fun v => ?_⟩
    show rn cd v [] cc (cz - cc).toNat = _
    unfold hRes
    rw [(h v).2, (h v).1]
    rfl
  · have g4 := rl_go (r := r) (x := 4) (z := cz) (t := []) (d := cd) (by decide) (by show r ≤ 1; omega)
    simp only [List.length_cons, List.length_nil] at hz
    have ez4 : emZ cz = cz + 1 := if_pos (by omega)
    have ed4 : emD cz cd 4 0 = fu cd cz (emC 4 0) := if_pos (by omega)
    rw [g4.1, g4.2.1, g4.2.2, ez4, ed4]
    refine ⟨rfl, by show cc < cz + 1; omega, rfl, fun v => ?_⟩
    obtain ⟨ab, b1, b2⟩ := h v
    show rn (fu cd cz (emC 4 0)) v [] cc (cz + 1 - cc).toNat = _
    rw [rn_emit (by omega), b1, cStep_op (by decide) (by decide) (by decide) (by decide), joinC_or]
    unfold hRes
    cases h1 : (hSt o (x v) q0 n).1
    · rw [b2 h1]
    · simp
theorem CQ_or (h : CQ cd cc cz pend o x q0 n) (hcc : cc < cz) (hz : cz + (pend.length : Int) ≤ 400) : rlW 1 pend = [] ∧ CP (rlD 1 pend cz cd) cc (rlZ 1 pend cz) [4] o x q0 n 1 := by
  have q := CQ_out (r := 1) (Int.le_refl _) h hcc hz
  exact ⟨q.1, Or.inr (Or.inl ⟨rfl, h.1, rfl, q.2.2.2⟩)⟩
end Conds
/-! the model's relations and rules, on side s -/
def oS (M : MI) (s : Int) : Int → Bool := fun k => decide (M 72 (200 * s + k) ≠ 0)
def xS (M : MI) (s : Int) (v : Int → Int) : Int → Bool := fun k => relB (M 68 (200 * s + k)) (mVal (M 73) (M 74) v (M 69 (200 * s + k)) (M 70 (200 * s + k))) (mVal (M 73) (M 74) v (M 70 (200 * s + k)) (M 71 (200 * s + k)))
def RelsOk (M : MI) (s lo hi mz : Int) : Prop := ∀ k : Int, lo ≤ k → k < hi → mWf (M 73) (M 74) (M 69 (200 * s + k)) (M 70 (200 * s + k)) ∧ mWf (M 73) (M 74) (M 70 (200 * s + k)) (M 71 (200 * s + k)) ∧ M 71 (200 * s + k) ≤ mz ∧ 500 * s ≤ M 69 (200 * s + k)
theorem mVal_congr {c ci c' ci' v : Int → Int} {f e : Int} (h : ∀ z : Int, f ≤ z → z < e → c' z = c z ∧ ci' z = ci z) : mVal c' ci' v f e = mVal c ci v f e := by
  unfold mVal
  rw [vRun_congr (c := c) (ci := ci) _ (fun i hi => h _ (by omega) (by omega))]
theorem mWf_congr {c ci c' ci' : Int → Int} {f e : Int} (w : mWf c ci f e) (h : ∀ z : Int, f ≤ z → z < e → c' z = c z ∧ ci' z = ci z) : mWf c' ci' f e := by
  have q : ∀ (v : Int → Int) (n : Nat), (n : Int) ≤ e - f → vRun c' ci' v f n = vRun c ci v f n := fun v n hn => vRun_congr n (fun i hi => h _ (by omega) (by omega))
  have w1 := w.1
  refine ⟨w.1, fun n hn => ?_, fun v => ?_⟩
  · have a := h (f + (n : Int)) (by omega) (by omega)
    rw [a.1, a.2]
    have b := w.2.1 n hn
    refine ⟨b.1, b.2.1, fun v hv => ?_⟩
    rw [q v n (by omega)]
    exact b.2.2 v hv
  · rw [q v _ (by omega)]
    exact w.2.2 v
/-- memories that agree on side s: relations below q, code below mz -/
def agS (M M' : MI) (s q mz : Int) : Prop := (∀ i : Nat, 68 ≤ i → i ≤ 72 → ∀ k : Int, 0 ≤ k → k < q → M' i (200 * s + k) = M i (200 * s + k)) ∧ ∀ z : Int, 500 * s ≤ z → z < mz → M' 73 z = M 73 z ∧ M' 74 z = M 74 z
theorem agS_rel {M M' : MI} {s q mz lo hi : Int} (h : agS M M' s q mz) (w : RelsOk M s lo hi mz) (hq : hi ≤ q) (h0 : 0 ≤ lo) : RelsOk M' s lo hi mz ∧ ∀ k : Int, lo ≤ k → k < hi → oS M' s k = oS M s k ∧ ∀ v : Int → Int, xS M' s v k = xS M s v k := by
  refine ⟨fun k k1 k2 => ?_, fun k k1 k2 => ?_⟩
  · have a := w k k1 k2
    have a1 := a.1.1
    have a2 := a.2.1.1
    have a3 := a.2.2
    rw [h.1 69 (by decide) (by decide) k (by omega) (by omega), h.1 70 (by decide) (by decide) k (by omega) (by omega), h.1 71 (by decide) (by decide) k (by omega) (by omega)]
    exact ⟨mWf_congr a.1 (fun z z1 z2 => h.2 z (by omega) (by omega)), mWf_congr a.2.1 (fun z z1 z2 => h.2 z (by omega) (by omega)), a.2.2⟩
  · have a := w k k1 k2
    have a1 := a.1.1
    have a2 := a.2.1.1
    have a3 := a.2.2
    unfold oS xS
    rw [h.1 68 (by decide) (by decide) k (by omega) (by omega), h.1 69 (by decide) (by decide) k (by omega) (by omega), h.1 70 (by decide) (by decide) k (by omega) (by omega), h.1 71 (by decide) (by decide) k (by omega) (by omega), h.1 72 (by decide) (by decide) k (by omega) (by omega)]
    refine ⟨rfl, fun v => ?_⟩
    rw [mVal_congr (c := M 73) (ci := M 74) (fun z z1 z2 => h.2 z (by omega) (by omega)), mVal_congr (c := M 73) (ci := M 74) (fun z z1 z2 => h.2 z (by omega) (by omega))]
/-- a rule of both: r, on the model's side s -/
def RlEq (cd rk rs rc re : Int → Int) (M : MI) (s cz mz q r : Int) : Prop :=
  (rk r = 0 ∨ rk r = 1 ∨ rk r = 2) ∧ M 62 (16 * s + r) = rk r ∧ (0 ≤ rs r ∧ rs r ≤ rc r ∧ rc r ≤ re r ∧ re r ≤ cz) ∧ (rk r ≠ 0 → ∃ k : Nat, rc r = rs r + (k : Int) ∧ M 64 (16 * s + r) = M 63 (16 * s + r) + (k : Int) ∧ 500 * s ≤ M 63 (16 * s + r) ∧ M 64 (16 * s + r) ≤ mz ∧ EOk cd (M 73) (M 74) (rs r) (M 63 (16 * s + r)) k) ∧ (0 ≤ M 65 (16 * s + r) ∧ M 65 (16 * s + r) ≤ M 66 (16 * s + r) ∧ M 66 (16 * s + r) ≤ q) ∧ RelsOk M s (M 65 (16 * s + r)) (M 66 (16 * s + r)) mz ∧ ((rc r = re r ∧ M 65 (16 * s + r) = M 66 (16 * s + r) ∧ rk r ≠ 0) ∨ (rc r < re r ∧ M 65 (16 * s + r) < M 66 (16 * s + r) ∧ ∀ v : Int → Int, rn cd v [] (rc r) (re r - rc r).toNat = [b2i (hRes (oS M s) (xS M s v) (M 65 (16 * s + r)) (M 66 (16 * s + r) - M 65 (16 * s + r)).toNat)]))
theorem RlEq_congr {cd rk rs rc re cd' rk' rs' rc' re' : Int → Int} {M M' : MI} {s cz mz q r cz' mz' q' : Int} (h : RlEq cd rk rs rc re M s cz mz q r) (hz : cz ≤ cz') (hm : mz ≤ mz') (hq : q ≤ q') (e1 : rk' r = rk r) (e2 : rs' r = rs r) (e3 : rc' r = rc r) (e4 : re' r = re r) (ec : ∀ z : Int, z < cz → cd' z = cd z) (eM : ∀ i : Nat, 62 ≤ i → i ≤ 66 → M' i (16 * s + r) = M i (16 * s + r)) (eA : agS M M' s q mz) : RlEq cd' rk' rs' rc' re' M' s cz' mz' q' r := by
  obtain ⟨h1, h2, h3, h4, h5, h6, h7⟩ := h
  have a := agS_rel eA h6 h5.2.2 h5.1
  unfold RlEq
  rw [e1, e2, e3, e4, eM 62 (by decide) (by decide), eM 63 (by decide) (by decide), eM 64 (by decide) (by decide), eM 65 (by decide) (by decide), eM 66 (by decide) (by decide)]
  refine ⟨h1, h2, by omega, fun z => ?_, by omega, fun k k1 k2 => ?_, ?_⟩
  · obtain ⟨k, b1, b2, b3, b4, b5⟩ := h4 z
    exact ⟨k, b1, b2, b3, by omega, EOk_congr b5 (fun i hi => ec _ (by omega)) (fun i hi => eA.2 _ (by omega) (by omega))⟩
  · have b := a.1 k k1 k2
    exact ⟨b.1, b.2.1, by have := b.2.2.1; omega, b.2.2.2⟩
  · rcases h7 with b | b
    · exact Or.inl b
    · refine Or.inr ⟨b.1, b.2.1, fun v => ?_⟩
      rw [rn_congr (cd := cd) _ (fun i hi => ec _ (by omega)), b.2.2 v]
      unfold hRes
      rw [hSt_congr (o := oS M s) (o' := oS M' s) (x := xS M s v) (x' := xS M' s v) _ (fun i hi => ?_)]
      have c := a.2 (M 65 (16 * s + r) + (i : Int)) (by omega) (by omega)
      exact ⟨c.1, c.2 v⟩
