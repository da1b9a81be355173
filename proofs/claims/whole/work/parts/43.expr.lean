/-! AN EXPRESSION, token by token: the model's memory beside the class's state -/
def ES (g : Int → Int) (n : Int) (c0 : CSt) (sd : Int) (wt0 : List Int) (cz0 : Int) (cd0 : Int → Int) (rr : CRt) (mz0 : Int) (st : Int) (t : Nat) (w : List Int) (k : Nat) (cd : Int → Int) (Mx : MI) : Prop :=
  GT g n c0 t ∧ (Mx 53 11 = (t : Int) ∧ Mx 53 12 = opens w ∧ Mx 53 13 = 0 ∧ Mx 53 32 = mz0 + (k : Int) ∧ Mx 53 36 = (w.length : Int)) ∧ rep (Mx 75) w ∧ wOk w ∧ opens w ≤ 6 ∧ cm g n c0 t = (st, sd, opens w, w.map cOf ++ wt0, cz0 + (k : Int), cd, rr) ∧ LSq cz0 mz0 cd0 cd (Mx 73) (Mx 74) k ∧ hgt (Mx 73) mz0 k = nops w + (if st = 3 then 1 else 0)
def EH (wt0 : List Int) (cz0 : Int) (c0 : CSt) : Prop := (∀ x ∈ wt0, x ≠ 23 ∧ rkI x ≤ 3) ∧ wt0.length ≤ 3 ∧ 0 ≤ cz0 ∧ szC c0 ≤ 0
/-- an E is read, up to token t -/
def EE (g : Int → Int) (n : Int) (c0 : CSt) (sd : Int) (wt0 : List Int) (cz0 : Int) (cd0 : Int → Int) (rr : CRt) (mz0 : Int) (t : Nat) (M' : MI) : Prop := ∃ (w1 : List Int) (cz : Int) (cd : Int → Int) (k : Nat), GT g n c0 t ∧ (M' 53 11 = (t : Int) ∧ M' 53 12 = 0 ∧ M' 53 13 = 0 ∧ M' 53 32 = mz0 + (k : Int)) ∧ cm g n c0 t = (3, sd, 0, w1 ++ wt0, cz, cd, rr) ∧ (∀ x ∈ w1, x = 16 ∨ x = 17 ∨ x = 18) ∧ rlZ 4 w1 cz = cz0 + (k : Int) ∧ (∀ z : Int, z < cz0 → rlD 4 w1 cz cd z = cd0 z) ∧ EOk (rlD 4 w1 cz cd) (M' 73) (M' 74) cz0 mz0 k ∧ cz0 + (k : Int) + (wt0.length : Int) ≤ (t : Int) ∧ ¬ (kdT g n t = 16 ∨ kdT g n t = 17 ∨ kdT g n t = 18)
/-- what the model's reading of an E may change -/
def frE (lo hi : Int) (M M' : MI) : Prop := (∀ i : Nat, i ≠ 53 → i ≠ 73 → i ≠ 74 → i ≠ 75 → M' i = M i) ∧ (∀ z : Int, z ≠ 11 → z ≠ 12 → z ≠ 13 → z ≠ 14 → z ≠ 32 → z ≠ 36 → M' 53 z = M 53 z) ∧ ∀ z : Int, (z < lo ∨ hi ≤ z) → M' 73 z = M 73 z ∧ M' 74 z = M 74 z
theorem frE_refl (lo hi : Int) (M : MI) : frE lo hi M M := ⟨fun _ _ _ _ _ => rfl, fun _ _ _ _ _ _ _ => rfl, fun _ _ => ⟨rfl, rfl⟩⟩
theorem frE_trans {lo hi lo' hi' lo2 hi2 : Int} {M M1 M2 : MI} (h : frE lo hi M M1) (h' : frE lo' hi' M1 M2) (a : lo2 ≤ lo) (b : lo2 ≤ lo') (c : hi ≤ hi2) (d : hi' ≤ hi2) : frE lo2 hi2 M M2 := ⟨fun i a b c d => (h'.1 i a b c d).trans (h.1 i a b c d), fun z a b c d e f => (h'.2.1 z a b c d e f).trans (h.2.1 z a b c d e f), fun z hz => ⟨(h'.2.2 z (by omega)).1.trans (h.2.2 z (by omega)).1, (h'.2.2 z (by omega)).2.trans (h.2.2 z (by omega)).2⟩⟩
theorem frE_tok {lo hi : Int} {M M' : MI} {g : Int → Int} {n : Int} (h : frE lo hi M M') (hk : tokOk g n M) : tokOk g n M' := by
  intro k h1 h2
  rw [h.1 56 (by decide) (by decide) (by decide) (by decide), h.1 57 (by decide) (by decide) (by decide) (by decide), h.1 58 (by decide) (by decide) (by decide) (by decide)]
  exact hk k h1 h2
theorem cOf_0 {m : Int} : cOf m = 26 → m = 0 := by
  unfold cOf
  repeat' split
  all_goals omega
theorem cOf_ge {m : Int} : (cOf m = 25 → m = 2) ∧ (cOf m = 23 → m = 6) ∧ (cOf m = 24 → m = 7) ∧ (cOf m = 16 → m = 8) ∧ (cOf m = 17 → m = 9) ∧ (cOf m = 18 → m = 10) ∧ (6 ≤ cOf m ∧ cOf m ≤ 14 → 26 ≤ m ∧ m ≤ 34) := by
  unfold cOf
  repeat' split
  all_goals omega
theorem cOf_le {m : Int} : (m = 2 → cOf m = 25) ∧ (m = 6 → cOf m = 23) ∧ (m = 7 → cOf m = 24) ∧ (m = 8 → cOf m = 16) ∧ (m = 9 → cOf m = 17) ∧ (m = 10 → cOf m = 18) ∧ (26 ≤ m ∧ m ≤ 34 → cOf m = m - 20) := by
  unfold cOf
  repeat' split
  all_goals omega
theorem cOf_rel {m : Int} : (11 ≤ m ∧ m ≤ 14 → cOf m = m + 8) ∧ (19 ≤ cOf m ∧ cOf m ≤ 22 → 11 ≤ m ∧ m ≤ 14) := by
  unfold cOf
  repeat' split
  all_goals omega
theorem cOf_key {m : Int} : (cOf m = 0 ↔ m = 20) ∧ (cOf m = 3 ↔ m = 21) ∧ (cOf m = 1 ↔ m = 22) ∧ (cOf m = 2 ↔ m = 23) ∧ (cOf m = 4 ↔ m = 24) ∧ (cOf m = 5 ↔ m = 25) ∧ (cOf m = 15 ↔ m = 4) ∧ (cOf m = 26 ↔ m = 0) := by
  unfold cOf
  repeat' split
  all_goals omega
theorem vlT_w {g : Int → Int} {n : Int} {t : Nat} (h : kdT g n t ≤ 14) : vlT g n t = 0 := by
  unfold kdT at h
  unfold vlT
  generalize plT g n t = p at *
  by_cases c1 : n ≤ p
  · exact (tk_end c1).2.1
  by_cases c2 : ltB (g p) = true
  · exact (tk_word (by omega) c2).2.1
  by_cases c3 : dgB (g p) = true
  · rw [(tk_int (by omega) c2 c3).1] at h
    exfalso
    split at h <;> omega
  · exact (tk_sign (by omega) c2 c3).2.1
theorem rep_suf {f : Int → Int} {tm : Int} : ∀ {w : List Int}, rep f w → rep f (mpW tm w)
  | [], h => h
  | x :: t, h => by
    unfold mpW
    split
    · exact rep_suf h.2
    · exact h
theorem mpW_open : ∀ {w : List Int}, wOk w → 0 < opens w → ∃ t, mpW 0 w = 6 :: t
  | [], _, h => absurd h (by simp [opens])
  | x :: t, hw, h => by
    by_cases c : x = 6
    · subst c
      exact ⟨t, if_neg (fun z => z.1 rfl)⟩
    · have e : mpW 0 (x :: t) = mpW 0 t := if_pos ⟨c, Or.inl rfl⟩
      rw [e]
      refine mpW_open hw.2 ?_
      have h2 : opens (x :: t) = (if x = 6 then 1 else 0) + opens t := rfl
      rw [if_neg c] at h2
      omega
theorem mpW_shut : ∀ {w : List Int}, opens w = 0 → mpW 0 w = []
  | [], _ => rfl
  | x :: t, h => by
    have h2 : opens (x :: t) = (if x = 6 then 1 else 0) + opens t := rfl
    have h3 := (op_len t).2.1
    by_cases c : x = 6
    · rw [if_pos c] at h2; omega
    · rw [if_neg c] at h2
      have e : mpW 0 (x :: t) = mpW 0 t := if_pos ⟨c, Or.inl rfl⟩
      rw [e]
      exact mpW_shut (by omega)
theorem mpW_h1 : ∀ {w : List Int}, (mpW 1 w).head? ≠ some 10
  | [] => by simp [mpW]
  | x :: t => by
    unfold mpW
    by_cases c : x = 10
    · rw [if_pos ⟨by omega, Or.inr c⟩]; exact mpW_h1
    · rw [if_neg (by omega)]
      intro z
      exact c (Option.some.inj z)
theorem mpW_h0 : ∀ {w : List Int}, mpW 0 w = [] ∨ (mpW 0 w).head? = some 6
  | [] => Or.inl rfl
  | x :: t => by
    unfold mpW
    by_cases c : x = 6
    · rw [if_neg (fun z => z.1 c)]; exact Or.inr (by rw [c]; rfl)
    · rw [if_pos ⟨c, Or.inl rfl⟩]; exact mpW_h0
section ESs
variable {g : Int → Int} {n : Int} {c0 : CSt} {sd : Int} {wt0 : List Int} {cz0 : Int} {cd0 : Int → Int} {rr : CRt} {mz0 : Int} {st : Int} {t : Nat} {w : List Int} {k : Nat} {cd : Int → Int} {Mx M' : MI}
theorem ES_len (h : ES g n c0 sd wt0 cz0 cd0 rr mz0 st t w k cd Mx) (H : EH wt0 cz0 c0) : cz0 + (k : Int) + (w.length : Int) + (wt0.length : Int) ≤ (t : Int) ∧ (w.length : Int) ≤ 20 ∧ nops w ≤ 14 := by
  have a := cm_sz (g := g) (n := n) H.2.2.2 t
  rw [h.2.2.2.2.2.1] at a
  unfold szC at a
  dsimp only at a
  rw [List.length_append, List.length_map] at a
  have b := wOk_b w h.2.2.2.1
  have c := op_len w
  have d := h.2.2.2.2.1
  omega
theorem ES_fl (h : ES g n c0 sd wt0 cz0 cd0 rr mz0 st t w k cd Mx) {F : Int} (hv : (F = 1 ∧ ¬ goW st sd (opens w) (kdT g n t) ∧ st ≠ 0) ∨ (F = 2 ∧ goW st sd (opens w) (kdT g n t) ∧ (t = 400 ∨ (kdT g n t = 23 ∧ 6 ≤ opens w)))) (e1 : M' 53 13 = F) (e2 : M' 53 14 = plT g n t) (e0 : 0 ≤ M' 53 11 ∧ M' 53 11 ≤ 400) : FlT g n c0 M' := by
  refine ⟨t, F, h.1, ?_, e1, by omega, e2, e0⟩
  rw [h.2.2.2.2.2.1]
  unfold vdT
  dsimp only
  rcases hv with ⟨a, b, c⟩ | ⟨a, b, c⟩
  · exact Or.inr (Or.inl ⟨a, fun z => c z.2, b⟩)
  · exact Or.inr (Or.inr ⟨a, b, c.elim Or.inl (fun z => Or.inr (Or.inr z))⟩)
theorem ES_open (h : ES g n c0 sd wt0 cz0 cd0 rr mz0 2 t w k cd Mx) (H : EH wt0 cz0 c0) (hk : kdT g n t = 23) (ho : opens w < 6) (ht : t < 400) (e11 : M' 53 11 = (t : Int) + 1) (e12 : M' 53 12 = opens w + 1) (e13 : M' 53 13 = 0) (e32 : M' 53 32 = Mx 53 32) (e36 : M' 53 36 = (w.length : Int) + 1) (e75 : M' 75 = fun b => if b = (w.length : Int) then 6 else Mx 75 b) (e73 : M' 73 = Mx 73) (e74 : M' 74 = Mx 74) : ES g n c0 sd wt0 cz0 cd0 rr mz0 2 (t + 1) (6 :: w) k cd M' := by
  have l := ES_len h H
  obtain ⟨h1, ⟨h2, h3, h4, h5, h6⟩, h7, h8, h9, h10, h11, h12⟩ := h
  have lw : ((w.map cOf ++ wt0).length : Int) < 24 := by
    have := H.2.1
    rw [List.length_append, List.length_map]
    omega
  have o6 : opens (6 :: w) = opens w + 1 := by show (if (6 : Int) = 6 then 1 else 0) + opens w = _; rw [if_pos rfl]; omega
  have n6 : nops (6 :: w) = nops w := by show (if (6 : Int) = 6 then 0 else 1) + nops w = _; rw [if_pos rfl]; omega
  refine ⟨GT_s h1 ?_ ht, ⟨by rw [e11]; omega, by rw [e12, o6], e13, by rw [e32, h5], by rw [e36]; simp⟩, ?_, ⟨Or.inl rfl, h8⟩, by omega, ?_, ?_, ?_⟩
  · rw [h10]
    exact ⟨Or.inr (Or.inr (Or.inl ⟨rfl, Or.inr (Or.inl hk)⟩)), by omega, fun z => by rcases z with z | z <;> (dsimp only at z; omega)⟩
  · rw [e75]; exact rep_push h7 rfl
  · show tkC (cm g n c0 t) (kdT g n t) (vlT g n t) = _
    obtain ⟨rz, rk, rs, rc, re⟩ := rr
    rw [h10, tkC_2o rfl hk, o6]
    unfold psh
    rw [if_pos lw]
    rfl
  · rw [e73, e74]; exact h11
  · rw [e73, n6]; exact h12
theorem ES_unit (h : ES g n c0 sd wt0 cz0 cd0 rr mz0 2 t w k cd Mx) (H : EH wt0 cz0 c0) {op arg : Int} (hk : (kdT g n t = 25 ∧ op = 0 ∧ arg = vlT g n t ∧ 0 ≤ arg ∧ arg < 10000) ∨ (6 ≤ kdT g n t ∧ kdT g n t ≤ 14 ∧ op = 1 ∧ arg = kdT g n t - 6)) (ht : t < 400) (e11 : M' 53 11 = (t : Int) + 1) (e12 : M' 53 12 = Mx 53 12) (e13 : M' 53 13 = 0) (e32 : M' 53 32 = Mx 53 32 + 1) (e36 : M' 53 36 = Mx 53 36) (e75 : M' 75 = Mx 75) (e73 : M' 73 = fu (Mx 73) (Mx 53 32) op) (e74 : M' 74 = fu (Mx 74) (Mx 53 32) arg) : ES g n c0 sd wt0 cz0 cd0 rr mz0 3 (t + 1) w (k + 1) (fu cd (cz0 + (k : Int)) (toC op arg)) M' := by
  have l := ES_len h H
  obtain ⟨h1, ⟨h2, h3, h4, h5, h6⟩, h7, h8, h9, h10, h11, h12⟩ := h
  rw [if_neg (by decide)] at h12
  have em := LS_emit h11 (op := op) (arg := arg) (by omega) (by omega) (by omega) (by omega) (by omega)
  rw [if_pos (by omega), ← h5] at em
  have hem : emC (kdT g n t) (vlT g n t) = toC op arg := by
    unfold toC
    rcases hk with q | q
    · rw [if_pos q.2.1, q.1, q.2.2.1]
    · rw [if_neg (by omega), if_pos q.2.2.1, vlT_w q.2.1, q.2.2.2]
      congr 1
      omega
  refine ⟨GT_s h1 ?_ ht, ⟨by rw [e11]; omega, by rw [e12, h3], e13, by rw [e32, h5]; omega, by rw [e36, h6]⟩, by rw [e75]; exact h7, h8, h9, ?_, ?_, ?_⟩
  · rw [h10]
    exact ⟨Or.inr (Or.inr (Or.inl ⟨rfl, by omega⟩)), by omega, fun z => by rcases z with z | z <;> (dsimp only at z; omega)⟩
  · show tkC (cm g n c0 t) (kdT g n t) (vlT g n t) = _
    obtain ⟨rz, rk, rs, rc, re⟩ := rr
    rw [h10, tkC_2u rfl (by omega)]
    unfold emZ emD
    rw [if_pos (by omega), if_pos (by omega), hem, show cz0 + (k : Int) + 1 = cz0 + ((k + 1 : Nat) : Int) by omega]
  · rw [e73, e74]; exact em.1
  · rw [e73, em.2, h12, if_pos rfl]; omega
theorem ES_close (h : ES g n c0 sd wt0 cz0 cd0 rr mz0 3 t w k cd Mx) (H : EH wt0 cz0 c0) (hk : kdT g n t = 24) (ho : 0 < opens w) (ht : t < 400) (e11 : M' 53 11 = (t : Int) + 1) (e12 : M' 53 12 = opens w - 1) (e13 : M' 53 13 = 0) (e32 : M' 53 32 = mpZ 0 w (Mx 53 32)) (e36 : M' 53 36 = ((mpW 0 w).length : Int) - 1) (e75 : M' 75 = Mx 75) (e73 : M' 73 = mpC 0 w (Mx 53 32) (Mx 73)) (e74 : M' 74 = mpI 0 w (Mx 53 32) (Mx 74)) : ES g n c0 sd wt0 cz0 cd0 rr mz0 3 (t + 1) (mpW 0 w).tail (k + (w.length - (mpW 0 w).length)) (rlD 0 (w.map cOf ++ wt0) (cz0 + (k : Int)) cd) M' := by
  have l := ES_len h H
  obtain ⟨h1, ⟨h2, h3, h4, h5, h6⟩, h7, h8, h9, h10, h11, h12⟩ := h
  rw [if_pos rfl] at h12
  have p := LS_pop (r := 0) (tm := 0) (wt0 := wt0) (hr04 (by decide)) h8 (Or.inr ho) (by omega) h11 h12 (by omega)
  rw [← h5] at p
  obtain ⟨t6, ht6⟩ := mpW_open h8 ho
  obtain ⟨p1, p2, p3, p4, p5, p6⟩ := p
  have ml := mp_len (tm := 0) (w := w) (z := Mx 53 32)
  have o6 : opens (6 :: t6) = opens t6 + 1 := by show (if (6 : Int) = 6 then 1 else 0) + opens t6 = _; rw [if_pos rfl]; omega
  have n6 : nops (6 :: t6) = nops t6 := by show (if (6 : Int) = 6 then 0 else 1) + nops t6 = _; rw [if_pos rfl]; omega
  have hrep := rep_suf (tm := 0) h7
  rw [ht6] at p1 p2 p3 p4 p5 p6 ml hrep e36 ⊢
  simp only [List.tail_cons, List.length_cons] at *
  refine ⟨GT_s h1 ?_ ht, ⟨by rw [e11]; omega, by rw [e12]; omega, e13, by rw [e32, ml.2, h5]; omega, by rw [e36]; omega⟩, by rw [e75]; exact hrep.2, p5.2, by omega, ?_, by rw [e73, e74]; exact p3, by rw [e73, p4, n6, if_pos rfl]⟩
  · rw [h10]
    exact ⟨Or.inr (Or.inr (Or.inr ⟨(by decide : ¬ ((3 : Int) = 0 ∨ (3 : Int) = 1 ∨ (3 : Int) = 2)), Or.inr (Or.inl ⟨ho, hk⟩)⟩)), by omega, fun z => by rcases z with z | z <;> (dsimp only at z; omega)⟩
  · show tkC (cm g n c0 t) (kdT g n t) (vlT g n t) = _
    obtain ⟨rz, rk, rs, rc, re⟩ := rr
    rw [h10, tkC_3c (by decide) hk, p1, p2, show opens w - 1 = opens t6 by omega]
    rfl
theorem ES_op (h : ES g n c0 sd wt0 cz0 cd0 rr mz0 3 t w k cd Mx) (H : EH wt0 cz0 c0) {x tm : Int} (hk : kdT g n t = x + 8) (hx : x = 8 ∨ x = 9 ∨ x = 10) (htm : tm = if x = 10 then 1 else 0) (ht : t < 400) (e11 : M' 53 11 = (t : Int) + 1) (e12 : M' 53 12 = Mx 53 12) (e13 : M' 53 13 = 0) (e32 : M' 53 32 = mpZ tm w (Mx 53 32)) (e36 : M' 53 36 = ((mpW tm w).length : Int) + 1) (e75 : M' 75 = fun b => if b = ((mpW tm w).length : Int) then x else Mx 75 b) (e73 : M' 73 = mpC tm w (Mx 53 32) (Mx 73)) (e74 : M' 74 = mpI tm w (Mx 53 32) (Mx 74)) : ES g n c0 sd wt0 cz0 cd0 rr mz0 2 (t + 1) (x :: mpW tm w) (k + (w.length - (mpW tm w).length)) (rlD (rkI (kdT g n t)) (w.map cOf ++ wt0) (cz0 + (k : Int)) cd) M' := by
  have l := ES_len h H
  obtain ⟨h1, ⟨h2, h3, h4, h5, h6⟩, h7, h8, h9, h10, h11, h12⟩ := h
  rw [if_pos rfl] at h12
  have hrk : rkI (kdT g n t) = if x = 10 then 5 else 4 := by
    rw [hk]
    rcases hx with rfl | rfl | rfl <;> rfl
  have hr : ∀ y : Int, (y = 8 ∨ y = 9 ∨ y = 10) → ((tm = 0 ∨ y = 10) ↔ rkI (kdT g n t) ≤ rkI (cOf y)) := by
    by_cases c : x = 10
    · rw [hrk, htm, if_pos c, if_pos c]; exact hr5
    · rw [hrk, htm, if_neg c, if_neg c]; exact hr04 (by decide)
  have hlow : ∀ (z : Int) (d : Int → Int), rlW (rkI (kdT g n t)) wt0 = wt0 ∧ rlZ (rkI (kdT g n t)) wt0 z = z ∧ rlD (rkI (kdT g n t)) wt0 z d = d := fun z d => rl_low (fun y hy => by
    have := (H.1 y hy).2
    rw [hrk]
    split <;> omega)
  have p := LS_pop (r := rkI (kdT g n t)) (tm := tm) (wt0 := wt0) hr h8 (Or.inl hlow) (by omega) h11 h12 (by omega)
  rw [← h5] at p
  obtain ⟨p1, p2, p3, p4, p5, p6⟩ := p
  have ml := mp_len (tm := tm) (w := w) (z := Mx 53 32)
  have ox : opens (x :: mpW tm w) = opens (mpW tm w) := by show (if x = 6 then 1 else 0) + opens (mpW tm w) = _; rw [if_neg (by omega)]; omega
  have nx : nops (x :: mpW tm w) = nops (mpW tm w) + 1 := by show (if x = 6 then 0 else 1) + nops (mpW tm w) = _; rw [if_neg (by omega)]; omega
  have hcx : cOf x = x + 8 := by rcases hx with rfl | rfl | rfl <;> rfl
  have lw : (((mpW tm w).map cOf ++ wt0).length : Int) < 24 := by
    have := H.2.1
    rw [List.length_append, List.length_map]
    omega
  refine ⟨GT_s h1 ?_ ht, ⟨by rw [e11]; omega, by rw [e12, h3]; omega, e13, by rw [e32, ml.2, h5]; omega, by rw [e36]; simp⟩, by rw [e75]; exact rep_push (rep_suf h7) rfl, ⟨?_, p5⟩, by omega, ?_, by rw [e73, e74]; exact p3, by rw [e73, p4, nx, if_neg (by decide)]; omega⟩
  · rw [h10]
    exact ⟨Or.inr (Or.inr (Or.inr ⟨(by decide : ¬ ((3 : Int) = 0 ∨ (3 : Int) = 1 ∨ (3 : Int) = 2)), Or.inl (by omega)⟩)), by omega, fun z => by rcases z with z | z <;> (dsimp only at z; omega)⟩
  · by_cases c : x = 10
    · rw [if_pos c] at htm
      refine Or.inr (Or.inl ⟨c, ?_⟩)
      rw [htm]; exact mpW_h1
    · rw [if_neg c] at htm
      refine Or.inr (Or.inr ⟨by omega, ?_⟩)
      rw [htm]; exact mpW_h0
  · show tkC (cm g n c0 t) (kdT g n t) (vlT g n t) = _
    obtain ⟨rz, rk, rs, rc, re⟩ := rr
    rw [h10, tkC_3o (by decide) (by omega), p1, p2, if_neg (by omega), if_neg (by omega)]
    unfold psh
    rw [if_pos lw, ox, p6, List.map_cons, hcx, hk]
    rfl
theorem ES_end (h : ES g n c0 sd wt0 cz0 cd0 rr mz0 3 t w k cd Mx) (H : EH wt0 cz0 c0) (ho : opens w = 0) (hk : ¬ (kdT g n t = 16 ∨ kdT g n t = 17 ∨ kdT g n t = 18)) (e11 : M' 53 11 = Mx 53 11) (e12 : M' 53 12 = Mx 53 12) (e13 : M' 53 13 = 0) (e32 : M' 53 32 = mpZ 0 w (Mx 53 32)) (e73 : M' 73 = mpC 0 w (Mx 53 32) (Mx 73)) (e74 : M' 74 = mpI 0 w (Mx 53 32) (Mx 74)) : EE g n c0 sd wt0 cz0 cd0 rr mz0 t M' := by
  have l := ES_len h H
  obtain ⟨h1, ⟨h2, h3, h4, h5, h6⟩, h7, h8, h9, h10, h11, h12⟩ := h
  rw [if_pos rfl] at h12
  have ht4 := h1.1
  have p := LS_pop (r := 4) (tm := 0) (wt0 := []) (hr04 (by decide)) h8 (Or.inl (fun z d => ⟨rfl, rfl, rfl⟩)) (by omega) h11 h12 (by omega)
  rw [← h5, List.append_nil, mpW_shut ho] at p
  obtain ⟨p1, p2, p3, p4, p5, p6⟩ := p
  have ml := mp_len (tm := 0) (w := w) (z := Mx 53 32)
  rw [mpW_shut ho] at ml
  refine ⟨w.map cOf, cz0 + (k : Int), cd, k + (w.length - 0), h1, ⟨e11.trans h2, e12.trans (h3.trans ho), e13, ?_⟩, by rw [h10, ho], fun x hx => ?_, p2, p3.1, ⟨?_, ?_, ?_⟩, ?_, hk⟩
  · rw [e32, ml.2, h5]
    show mz0 + (k : Int) + (w.length : Int) - (0 : Int) = _
    omega
  · obtain ⟨y, hy, rfl⟩ := List.mem_map.mp hx
    have := wOk_mem h8 y hy
    have c6 : y ≠ 6 := by
      intro e
      subst e
      have : ∀ w : List Int, (6 : Int) ∈ w → 0 < opens w := by
        intro w
        induction w with
        | nil => intro z; simp at z
        | cons a b ih =>
          intro z
          have q := op_len b
          show 0 < (if a = 6 then 1 else 0) + opens b
          rcases List.mem_cons.mp z with z | z
          · rw [if_pos z.symm]; omega
          · have := ih z; split <;> omega
      have := this w hy
      omega
    rcases this with rfl | rfl | rfl | rfl
    · exact absurd rfl c6
    · exact Or.inl rfl
    · exact Or.inr (Or.inl rfl)
    · exact Or.inr (Or.inr rfl)
  · rw [e73, e74]; exact p3.2.1
  · rw [e73, e74]; exact p3.2.2
  · rw [e73]; exact p4
  · have : ((k + (w.length - 0) : Nat) : Int) = (k : Int) + (w.length : Int) := by omega
    omega
end ESs
