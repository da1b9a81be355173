/-! A RULE, token by token -/
theorem wrp_11 {m : Int} (h : inR m) : (wrp (m - 11) = m - 11 ∧ -2147483637 ≤ m) ∨ (wrp (m - 11) = m - 11 + 4294967296 ∧ m < -2147483637) := by
  by_cases c : -2147483637 ≤ m
  · exact Or.inl ⟨wrp_id ⟨by omega, by omega⟩, c⟩
  · refine Or.inr ⟨?_, by omega⟩
    unfold wrp Int.bmod
    dsimp only
    split <;> omega
section Steps
variable {g : Int → Int} {n : Int} {c0 : CSt} {t : Nat} {sd dp cz rz : Int} {w1 pend wt : List Int} {cd rk rs rc re : Int → Int} {rr : CRt} {M' : MI}
theorem FlT_mk {st : Int} (hG : GT g n c0 t) (hc : cm g n c0 t = (st, sd, dp, wt, cz, cd, rr)) {F : Int} (hv : (F = 1 ∧ ¬ goW st sd dp (kdT g n t) ∧ ¬ (kdT g n t = 26 ∧ st = 0)) ∨ (F = 2 ∧ goW st sd dp (kdT g n t) ∧ (t = 400 ∨ (st = 0 ∧ 16 ≤ rr.1) ∨ (kdT g n t = 23 ∧ 6 ≤ dp)))) (e1 : M' 53 13 = F) (e2 : M' 53 14 = plT g n t) (e0 : 0 ≤ M' 53 11 ∧ M' 53 11 ≤ 400) : FlT g n c0 M' := by
  refine ⟨t, F, hG, ?_, e1, by omega, e2, e0⟩
  rw [hc]
  unfold vdT
  dsimp only
  rcases hv with ⟨a, b, c⟩ | ⟨a, b, c⟩
  · exact Or.inr (Or.inl ⟨a, c, b⟩)
  · exact Or.inr (Or.inr ⟨a, b, c⟩)
theorem st_rule (hG : GT g n c0 t) (hc : cm g n c0 t = (0, sd, 0, [], cz, cd, rz, rk, rs, rc, re)) (hk : kdT g n t = 0 ∨ kdT g n t = 1 ∨ kdT g n t = 2) (hz : rz < 16) (ht : t < 400) : GT g n c0 (t + 1) ∧ cm g n c0 (t + 1) = (if kdT g n t = 0 then 1 else 2, if kdT g n t = 0 then 1 else 0, 0, [], cz, cd, rz, fu rk rz (kdT g n t), fu rs rz cz, fu rc rz (if kdT g n t = 0 then cz else -1), re) := by
  refine ⟨GT_s hG ?_ ht, ?_⟩
  · rw [hc]
    exact ⟨Or.inl ⟨rfl, hk⟩, by omega, fun z => by rcases z with z | z <;> (dsimp only at z; omega)⟩
  · show tkC (cm g n c0 t) (kdT g n t) (vlT g n t) = _
    rw [hc, tkC_0 rfl, if_pos hz, if_pos hz, if_pos hz]
theorem st_if1 (hG : GT g n c0 t) (hc : cm g n c0 t = (1, sd, 0, [], cz, cd, rr)) (hk : kdT g n t = 3) (ht : t < 400) : GT g n c0 (t + 1) ∧ cm g n c0 (t + 1) = (2, sd, 0, [], cz, cd, rr) := by
  refine ⟨GT_s hG ?_ ht, ?_⟩
  · rw [hc]
    exact ⟨Or.inr (Or.inl ⟨rfl, hk⟩), by omega, fun z => by rcases z with z | z <;> (dsimp only at z; omega)⟩
  · show tkC (cm g n c0 t) (kdT g n t) (vlT g n t) = _
    obtain ⟨rz, rk, rs, rc, re⟩ := rr
    rw [hc, tkC_1 rfl]
/-- what of an E still waits comes out first -/
theorem rl_E {r : Int} (h4 : r ≤ 4) (hw : ∀ x ∈ w1, x = 16 ∨ x = 17 ∨ x = 18) (z : Int) (d : Int → Int) : rlW r (w1 ++ pend) = rlW r pend ∧ rlZ r (w1 ++ pend) z = rlZ r pend (rlZ 4 w1 z) ∧ rlD r (w1 ++ pend) z d = rlD r pend (rlZ 4 w1 z) (rlD 4 w1 z d) := by
  have hh : ∀ x ∈ w1, x ≠ 23 ∧ r ≤ rkI x ∧ 4 ≤ rkI x := fun x hx => by
    have e : 4 ≤ rkI x := by rcases hw x hx with rfl | rfl | rfl <;> decide
    have e2 : x ≠ 23 := by rcases hw x hx with rfl | rfl | rfl <;> decide
    exact ⟨e2, by omega, e⟩
  have a := rl_app (r := r) (w0 := pend) (w := w1) (z := z) (d := d) (fun x hx => ⟨(hh x hx).1, (hh x hx).2.1⟩)
  have b := rl_same (r := r) (r' := 4) (w := w1) (z := z) (d := d) hh
  rw [a.1, a.2.1, a.2.2, b.1, b.2]
  exact ⟨rfl, rfl, rfl⟩
theorem ng3 : ¬ ((3 : Int) = 0 ∨ (3 : Int) = 1 ∨ (3 : Int) = 2) := by decide
theorem st_if3 (hG : GT g n c0 t) (hc : cm g n c0 t = (3, 0, 0, w1 ++ [], cz, cd, rz, rk, rs, rc, re)) (hw : ∀ x ∈ w1, x = 16 ∨ x = 17 ∨ x = 18) (hk : kdT g n t = 3) (hz : rz < 16) (ht : t < 400) : GT g n c0 (t + 1) ∧ cm g n c0 (t + 1) = (2, 1, 0, [], rlZ 4 w1 cz, rlD 4 w1 cz cd, rz, rk, rs, fu rc rz (rlZ 4 w1 cz), re) := by
  have e := rl_E (r := 0) (pend := []) (by decide) hw cz cd
  refine ⟨GT_s hG ?_ ht, ?_⟩
  · rw [hc]
    exact ⟨Or.inr (Or.inr (Or.inr ⟨ng3, Or.inr (Or.inr (Or.inl ⟨(by decide : ¬ (0 : Int) < 0), rfl, Or.inl hk⟩))⟩)), by omega, fun z => by rcases z with z | z <;> (dsimp only at z; omega)⟩
  · show tkC (cm g n c0 t) (kdT g n t) (vlT g n t) = _
    rw [hc, tkC_3i ng3 hk, if_pos hz, e.1, e.2.1, e.2.2]
    rfl
theorem st_rel (hG : GT g n c0 t) (hc : cm g n c0 t = (3, 1, 0, w1 ++ pend, cz, cd, rr)) (hw : ∀ x ∈ w1, x = 16 ∨ x = 17 ∨ x = 18) (hp : ∀ x ∈ pend, x ≠ 23 ∧ rkI x ≤ 2) (hl : pend.length ≤ 2) (hk : 19 ≤ kdT g n t ∧ kdT g n t ≤ 22) (ht : t < 400) : GT g n c0 (t + 1) ∧ cm g n c0 (t + 1) = (2, 2, 0, kdT g n t :: pend, rlZ 4 w1 cz, rlD 4 w1 cz cd, rr) := by
  have hrk : rkI (kdT g n t) = 3 := by
    rcases (show kdT g n t = 19 ∨ kdT g n t = 20 ∨ kdT g n t = 21 ∨ kdT g n t = 22 by omega) with h | h | h | h <;> rw [h] <;> rfl
  have e := rl_E (r := 3) (pend := pend) (by decide) hw cz cd
  have lo := rl_low (r := 3) (w := pend) (z := rlZ 4 w1 cz) (d := rlD 4 w1 cz cd) (fun x hx => by have := (hp x hx).2; omega)
  refine ⟨GT_s hG ?_ ht, ?_⟩
  · rw [hc]
    exact ⟨Or.inr (Or.inr (Or.inr ⟨ng3, Or.inr (Or.inr (Or.inr (Or.inl ⟨(by decide : ¬ (0 : Int) < 0), rfl, hk⟩)))⟩)), by omega, fun z => by rcases z with z | z <;> (dsimp only at z; omega)⟩
  · show tkC (cm g n c0 t) (kdT g n t) (vlT g n t) = _
    obtain ⟨rz, rk, rs, rc, re⟩ := rr
    rw [hc, tkC_3o ng3 (by omega), hrk, e.1, e.2.1, e.2.2, lo.1, lo.2.1, lo.2.2, if_pos hk]
    unfold psh
    rw [if_pos (by omega)]
theorem st_con {kop : Int} (hG : GT g n c0 t) (hc : cm g n c0 t = (3, 2, 0, w1 ++ kop :: pend, cz, cd, rr)) (hw : ∀ x ∈ w1, x = 16 ∨ x = 17 ∨ x = 18) (hl : pend.length ≤ 2) (hk : kdT g n t = 5 ∨ kdT g n t = 4) (ht : t < 400) : GT g n c0 (t + 1) ∧ cm g n c0 (t + 1) = (2, 1, 0, kdT g n t :: rlW (rkI (kdT g n t)) (kop :: pend), rlZ (rkI (kdT g n t)) (kop :: pend) (rlZ 4 w1 cz), rlD (rkI (kdT g n t)) (kop :: pend) (rlZ 4 w1 cz) (rlD 4 w1 cz cd), rr) := by
  have hrk : rkI (kdT g n t) ≤ 4 := by rcases hk with h | h <;> rw [h] <;> decide
  have e := rl_E (r := rkI (kdT g n t)) (pend := kop :: pend) hrk hw cz cd
  have ll := rlW_len (r := rkI (kdT g n t)) (w := kop :: pend)
  simp only [List.length_cons] at ll
  refine ⟨GT_s hG ?_ ht, ?_⟩
  · rw [hc]
    exact ⟨Or.inr (Or.inr (Or.inr ⟨ng3, Or.inr (Or.inr (Or.inr (Or.inr ⟨(by decide : ¬ (0 : Int) < 0), (by decide : (2 : Int) ≠ 0), (by decide : (2 : Int) ≠ 1), by omega⟩)))⟩)), by omega, fun z => by rcases z with z | z <;> (dsimp only at z; omega)⟩
  · show tkC (cm g n c0 t) (kdT g n t) (vlT g n t) = _
    obtain ⟨rz, rk, rs, rc, re⟩ := rr
    rw [hc, tkC_3o ng3 (by omega), e.1, e.2.1, e.2.2, if_neg (by omega), if_pos hk]
    unfold psh
    rw [if_pos (by omega)]
theorem st_semi (hG : GT g n c0 t) (hc : cm g n c0 t = (3, sd, 0, w1 ++ pend, cz, cd, rz, rk, rs, rc, re)) (hs : sd = 0 ∨ sd = 2) (hw : ∀ x ∈ w1, x = 16 ∨ x = 17 ∨ x = 18) (hk : kdT g n t = 15) (hz : rz < 16) (ht : t < 400) : GT g n c0 (t + 1) ∧ cm g n c0 (t + 1) = (0, sd, 0, rlW 0 pend, rlZ 0 pend (rlZ 4 w1 cz), rlD 0 pend (rlZ 4 w1 cz) (rlD 4 w1 cz cd), rz + 1, rk, rs, if rc rz = -1 then fu rc rz (rlZ 0 pend (rlZ 4 w1 cz)) else rc, fu re rz (rlZ 0 pend (rlZ 4 w1 cz))) := by
  have e := rl_E (r := 0) (pend := pend) (by decide) hw cz cd
  refine ⟨GT_s hG ?_ ht, ?_⟩
  · rw [hc]
    refine ⟨Or.inr (Or.inr (Or.inr ⟨ng3, ?_⟩)), by omega, fun z => by rcases z with z | z <;> (dsimp only at z; omega)⟩
    rcases hs with rfl | rfl
    · exact Or.inr (Or.inr (Or.inl ⟨(by decide : ¬ (0 : Int) < 0), rfl, Or.inr hk⟩))
    · exact Or.inr (Or.inr (Or.inr (Or.inr ⟨(by decide : ¬ (0 : Int) < 0), (by decide : (2 : Int) ≠ 0), (by decide : (2 : Int) ≠ 1), by omega⟩)))
  · show tkC (cm g n c0 t) (kdT g n t) (vlT g n t) = _
    rw [hc, tkC_3s ng3 hk, e.1, e.2.1, e.2.2, if_pos hz, if_pos hz]
    by_cases c : rc rz = -1
    · rw [if_pos ⟨hz, c⟩, if_pos c]
    · rw [if_neg (fun z => c z.2), if_neg c]
end Steps
/-! the frames of a relation, of a rule -/
def frL (lo hi s q : Int) (M M' : MI) : Prop := (∀ i : Nat, i ≠ 53 → ¬ (67 ≤ i ∧ i ≤ 75) → M' i = M i) ∧ (∀ z : Int, z ≠ 11 → z ≠ 12 → z ≠ 13 → z ≠ 14 → z ≠ 32 → z ≠ 36 → M' 53 z = M 53 z) ∧ (∀ z : Int, (z < lo ∨ hi ≤ z) → M' 73 z = M 73 z ∧ M' 74 z = M 74 z) ∧ (∀ z : Int, z ≠ s → M' 67 z = M 67 z) ∧ ∀ i : Nat, 68 ≤ i → i ≤ 72 → ∀ z : Int, z ≠ 200 * s + q → M' i z = M i z
theorem frE_L {lo hi s q : Int} {M M' : MI} (h : frE lo hi M M') : frL lo hi s q M M' := ⟨fun i i1 i2 => h.1 i i1 (by omega) (by omega) (by omega), h.2.1, h.2.2, fun z _ => by rw [h.1 67 (by decide) (by decide) (by decide) (by decide)], fun i i1 i2 z _ => by rw [h.1 i (by omega) (by omega) (by omega) (by omega)]⟩
theorem frL_trans {lo hi s q : Int} {M M1 M2 : MI} (h : frL lo hi s q M M1) (h' : frL lo hi s q M1 M2) : frL lo hi s q M M2 := ⟨fun i a b => (h'.1 i a b).trans (h.1 i a b), fun z a b c d e f => (h'.2.1 z a b c d e f).trans (h.2.1 z a b c d e f), fun z hz => ⟨(h'.2.2.1 z hz).1.trans (h.2.2.1 z hz).1, (h'.2.2.1 z hz).2.trans (h.2.2.1 z hz).2⟩, fun z hz => (h'.2.2.2.1 z hz).trans (h.2.2.2.1 z hz), fun i a b z hz => (h'.2.2.2.2 i a b z hz).trans (h.2.2.2.2 i a b z hz)⟩
def frS (s : Int) (M M' : MI) : Prop := (∀ i : Nat, i ≠ 53 → ¬ (61 ≤ i ∧ i ≤ 75) → M' i = M i) ∧ (∀ z : Int, z ≠ 11 → z ≠ 12 → z ≠ 13 → z ≠ 14 → z ≠ 32 → z ≠ 36 → M' 53 z = M 53 z) ∧ (∀ z : Int, z ≠ s → M' 61 z = M 61 z ∧ M' 67 z = M 67 z) ∧ (∀ i : Nat, 62 ≤ i → i ≤ 66 → ∀ z : Int, (z < 16 * s ∨ 16 * s + 16 ≤ z) → M' i z = M i z) ∧ (∀ i : Nat, 68 ≤ i → i ≤ 72 → ∀ z : Int, (z < 200 * s ∨ 200 * s + 200 ≤ z) → M' i z = M i z) ∧ ∀ z : Int, (z < 500 * s ∨ 500 * s + 500 ≤ z) → M' 73 z = M 73 z ∧ M' 74 z = M 74 z
theorem frS_refl (s : Int) (M : MI) : frS s M M := ⟨fun _ _ _ => rfl, fun _ _ _ _ _ _ _ => rfl, fun _ _ => ⟨rfl, rfl⟩, fun _ _ _ _ _ => rfl, fun _ _ _ _ _ => rfl, fun _ _ => ⟨rfl, rfl⟩⟩
theorem frS_trans {s : Int} {M M1 M2 : MI} (h : frS s M M1) (h' : frS s M1 M2) : frS s M M2 := ⟨fun i a b => (h'.1 i a b).trans (h.1 i a b), fun z a b c d e f => (h'.2.1 z a b c d e f).trans (h.2.1 z a b c d e f), fun z hz => ⟨(h'.2.2.1 z hz).1.trans (h.2.2.1 z hz).1, (h'.2.2.1 z hz).2.trans (h.2.2.1 z hz).2⟩, fun i a b z hz => (h'.2.2.2.1 i a b z hz).trans (h.2.2.2.1 i a b z hz), fun i a b z hz => (h'.2.2.2.2.1 i a b z hz).trans (h.2.2.2.2.1 i a b z hz), fun z hz => ⟨(h'.2.2.2.2.2 z hz).1.trans (h.2.2.2.2.2 z hz).1, (h'.2.2.2.2.2 z hz).2.trans (h.2.2.2.2.2 z hz).2⟩⟩
theorem frL_S {lo hi s q : Int} {M M' : MI} (h : frL lo hi s q M M') (h1 : 500 * s ≤ lo) (h2 : hi ≤ 500 * s + 500) (h3 : 0 ≤ q ∧ q < 200) : frS s M M' := ⟨fun i a b => h.1 i a (by omega), h.2.1, fun z hz => ⟨by rw [h.1 61 (by decide) (by decide)], h.2.2.2.1 z hz⟩, fun i a b z _ => by rw [h.1 i (by omega) (by omega)], fun i a b z hz => h.2.2.2.2 i a b z (by omega), fun z hz => h.2.2.1 z (by omega)⟩
theorem frE_S {lo hi s : Int} {M M' : MI} (h : frE lo hi M M') (h1 : 500 * s ≤ lo) (h2 : hi ≤ 500 * s + 500) : frS s M M' := frL_S (q := 0) (frE_L h) h1 h2 (by decide)
theorem frS_tok {s : Int} {M M' : MI} {g : Int → Int} {n : Int} (h : frS s M M') (hk : tokOk g n M) : tokOk g n M' := by
  intro k h1 h2
  rw [h.1 56 (by decide) (by decide), h.1 57 (by decide) (by decide), h.1 58 (by decide) (by decide)]
  exact hk k h1 h2
/-- the heads of rule i may change -/
def frI (i : Int) (M M' : MI) : Prop := (∀ j : Nat, j ≠ 53 → ¬ (62 ≤ j ∧ j ≤ 66) → M' j = M j) ∧ (∀ z : Int, z ≠ 11 → M' 53 z = M 53 z) ∧ ∀ j : Nat, 62 ≤ j → j ≤ 66 → ∀ z : Int, z ≠ i → M' j z = M j z
theorem frI_S {i s r : Int} {M M' : MI} (h : frI i M M') (hi : i = 16 * s + r) (hr : 0 ≤ r ∧ r < 16) : frS s M M' := ⟨fun j a b => h.1 j a (by omega), fun z a _ _ _ _ _ => h.2.1 z a, fun z hz => ⟨by rw [h.1 61 (by decide) (by decide)], by rw [h.1 67 (by decide) (by decide)]⟩, fun j a b z hz => h.2.2 j a b z (by omega), fun j a b z _ => by rw [h.1 j (by omega) (by omega)], fun z _ => ⟨by rw [h.1 73 (by decide) (by decide)], by rw [h.1 74 (by decide) (by decide)]⟩⟩
/-- a relation is read, up to token t -/
def RE (g : Int → Int) (n : Int) (c0 : CSt) (pend : List Int) (cz0 : Int) (cd0 : Int → Int) (rr : CRt) (mz0 s q orf : Int) (t : Nat) (M' : MI) : Prop := ∃ (w1 : List Int) (kop cz : Int) (cd : Int → Int) (k1 k2 : Nat), GT g n c0 t ∧ (M' 53 11 = (t : Int) ∧ M' 53 12 = 0 ∧ M' 53 13 = 0 ∧ M' 53 32 = mz0 + (k1 : Int) + (k2 : Int)) ∧ cm g n c0 t = (3, 2, 0, w1 ++ kop :: pend, cz, cd, rr) ∧ (∀ x ∈ w1, x = 16 ∨ x = 17 ∨ x = 18) ∧ (19 ≤ kop ∧ kop ≤ 22) ∧ rlZ 4 w1 cz = cz0 + (k1 : Int) + (k2 : Int) ∧ (∀ z : Int, z < cz0 → rlD 4 w1 cz cd z = cd0 z) ∧ EOk (rlD 4 w1 cz cd) (M' 73) (M' 74) cz0 mz0 k1 ∧ EOk (rlD 4 w1 cz cd) (M' 73) (M' 74) (cz0 + (k1 : Int)) (mz0 + (k1 : Int)) k2 ∧ cz0 + (k1 : Int) + (k2 : Int) + (pend.length : Int) + 1 ≤ (t : Int) ∧ ¬ (kdT g n t = 16 ∨ kdT g n t = 17 ∨ kdT g n t = 18) ∧ M' 68 (200 * s + q) = kop - 19 ∧ M' 69 (200 * s + q) = mz0 ∧ M' 70 (200 * s + q) = mz0 + (k1 : Int) ∧ M' 71 (200 * s + q) = mz0 + (k1 : Int) + (k2 : Int) ∧ M' 72 (200 * s + q) = orf ∧ M' 67 s = q + 1
