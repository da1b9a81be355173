/-! THE MODEL CUTS -/
section PostsL
variable (N : Nat) (sh : MS) (ad : Nat → Nat) (R : MR)
def eVL (φ : MI → MI → Prop) : PostT := fun rv N' sh' ad' M' L' R' => N' = N ∧ sh' = sh ∧ ad' = ad ∧ R' = R ∧ rv = none ∧ φ M' L'
def eIL (φ : Int → MI → MI → Prop) : PostT := fun rv N' sh' ad' M' L' R' => N' = N ∧ sh' = sh ∧ ad' = ad ∧ R' = R ∧ ∃ r : Int, rv = some (.int (iz r)) ∧ inR r ∧ φ r M' L'
end PostsL
section KRowsL
variable {K : VK} {nL cells slots N : Nat} {sh : MS} {ad : Nat → Nat} {L : MI} {R : MR} {lv : List (Nat × Value)} {rest : List Value} {pc : Nat}
theorem k_eVL {φ : MI → MI → Prop} (kk : ∀ M' L' : MI, φ M' L' → V K nL cells slots N sh ad M' L' R lv rest pc) : ∀ (rv : Option Value) (N' : Nat) (sh' : MS) (ad' : Nat → Nat) (M' L' : MI) (R' : MR), eVL N sh ad R φ rv N' sh' ad' M' L' R' → V K nL cells slots N' sh' ad' M' L' R' lv (rv.toList ++ rest) pc := by
  rintro _ _ _ _ M' L' _ ⟨rfl, rfl, rfl, rfl, rfl, h2⟩
  exact kk M' L' h2
theorem k_eIL {φ : Int → MI → MI → Prop} (kk : ∀ (r : Int) (M' L' : MI), inR r → φ r M' L' → V K nL cells slots N sh ad M' L' R lv (.int (iz r) :: rest) pc) : ∀ (rv : Option Value) (N' : Nat) (sh' : MS) (ad' : Nat → Nat) (M' L' : MI) (R' : MR), eIL N sh ad R φ rv N' sh' ad' M' L' R' → V K nL cells slots N' sh' ad' M' L' R' lv (rv.toList ++ rest) pc := by
  rintro _ _ _ _ M' L' _ ⟨rfl, rfl, rfl, rfl, r, rfl, h1, h2⟩
  exact kk r M' L' h1 h2
end KRowsL
def u8 (z : Int) : Int := if z < 0 then z + 256 else z
theorem and255 : ∀ k : Fin 256, (iz (((k : Nat) : Int) - 128) &&& iz 255) = iz (u8 (((k : Nat) : Int) - 128)) := by decide +kernel
theorem and_u8 {z : Int} (h : -128 ≤ z ∧ z < 128) : (iz z &&& iz 255) = iz (u8 z) := by
  have q := and255 ⟨(z + 128).toNat, by omega⟩
  have e : (((⟨(z + 128).toNat, by omega⟩ : Fin 256) : Nat) : Int) - 128 = z := by show (((z + 128).toNat : Nat) : Int) - 128 = z; omega
  rw [e] at q
  exact q
theorem u8_b {z : Int} (h : -128 ≤ z ∧ z < 128) : 0 ≤ u8 z ∧ u8 z < 256 := by
  unfold u8
  split <;> omega
theorem u8_eq {z c : Int} (h : -128 ≤ z ∧ z < 128) (hc : 0 ≤ c ∧ c < 128) : u8 z = c ↔ z = c := by
  unfold u8
  split <;> omega
theorem u8_lt {z : Int} (h : -128 ≤ z ∧ z < 128) : (97 ≤ u8 z ∧ u8 z ≤ 122) ↔ (97 ≤ z ∧ z ≤ 122) := by
  unfold u8
  split <;> omega
theorem u8_dg {z : Int} (h : -128 ≤ z ∧ z < 128) : (48 ≤ u8 z ∧ u8 z ≤ 57) ↔ (48 ≤ z ∧ z ≤ 57) := by
  unfold u8
  split <;> omega
theorem u8_bl {z : Int} (h : -128 ≤ z ∧ z < 128) : (u8 z = 9 ∨ u8 z = 10 ∨ u8 z = 13 ∨ u8 z = 32) ↔ (z = 9 ∨ z = 10 ∨ z = 13 ∨ z = 32) := by
  unfold u8
  split <;> omega
theorem u8_id {z : Int} (h : 0 ≤ z) : u8 z = z := by
  unfold u8
  rw [if_neg (by omega)]
theorem i2l_iz {z : Int} (h : inR z) : (iz z).toInt64 = lz z := by
  unfold lz
  rw [← Int64.toInt_inj, Int32.toInt_toInt64, iz_toInt h, Int64.toInt_ofInt_of_le (by omega) (by omega)]
theorem lz_toInt {z : Int} (h : inL z) : (lz z).toInt = z := by
  unfold lz
  exact Int64.toInt_ofInt_of_le (by omega) (by omega)
theorem lcmp_z {a b : Int} (ha : inL a) (hb : inL b) : lg_cmp (lz a) (lz b) = iz (if b < a then 1 else if a = b then 0 else -1) := by
  unfold lg_cmp
  have h1 : (lz a > lz b) ↔ b < a := by rw [GT.gt, Int64.lt_iff_toInt_lt, lz_toInt ha, lz_toInt hb]
  have h2 : (lz a = lz b) ↔ a = b := by rw [← Int64.toInt_inj, lz_toInt ha, lz_toInt hb]
  by_cases c : b < a
  · rw [if_pos (h1.mpr c), if_pos c]; rfl
  · rw [if_neg (fun z => c (h1.mp z)), if_neg c]
    by_cases d : a = b
    · rw [if_pos (h2.mpr d), if_pos d]; rfl
    · rw [if_neg (fun z => d (h2.mp z)), if_neg d]; rfl
/-- the model's kind of token, as the class numbers it -/
def cOf (m : Int) : Int := if m = 0 then 26 else if m = 2 then 25 else if m = 4 then 15 else if m = 6 then 23 else if m = 7 then 24 else if 8 ≤ m ∧ m ≤ 10 then m + 8 else if m = 11 then 19 else if m = 12 then 20 else if m = 13 then 21 else if m = 14 then 22 else if m = 20 then 0 else if m = 21 then 3 else if m = 22 then 1 else if m = 23 then 2 else if m = 24 then 4 else if m = 25 then 5 else if 26 ≤ m ∧ m ≤ 34 then m - 20 else 27
def nmV (g : Int → Int) (p : Int) : Nat → Int
  | 0 => 0
  | k + 1 => 27 * nmV g p k + (g (p + (k : Int)) - 96)
theorem nmV_s (g : Int → Int) (p : Int) (k : Nat) : nmV g p (k + 1) = 27 * nmV g p k + (g (p + (k : Int)) - 96) := rfl
theorem nmV_b {g : Int → Int} {p : Int} : ∀ k : Nat, (∀ i : Nat, i < k → 97 ≤ g (p + (i : Int)) ∧ g (p + (i : Int)) ≤ 122) → 0 ≤ nmV g p k ∧ nmV g p k < 27 ^ k
  | 0, _ => ⟨Int.le_refl _, by show (0 : Int) < 27 ^ 0; decide⟩
  | k + 1, h => by
    have q := nmV_b k (fun i hi => h i (by omega))
    have q2 := h k (by omega)
    have e : (27 : Int) ^ (k + 1) = 27 ^ k * 27 := Int.pow_succ ..
    rw [nmV_s, e]
    generalize (27 : Int) ^ k = w at q
    omega
theorem nmV_L {g : Int → Int} {p : Int} {k : Nat} (hk : k ≤ 8) (h : ∀ i : Nat, i < k → 97 ≤ g (p + (i : Int)) ∧ g (p + (i : Int)) ≤ 122) : 0 ≤ nmV g p k ∧ nmV g p k < 282429536481 := by
  have q := nmV_b k h
  have e : (27 : Int) ^ k ≤ 27 ^ 8 := (show ∀ k : Fin 9, (27 : Int) ^ (k : Nat) ≤ 27 ^ 8 by decide) ⟨k, by omega⟩
  have e2 : (27 : Int) ^ 8 = 282429536481 := by decide
  omega
def dgU (g : Int → Int) (p : Int) : Nat → Int
  | 0 => 0
  | k + 1 => 10 * dgU g p k + g (p + (k : Int)) - 48
theorem dgU_s (g : Int → Int) (p : Int) (k : Nat) : dgU g p (k + 1) = 10 * dgU g p k + g (p + (k : Int)) - 48 := rfl
theorem dgU_b {g : Int → Int} {p : Int} : ∀ k : Nat, (∀ i : Nat, i < k → 48 ≤ g (p + (i : Int)) ∧ g (p + (i : Int)) ≤ 57) → 0 ≤ dgU g p k ∧ dgU g p k < 10 ^ k
  | 0, _ => ⟨Int.le_refl _, by show (0 : Int) < 10 ^ 0; decide⟩
  | k + 1, h => by
    have q := dgU_b k (fun i hi => h i (by omega))
    have q2 := h k (by omega)
    have e : (10 : Int) ^ (k + 1) = 10 ^ k * 10 := Int.pow_succ ..
    rw [dgU_s, e]
    generalize (10 : Int) ^ k = w at q
    omega
theorem dgU_4 {g : Int → Int} {p : Int} {k : Nat} (hk : k ≤ 4) (h : ∀ i : Nat, i < k → 48 ≤ g (p + (i : Int)) ∧ g (p + (i : Int)) ≤ 57) : 0 ≤ dgU g p k ∧ dgU g p k < 10000 := by
  have q := dgU_b k h
  have e : (10 : Int) ^ k ≤ 10 ^ 4 := (show ∀ k : Fin 5, (10 : Int) ^ (k : Nat) ≤ 10 ^ 4 by decide) ⟨k, by omega⟩
  have e2 : (10 : Int) ^ 4 = 10000 := by decide
  omega
theorem dgV_U {g : Int → Int} {p : Int} : ∀ k : Nat, k ≤ 4 → (∀ i : Nat, i < k → 48 ≤ g (p + (i : Int)) ∧ g (p + (i : Int)) ≤ 57) → dgV g p k = dgU g p k
  | 0, _, _ => rfl
  | k + 1, hk, h => by
    have q := dgU_4 (k := k + 1) hk h
    rw [dgV_s, dgV_U k (by omega) (fun i hi => h i (by omega))]
    rw [dgU_s] at q ⊢
    rw [wrp_id ⟨by omega, by omega⟩]
    omega
def kyK (ky : Int → Int) (nm k0 : Int) : Nat → Int
  | 0 => k0
  | j + 1 => if ky (j : Int) = nm then 20 + (j : Int) else kyK ky nm k0 j
theorem kyK_s (ky : Int → Int) (nm k0 : Int) (j : Nat) : kyK ky nm k0 (j + 1) = if ky (j : Int) = nm then 20 + (j : Int) else kyK ky nm k0 j := rfl
/-! the words -/
def wln (w : Int) : Nat := if w = 0 ∨ w = 1 ∨ w = 5 ∨ w = 6 then 3 else if w = 2 ∨ w = 8 ∨ w = 14 then 5 else if w = 3 ∨ w = 4 then 2 else if w = 11 ∨ w = 13 then 6 else 4
def rwN (w : Int) : Nat → List Int
  | 0 => []
  | k + 1 => (wch (w * 8 + (k : Int)) - 96) :: rwN w k
def valR : List Int → Int
  | [] => 0
  | d :: t => 27 * valR t + d
def prm (w : Int) : Int := if w = 1 then 2 else if w = 2 then 3 else if w = 3 then 1 else w
def keyV (k : Int) : Int := valR (rwN (if k = 2 then 1 else if k = 3 then 2 else if k = 1 then 3 else k) (wln (if k = 2 then 1 else if k = 3 then 2 else if k = 1 then 3 else k)))
theorem wch_w : ∀ (w : Fin 15) (k : Fin 8), (if (k : Nat) < wln ((w : Nat) : Int) then 97 ≤ wch (((w : Nat) : Int) * 8 + ((k : Nat) : Int)) ∧ wch (((w : Nat) : Int) * 8 + ((k : Nat) : Int)) ≤ 122 else wch (((w : Nat) : Int) * 8 + ((k : Nat) : Int)) = 32) := by decide +kernel
theorem wln_6 : ∀ w : Fin 15, wln ((w : Nat) : Int) ≤ 6 := by decide +kernel
theorem keyV_p : ∀ w : Fin 15, keyV (prm ((w : Nat) : Int)) = valR (rwN ((w : Nat) : Int) (wln ((w : Nat) : Int))) ∧ cOf (20 + prm ((w : Nat) : Int)) = ((w : Nat) : Int) ∧ 0 ≤ prm ((w : Nat) : Int) ∧ prm ((w : Nat) : Int) < 15 := by decide +kernel
theorem keyV_i : ∀ (a b : Fin 15), keyV ((a : Nat) : Int) = keyV ((b : Nat) : Int) → a = b := by decide +kernel
theorem prm_s : ∀ k : Fin 15, ∃ w : Fin 15, prm ((w : Nat) : Int) = ((k : Nat) : Int) := by decide +kernel
def keyOk (L : MI) : Prop := ∀ k : Int, 0 ≤ k → k < 15 → L 60 k = keyV k
theorem keyV_L : ∀ a : Fin 15, 0 ≤ keyV ((a : Nat) : Int) ∧ keyV ((a : Nat) : Int) < 387420489 := by decide +kernel
theorem valR_pos {d : Int} {t : List Int} (h : ∀ x ∈ d :: t, 1 ≤ x ∧ x ≤ 26) : 1 ≤ valR (d :: t) := by
  have q : ∀ t : List Int, (∀ x ∈ t, 1 ≤ x ∧ x ≤ 26) → 0 ≤ valR t := by
    intro t
    induction t with
    | nil => intro _; exact Int.le_refl _
    | cons a t ih =>
      intro h
      have h1 := ih (fun x hx => h x (List.mem_cons_of_mem _ hx))
      have h2 := h a List.mem_cons_self
      show 0 ≤ 27 * valR t + a
      omega
  have h1 := q t (fun x hx => h x (List.mem_cons_of_mem _ hx))
  have h2 := h d List.mem_cons_self
  show 1 ≤ 27 * valR t + d
  omega
theorem nm_val {g : Int → Int} {p : Int} : ∀ (n : Nat) (m : Nat) (w : Int), (∀ i : Nat, i < n → 97 ≤ g (p + (i : Int)) ∧ g (p + (i : Int)) ≤ 122) → (∀ i : Nat, i < m → 97 ≤ wch (w * 8 + (i : Int)) ∧ wch (w * 8 + (i : Int)) ≤ 122) → (nmV g p n = valR (rwN w m) ↔ n = m ∧ ∀ i : Nat, i < n → g (p + (i : Int)) = wch (w * 8 + (i : Int)))
  | 0, 0, _, _, _ => ⟨fun _ => ⟨rfl, fun i hi => absurd hi (Nat.not_lt_zero i)⟩, fun _ => rfl⟩
  | 0, m + 1, w, _, h2 => by
    have hx : ∀ m : Nat, (∀ i : Nat, i < m → 97 ≤ wch (w * 8 + (i : Int)) ∧ wch (w * 8 + (i : Int)) ≤ 122) → 0 ≤ valR (rwN w m) := by
      intro m
      induction m with
      | zero => intro _; exact Int.le_refl _
      | succ m ih =>
        intro h
        have h1 := ih (fun i hi => h i (by omega))
        have h3 := h m (by omega)
        show 0 ≤ 27 * valR (rwN w m) + (wch (w * 8 + (m : Int)) - 96)
        omega
    have h1 := hx m (fun i hi => h2 i (by omega))
    have h3 := h2 m (by omega)
    refine ⟨fun h => ?_, fun h => absurd h.1 (by omega)⟩
    have h : (0 : Int) = 27 * valR (rwN w m) + (wch (w * 8 + (m : Int)) - 96) := h
    omega
  | n + 1, 0, w, h1, _ => by
    have h2 := nmV_b n (fun i hi => h1 i (by omega))
    have h3 := h1 n (by omega)
    refine ⟨fun h => ?_, fun h => absurd h.1 (by omega)⟩
    have h : 27 * nmV g p n + (g (p + (n : Int)) - 96) = 0 := h
    omega
  | n + 1, m + 1, w, h1, h2 => by
    have ih := nm_val n m w (fun i hi => h1 i (by omega)) (fun i hi => h2 i (by omega))
    have h3 := h1 n (by omega)
    have h4 := h2 m (by omega)
    constructor
    · intro h
      have h : 27 * nmV g p n + (g (p + (n : Int)) - 96) = 27 * valR (rwN w m) + (wch (w * 8 + (m : Int)) - 96) := h
      have e : nmV g p n = valR (rwN w m) := by omega
      obtain ⟨e1, e2⟩ := ih.mp e
      subst e1
      refine ⟨rfl, fun i hi => ?_⟩
      by_cases c : i = n
      · subst c; omega
      · exact e2 i (by omega)
    · intro ⟨e1, e2⟩
      have e1 : n = m := by omega
      subst e1
      have e := ih.mpr ⟨rfl, fun i hi => e2 i (by omega)⟩
      have e3 := e2 n (by omega)
      show 27 * nmV g p n + (g (p + (n : Int)) - 96) = 27 * valR (rwN w n) + (wch (w * 8 + (n : Int)) - 96)
      rw [e, e3]
theorem wEq_iff {g : Int → Int} {p e w : Int} : ∀ k : Nat, wEq g p e w k = true ↔ ∀ i : Nat, i < k → (if p + (i : Int) < e then g (p + (i : Int)) else 32) = wch (w * 8 + (i : Int))
  | 0 => ⟨fun _ i hi => absurd hi (Nat.not_lt_zero i), fun _ => rfl⟩
  | k + 1 => by
    rw [wEq_s, Bool.and_eq_true, wEq_iff k, decide_eq_true_iff]
    constructor
    · intro h i hi
      by_cases c : i = k
      · subst c; exact h.2
      · exact h.1 i (by omega)
    · intro h
      exact ⟨fun i hi => h i (by omega), h k (by omega)⟩
theorem isWB_iff {g : Int → Int} {p : Int} {n : Nat} {w : Fin 15} (hl : ∀ i : Nat, i < n → 97 ≤ g (p + (i : Int)) ∧ g (p + (i : Int)) ≤ 122) : isWB g p (p + (n : Int)) ((w : Nat) : Int) = true ↔ n = wln ((w : Nat) : Int) ∧ ∀ i : Nat, i < n → g (p + (i : Int)) = wch (((w : Nat) : Int) * 8 + (i : Int)) := by
  have h6 := wln_6 w
  unfold isWB
  rw [Bool.and_eq_true, decide_eq_true_iff, wEq_iff]
  constructor
  · intro ⟨h1, h2⟩
    have hn : n ≤ 8 := by omega
    have key : ∀ i : Nat, i < 8 → (i < n ↔ i < wln ((w : Nat) : Int)) := by
      intro i hi
      have a := h2 i hi
      have b := wch_w w ⟨i, hi⟩
      dsimp only at b
      by_cases c : i < n
      · rw [if_pos (by omega)] at a
        have d := hl i c
        by_cases c2 : i < wln ((w : Nat) : Int)
        · exact ⟨fun _ => c2, fun _ => c⟩
        · rw [if_neg c2] at b; omega
      · rw [if_neg (by omega)] at a
        by_cases c2 : i < wln ((w : Nat) : Int)
        · rw [if_pos c2] at b; omega
        · exact ⟨fun z => absurd z c, fun z => absurd z c2⟩
    have e : n = wln ((w : Nat) : Int) := by
      rcases Nat.lt_trichotomy n (wln ((w : Nat) : Int)) with c | c | c
      · have := (key n (by omega)).mpr c; omega
      · exact c
      · have := (key (wln ((w : Nat) : Int)) (by omega)).mp c; omega
    refine ⟨e, fun i hi => ?_⟩
    have a := h2 i (by omega)
    rw [if_pos (by omega)] at a
    exact a
  · intro ⟨e, h⟩
    refine ⟨by omega, fun i hi => ?_⟩
    by_cases c : i < n
    · rw [if_pos (by omega)]; exact h i c
    · rw [if_neg (by omega)]
      have b := wch_w w ⟨i, hi⟩
      dsimp only at b
      rw [if_neg (by omega)] at b
      exact b.symm
theorem wd_key {g : Int → Int} {p : Int} {n : Nat} {w : Fin 15} (hl : ∀ i : Nat, i < n → 97 ≤ g (p + (i : Int)) ∧ g (p + (i : Int)) ≤ 122) : nmV g p n = keyV (prm ((w : Nat) : Int)) ↔ isWB g p (p + (n : Int)) ((w : Nat) : Int) = true := by
  have h6 := wln_6 w
  rw [(keyV_p w).1, isWB_iff hl]
  exact nm_val n _ _ hl (fun i hi => by
    have b := wch_w w ⟨i, by omega⟩
    dsimp only at b
    rw [if_pos hi] at b
    exact b)
theorem kyK_no {ky : Int → Int} {nm k0 : Int} : ∀ j : Nat, (∀ k : Nat, k < j → ky (k : Int) ≠ nm) → kyK ky nm k0 j = k0
  | 0, _ => rfl
  | j + 1, h => by
    rw [kyK_s, if_neg (h j (by omega))]
    exact kyK_no j (fun k hk => h k (by omega))
theorem kyK_at {ky : Int → Int} {nm k0 : Int} {q : Nat} (hq : ky (q : Int) = nm) : ∀ j : Nat, q < j → (∀ k : Nat, k < j → ky (k : Int) = nm → k = q) → kyK ky nm k0 j = 20 + (q : Int)
  | 0, h, _ => absurd h (Nat.not_lt_zero _)
  | j + 1, h, u => by
    rw [kyK_s]
    by_cases c : ky (j : Int) = nm
    · have e := u j (by omega) c
      rw [if_pos c, e]
    · rw [if_neg c]
      have : q ≠ j := fun e => c (e ▸ hq)
      exact kyK_at hq j (by omega) (fun k hk => u k (by omega))
/-- the model's word and the class's are one -/
theorem word_same {L : MI} {g : Int → Int} {p : Int} {n : Nat} (hk : keyOk L) (h7 : n ≤ 7) (hl : ∀ i : Nat, i < n → 97 ≤ g (p + (i : Int)) ∧ g (p + (i : Int)) ≤ 122) : cOf (kyK (L 60) (nmV g p n) 1 15) = wdK g p (p + (n : Int)) := by
  unfold wdK
  by_cases c : firstN (isWB g p (p + (n : Int))) 15 = -1
  · rw [if_pos c, kyK_no 15 (fun k hk2 => ?_)]
    · decide
    · intro e
      rw [hk _ (by omega) (by omega)] at e
      obtain ⟨w, hw⟩ := prm_s ⟨k, hk2⟩
      dsimp only at hw
      rw [← hw] at e
      have h := (wd_key (w := w) hl).mp e.symm
      have : ∀ m : Nat, (w : Nat) < m → firstN (isWB g p (p + (n : Int))) m ≠ -1 := by
        intro m
        induction m with
        | zero => intro z; exact absurd z (Nat.not_lt_zero _)
        | succ m ih =>
          intro z
          rw [firstN_s]
          by_cases c2 : firstN (isWB g p (p + (n : Int))) m ≠ -1
          · rw [if_pos c2]; exact c2
          · rw [if_neg c2]
            have : ¬ (w : Nat) < m := fun z2 => c2 (ih z2)
            obtain e2 : (w : Nat) = m := by omega
            rw [← e2, if_pos h]
            omega
      exact this 15 w.isLt c
  · rw [if_neg c]
    obtain ⟨a1, a2, a3⟩ := firstN_yes c
    obtain ⟨q, hq⟩ : ∃ q : Nat, firstN (isWB g p (p + (n : Int))) 15 = (q : Int) := ⟨(firstN (isWB g p (p + (n : Int))) 15).toNat, by omega⟩
    rw [hq] at a1 a2 a3 ⊢
    have hq15 : q < 15 := by omega
    have e := (wd_key (w := ⟨q, hq15⟩) hl).mpr a3
    have kp := keyV_p ⟨q, hq15⟩
    dsimp only at kp
    obtain ⟨r, hr⟩ : ∃ r : Nat, prm (q : Int) = (r : Int) := ⟨(prm (q : Int)).toNat, by omega⟩
    rw [kyK_at (q := r) (by rw [hk _ (by omega) (by omega), ← hr]; exact e.symm) 15 (by omega) (fun k hk2 e2 => ?_), ← hr]
    · exact kp.2.1
    · rw [hk _ (by omega) (by omega), e] at e2
      dsimp only at e2
      rw [hr] at e2
      have := keyV_i ⟨k, hk2⟩ ⟨r, by omega⟩ e2
      exact Fin.mk.inj this
theorem word_long {g : Int → Int} {p : Int} {n : Nat} (h7 : 7 < n) (hl : ∀ i : Nat, i < n → 97 ≤ g (p + (i : Int)) ∧ g (p + (i : Int)) ≤ 122) : wdK g p (p + (n : Int)) = 27 := by
  unfold wdK
  by_cases c : firstN (isWB g p (p + (n : Int))) 15 = -1
  · rw [if_pos c]
  · exfalso
    obtain ⟨a1, a2, a3⟩ := firstN_yes c
    obtain ⟨q, hq⟩ : ∃ q : Nat, firstN (isWB g p (p + (n : Int))) 15 = (q : Int) := ⟨(firstN (isWB g p (p + (n : Int))) 15).toNat, by omega⟩
    rw [hq] at a1 a2 a3
    have h := (isWB_iff (w := ⟨q, by omega⟩) hl).mp a3
    have h6 := wln_6 ⟨q, by omega⟩
    omega
/-- the tokens stand in the model's rows, up to the first END -/
def tokOk (g : Int → Int) (n : Int) (M : MI) : Prop := ∀ k : Nat, k ≤ 400 → (∀ i : Nat, i < k → kdT g n i ≠ 26) → cOf (M 56 (k : Int)) = kdT g n k ∧ M 57 (k : Int) = plT g n k ∧ (kdT g n k = 25 → M 58 (k : Int) = vlT g n k)

-- at
set_option maxHeartbeats 4000000 in
set_option maxRecDepth 100000 in
theorem c_X12_at (l : Launch) (D : va_G) (cy : Nat → ClassId) {N : Nat} {sh : MS} {ad : Nat → Nat} {M L : MI} {R : MR} (hS : Std N sh R) (i : Int) (hi : 0 ≤ i ∧ i ≤ 3000) (hz : 0 ≤ M 53 4 ∧ M 53 4 ≤ 2000) : Ctr l D cy yX12_at wsX12_at ({ frames := 0, cells := 0, slots := 0, locals := 0 } : Room) N sh ad M L R [.ref (ad 53), .int (iz i)] (pI N sh ad M L R (fun r => r = u8 ((bt (M 55) (M 53 4)) i) ∧ -128 ≤ (bt (M 55) (M 53 4)) i ∧ (bt (M 55) (M 53 4)) i < 128)) := by
  refine Ctr.ofI (by decide) rfl (Nat.le_of_ble_eq_true rfl) ?_
  intro K hKl hKd hRm hnm X hret
  have X : VX K cX12_at 2 wsX12_at RX12 := X
  show V K 2 0 0 N sh ad M L R [(0, .ref (ad 53)), (1, .int (iz i))] [] 0
  refine v_iload_n X 1 dX12_at_0 rfl rfl ?_
  refine v_aload_n X 0 dX12_at_1 rfl rfl ?_
  refine gt_X12_size X iwX12 (Std.lt hS rfl) (Std.k hS rfl rfl) (List.mem_cons_of_mem _ bw_19_10) dX12_at_2 (M 53 4) rfl (fun hr1 => ?_)
  refine v_icmp_ge X 21 dX12_at_5 (by decide) ⟨by omega, by omega⟩ ⟨by omega, by omega⟩ (fun u2 => ?_) (fun u2 => ?_)
  · skip
    refine v_iconst X dX12_at_21 ?_
    refine hret _ _ _ _ _ _ _ _ _ _ _ (some (.int (iz 0))) dX12_at_22 ⟨rfl, _, rfl⟩ (by decide) (by decide) (fun hmok => ?_)
    refine ⟨rfl, rfl, rfl, rfl, rfl, rfl, 0, rfl, ⟨by decide, by decide⟩, ?_⟩
    try dsimp only
    unfold bt
    rw [if_neg (by omega)]
    exact ⟨rfl, by decide, by decide⟩
  · skip
    refine v_aload_n X 0 dX12_at_8 rfl rfl ?_
    refine gt_X12_text X iwX12 (Std.lt hS rfl) (Std.k hS rfl rfl) (List.mem_cons_of_mem _ bw_7_15) dX12_at_9 55 (Std.r hS 3 rfl) ?_
    refine v_iload_n X 1 dX12_at_12 rfl rfl ?_
    refine v_bald X (M 55 i) (Std.lt hS rfl) (Std.at hS rfl rfl) (by omega) (by omega) dX12_at_13 rfl (fun hr3 => ?_)
    refine v_sipush X dX12_at_14 (by decide) ?_
    refine v_iand X (u8 (M 55 i)) dX12_at_17 (and_u8 (by omega)) ?_
    have hu := u8_b (z := M 55 i) (by omega)
    refine v_goto X 22 dX12_at_18 (by decide) ?_
    refine hret _ _ _ _ _ _ _ _ _ _ _ (some (.int (iz (u8 (M 55 i))))) dX12_at_22 ⟨rfl, _, rfl⟩ (by decide) (by decide) (fun hmok => ?_)
    refine ⟨rfl, rfl, rfl, rfl, rfl, rfl, (u8 (M 55 i)), rfl, ⟨by omega, by omega⟩, ?_⟩
    try dsimp only
    unfold bt
    rw [if_pos (by omega)]
    exact ⟨rfl, by omega, by omega⟩

-- more
set_option maxHeartbeats 4000000 in
set_option maxRecDepth 100000 in
theorem c_X12_more (l : Launch) (D : va_G) (cy : Nat → ClassId) {N : Nat} {sh : MS} {ad : Nat → Nat} {M L : MI} {R : MR} (a c : Int) (hc : 0 ≤ c ∧ c ≤ 1000) : Ctr l D cy yX12_more wsX12_more ({ frames := 0, cells := 0, slots := 0, locals := 0 } : Room) N sh ad M L R [.long (lz a), .int (iz c)] (pL N sh ad M L R (fun r => r = if c = 0 then a else 27 * a + (c - 96))) := by
  refine Ctr.ofL (by decide) rfl (Nat.le_of_ble_eq_true rfl) ?_
  intro K hKl hKd hRm hnm X hret
  have X : VX K cX12_more 3 wsX12_more RX12 := X
  show V K 3 0 0 N sh ad M L R [(0, .long (lz a)), (2, .int (iz c))] [] 0
  refine v_iload_n X 1 dX12_more_0 rfl rfl ?_
  refine v_if_ne X 8 dX12_more_1 (by decide) ⟨by omega, by omega⟩ (fun u1 => ?_) (fun u1 => ?_)
  · skip
    refine v_ldc2 X (x := lz 27) (List.mem_cons_of_mem _ bw_10_10) dX12_more_8 ?_
    refine v_lload_n X 0 dX12_more_11 rfl rfl ?_
    refine v_lmul X dX12_more_12 ?_
    refine v_iload_n X 1 dX12_more_13 rfl rfl ?_
    refine v_bipush X dX12_more_14 (by decide) ?_
    refine v_isub X dX12_more_16 ?_
    refine v_iconst X dX12_more_17 ?_
    refine v_iadd X dX12_more_18 ?_
    refine v_i2l X ((c - 97) + 1) dX12_more_19 (i2l_iz ⟨by omega, by omega⟩) ?_
    refine v_ladd X dX12_more_20 ?_
    refine hret _ _ _ _ _ _ _ _ _ _ _ (some (.long (lz ((27 * a) + ((c - 97) + 1))))) dX12_more_21 ⟨rfl, _, rfl⟩ (by decide) (by decide) (fun hmok => ?_)
    refine ⟨rfl, rfl, rfl, rfl, rfl, rfl, ((27 * a) + ((c - 97) + 1)), rfl, ?_⟩
    try dsimp only
    rw [if_neg (by omega)]
    omega
  · skip
    refine v_lload_n X 0 dX12_more_4 rfl rfl ?_
    refine v_goto X 21 dX12_more_5 (by decide) ?_
    refine hret _ _ _ _ _ _ _ _ _ _ _ (some (.long (lz a))) dX12_more_21 ⟨rfl, _, rfl⟩ (by decide) (by decide) (fun hmok => ?_)
    refine ⟨rfl, rfl, rfl, rfl, rfl, rfl, a, rfl, ?_⟩
    try dsimp only
    rw [if_pos (by omega)]

-- token
set_option maxHeartbeats 4000000 in
set_option maxRecDepth 100000 in
theorem c_X12_token (l : Launch) (D : va_G) (cy : Nat → ClassId) {N : Nat} {sh : MS} {ad : Nat → Nat} {M L : MI} {R : MR} (hS : Std N sh R) (k p v nm : Int) (hk : inR k) (hp : inR p) (hv : inR v) (hz : 0 ≤ M 53 10 ∧ M 53 10 ≤ 402) : Ctr l D cy yX12_token wsX12_token ({ frames := 0, cells := 0, slots := 0, locals := 0 } : Room) N sh ad M L R [.ref (ad 53), .int (iz k), .int (iz p), .int (iz v), .long (lz nm)] (eVL N sh ad R (fun M' L' => M' = mu (mu (mu (mu M 56 (M 53 10) k) 57 (M 53 10) p) 58 (M 53 10) v) 53 10 (M 53 10 + 1) ∧ ∀ i : Nat, i ≠ 59 → L' i = L i)) := by
  refine Ctr.ofV (by decide) rfl (Nat.le_of_ble_eq_true rfl) ?_
  intro K hKl hKd hRm hnm X hret
  have X : VX K cX12_token 6 wsX12_token RX12 := X
  show V K 6 0 0 N sh ad M L R [(0, .ref (ad 53)), (1, .int (iz k)), (2, .int (iz p)), (3, .int (iz v)), (4, .long (lz nm))] [] 0
  refine v_aload_n X 0 dX12_token_0 rfl rfl ?_
  refine gt_X12_tKind X iwX12 (Std.lt hS rfl) (Std.k hS rfl rfl) (List.mem_cons_of_mem _ bw_7_16) dX12_token_1 56 (Std.r hS 5 rfl) ?_
  refine v_aload_n X 0 dX12_token_4 rfl rfl ?_
  refine gt_X12_tokens X iwX12 (Std.lt hS rfl) (Std.k hS rfl rfl) (List.mem_cons_of_mem _ bw_19_23) dX12_token_5 (M 53 10) rfl (fun hr1 => ?_)
  refine v_iload_n X 1 dX12_token_8 rfl rfl ?_
  refine v_iast X (Std.lt hS rfl) (Std.at hS rfl rfl) (by omega) (by omega) ⟨by omega, by omega⟩ dX12_token_9 ?_
  refine v_aload_n X 0 dX12_token_10 rfl rfl ?_
  refine gt_X12_tPlace X iwX12 (Std.lt hS rfl) (Std.k hS rfl rfl) (List.mem_cons_of_mem _ bw_7_17) dX12_token_11 57 (Std.r hS 6 rfl) ?_
  refine v_aload_n X 0 dX12_token_14 rfl rfl ?_
  refine gt_X12_tokens X iwX12 (Std.lt hS rfl) (Std.k hS rfl rfl) (List.mem_cons_of_mem _ bw_19_23) dX12_token_15 (M 53 10) rfl (fun hr2 => ?_)
  refine v_iload_n X 2 dX12_token_18 rfl rfl ?_
  refine v_iast X (Std.lt hS rfl) (Std.at hS rfl rfl) (by omega) (by omega) ⟨by omega, by omega⟩ dX12_token_19 ?_
  refine v_aload_n X 0 dX12_token_20 rfl rfl ?_
  refine gt_X12_tValue X iwX12 (Std.lt hS rfl) (Std.k hS rfl rfl) (List.mem_cons_of_mem _ bw_7_18) dX12_token_21 58 (Std.r hS 7 rfl) ?_
  refine v_aload_n X 0 dX12_token_24 rfl rfl ?_
  refine gt_X12_tokens X iwX12 (Std.lt hS rfl) (Std.k hS rfl rfl) (List.mem_cons_of_mem _ bw_19_23) dX12_token_25 (M 53 10) rfl (fun hr3 => ?_)
  refine v_iload_n X 3 dX12_token_28 rfl rfl ?_
  refine v_iast X (Std.lt hS rfl) (Std.at hS rfl rfl) (by omega) (by omega) ⟨by omega, by omega⟩ dX12_token_29 ?_
  refine v_aload_n X 0 dX12_token_30 rfl rfl ?_
  refine gt_X12_tName X iwX12 (Std.lt hS rfl) (Std.k hS rfl rfl) (List.mem_cons_of_mem _ bw_7_20) dX12_token_31 59 (Std.r hS 8 rfl) ?_
  refine v_aload_n X 0 dX12_token_34 rfl rfl ?_
  refine gt_X12_tokens X iwX12 (Std.lt hS rfl) (Std.k hS rfl rfl) (List.mem_cons_of_mem _ bw_19_23) dX12_token_35 (M 53 10) rfl (fun hr4 => ?_)
  refine v_lload X 4 dX12_token_38 rfl ?_
  refine v_last X (Std.lt hS rfl) (Std.at hS rfl rfl) (by omega) (by omega) dX12_token_40 ?_
  refine v_aload_n X 0 dX12_token_41 rfl rfl ?_
  refine v_dup X dX12_token_42 rfl ?_
  refine gt_X12_tokens X iwX12 (Std.lt hS rfl) (Std.k hS rfl rfl) (List.mem_cons_of_mem _ bw_19_23) dX12_token_43 (M 53 10) rfl (fun hr5 => ?_)
  refine v_iconst X dX12_token_46 ?_
  refine v_iadd X dX12_token_47 ?_
  refine pt_X12_tokens X iwX12 (Std.lt hS rfl) (Std.k hS rfl rfl) (List.mem_cons_of_mem _ bw_19_23) ⟨by omega, by omega⟩ dX12_token_48 ?_
  refine hret _ _ _ _ _ _ _ _ _ _ _ none dX12_token_51 ⟨rfl, rfl⟩ (by decide) (by decide) (fun hmok => ?_)
  exact ⟨rfl, rfl, rfl, rfl, rfl, rfl, fun i hi => mu_i _ _ _ hi⟩

-- sign
set_option maxHeartbeats 4000000 in
set_option maxRecDepth 100000 in
theorem c_X12_sign (l : Launch) (D : va_G) (cy : Nat → ClassId) {N : Nat} {sh : MS} {ad : Nat → Nat} {M L : MI} {R : MR} (hS : Std N sh R) (i c d : Int) (hi : inR i) (hc : inR c) (hd : inR d) (hz : 0 ≤ M 53 10 ∧ M 53 10 ≤ 402) : Ctr l D cy yX12_sign wsX12_sign ({ frames := 1, cells := 0, slots := 0, locals := 25 } : Room) N sh ad M L R [.ref (ad 53), .int (iz i), .int (iz c), .int (iz d)] (eIL N sh ad R (fun r M' L' => r = sgN c d ∧ ∃ k : Int, cOf k = sgK c d ∧ M' = mu (mu (mu (mu M 56 (M 53 10) k) 57 (M 53 10) i) 58 (M 53 10) 0) 53 10 (M 53 10 + 1) ∧ ∀ i : Nat, i ≠ 59 → L' i = L i)) := by
  refine Ctr.ofI (by decide) rfl (Nat.le_of_ble_eq_true rfl) ?_
  intro K hKl hKd hRm hnm X hret
  have X : VX K cX12_sign 6 wsX12_sign RX12 := X
  show V K 6 0 0 N sh ad M L R [(0, .ref (ad 53)), (1, .int (iz i)), (2, .int (iz c)), (3, .int (iz d))] [] 0
  refine v_iload_n X 3 dX12_sign_0 rfl rfl ?_
  refine v_bipush X dX12_sign_1 (by decide) ?_
  refine v_icmp_eq X 10 dX12_sign_3 (by decide) ⟨by omega, by omega⟩ ⟨by decide, by decide⟩ (fun u1 => ?_) (fun u1 => ?_)
  · skip
    refine v_iload_n X 2 dX12_sign_10 rfl rfl ?_
    refine v_bipush X dX12_sign_11 (by decide) ?_
    refine v_icmp_ne X 21 dX12_sign_13 (by decide) ⟨by omega, by omega⟩ ⟨by decide, by decide⟩ (fun u2 => ?_) (fun u2 => ?_)
    · skip
      refine v_iload_n X 2 dX12_sign_21 rfl rfl ?_
      refine v_bipush X dX12_sign_22 (by decide) ?_
      refine v_icmp_ne X 32 dX12_sign_24 (by decide) ⟨by omega, by omega⟩ ⟨by decide, by decide⟩ (fun u3 => ?_) (fun u3 => ?_)
      · skip
        refine v_iload_n X 2 dX12_sign_32 rfl rfl ?_
        refine v_bipush X dX12_sign_33 (by decide) ?_
        refine v_icmp_ne X 43 dX12_sign_35 (by decide) ⟨by omega, by omega⟩ ⟨by decide, by decide⟩ (fun u4 => ?_) (fun u4 => ?_)
        · skip
          refine v_iconst X dX12_sign_43 ?_
          refine v_istore X [(4, .int (iz 0)), (0, .ref (ad 53)), (1, .int (iz i)), (2, .int (iz c)), (3, .int (iz d))] dX12_sign_44 (by decide) rfl ?_
          refine v_iconst X dX12_sign_46 ?_
          refine v_istore X [(5, .int (iz 3)), (4, .int (iz 0)), (0, .ref (ad 53)), (1, .int (iz i)), (2, .int (iz c)), (3, .int (iz d))] dX12_sign_47 (by decide) rfl ?_
          refine v_iload X 1 dX12_sign_49 rfl ?_
          refine v_if_le X 61 dX12_sign_51 (by decide) ⟨by decide, by decide⟩ (fun _ => ?_) (fun q => absurd (by decide) q)
          refine v_iload_n X 4 dX12_sign_61 rfl rfl ?_
          refine v_bipush X dX12_sign_62 (by decide) ?_
          refine v_icmp_ne X 73 dX12_sign_64 (by decide) ⟨by omega, by omega⟩ ⟨by decide, by decide⟩ (fun u5 => ?_) (fun u5 => ?_)
          · skip
            refine v_iload_n X 4 dX12_sign_73 rfl rfl ?_
            refine v_bipush X dX12_sign_74 (by decide) ?_
            refine v_icmp_ne X 86 dX12_sign_76 (by decide) ⟨by omega, by omega⟩ ⟨by decide, by decide⟩ (fun u6 => ?_) (fun u6 => ?_)
            · skip
              refine v_iload_n X 4 dX12_sign_86 rfl rfl ?_
              refine v_bipush X dX12_sign_87 (by decide) ?_
              refine v_icmp_ne X 99 dX12_sign_89 (by decide) ⟨by omega, by omega⟩ ⟨by decide, by decide⟩ (fun u7 => ?_) (fun u7 => ?_)
              · skip
                refine v_iload_n X 4 dX12_sign_99 rfl rfl ?_
                refine v_bipush X dX12_sign_100 (by decide) ?_
                refine v_icmp_ne X 112 dX12_sign_102 (by decide) ⟨by omega, by omega⟩ ⟨by decide, by decide⟩ (fun u8 => ?_) (fun u8 => ?_)
                · skip
                  refine v_iload_n X 4 dX12_sign_112 rfl rfl ?_
                  refine v_bipush X dX12_sign_113 (by decide) ?_
                  refine v_icmp_ne X 125 dX12_sign_115 (by decide) ⟨by omega, by omega⟩ ⟨by decide, by decide⟩ (fun u9 => ?_) (fun u9 => ?_)
                  · skip
                    refine v_iload_n X 4 dX12_sign_125 rfl rfl ?_
                    refine v_bipush X dX12_sign_126 (by decide) ?_
                    refine v_icmp_ne X 138 dX12_sign_128 (by decide) ⟨by omega, by omega⟩ ⟨by decide, by decide⟩ (fun u10 => ?_) (fun u10 => ?_)
                    · skip
                      refine v_iload_n X 4 dX12_sign_138 rfl rfl ?_
                      refine v_bipush X dX12_sign_139 (by decide) ?_
                      refine v_icmp_ne X 148 dX12_sign_141 (by decide) ⟨by omega, by omega⟩ ⟨by decide, by decide⟩ (fun u11 => ?_) (fun u11 => ?_)
                      · skip
                        refine v_aload_n X 2 dX12_sign_148 rfl rfl ?_
                        refine v_iload X 0 dX12_sign_149 rfl ?_
                        refine v_iload_n X 3 dX12_sign_151 rfl rfl ?_
                        refine v_iconst X dX12_sign_152 ?_
                        refine v_lconst X dX12_sign_153 (by decide) ?_
                        refine v_callV X [.int (iz 3), .int (iz i), .int (iz 0), .long (lz 0)] hRm (c_X12_token _ _ _ hS 3 i 0 0 ⟨by omega, by omega⟩ ⟨by omega, by omega⟩ ⟨by omega, by omega⟩ (show 0 ≤ (M 53 10) ∧ (M 53 10) ≤ 402 by omega)) (gV bw_20_4 bw_20_5 bw_20_6 bw_1_5 bw_20_7) rfl ddX12_token (by decide) (Std.lt hS rfl) (Std.k hS rfl rfl) ⟨rfl, by decide⟩ (Nat.le_of_ble_eq_true rfl) dX12_sign_154 (k_eVL (fun M12 L13 e14 => ?_))
                        refine v_iload X 1 dX12_sign_157 rfl ?_
                        refine v_if_le X 166 dX12_sign_159 (by decide) ⟨by decide, by decide⟩ (fun _ => ?_) (fun q => absurd (by decide) q)
                        refine v_iconst X dX12_sign_166 ?_
                        refine hret _ _ _ _ _ _ _ _ _ _ _ (some (.int (iz 1))) dX12_sign_167 ⟨rfl, _, rfl⟩ (by decide) (by decide) (fun hmok => ?_)
                        first | (exfalso; omega; done) | skip
                        all_goals have q9 : ¬ twB c d = true := twB_f.mpr (by omega)
                        all_goals refine ⟨rfl, rfl, rfl, rfl, 1, rfl, ⟨by decide, by decide⟩, by unfold sgN; rw [if_neg q9], 3, ?_, e14⟩
                        all_goals unfold sgK
                        all_goals rw [if_neg q9]
                        all_goals unfold sgS
                        all_goals repeat (first | rw [if_pos (by omega)] | rw [if_neg (by omega)])
                        all_goals rfl
                      · skip
                        refine v_bipush X dX12_sign_144 (by decide) ?_
                        refine v_istore X [(5, .int (iz 13)), (4, .int (iz 0)), (0, .ref (ad 53)), (1, .int (iz i)), (2, .int (iz c)), (3, .int (iz d))] dX12_sign_146 (by decide) rfl ?_
                        refine v_aload_n X 2 dX12_sign_148 rfl rfl ?_
                        refine v_iload X 0 dX12_sign_149 rfl ?_
                        refine v_iload_n X 3 dX12_sign_151 rfl rfl ?_
                        refine v_iconst X dX12_sign_152 ?_
                        refine v_lconst X dX12_sign_153 (by decide) ?_
                        refine v_callV X [.int (iz 13), .int (iz i), .int (iz 0), .long (lz 0)] hRm (c_X12_token _ _ _ hS 13 i 0 0 ⟨by omega, by omega⟩ ⟨by omega, by omega⟩ ⟨by omega, by omega⟩ (show 0 ≤ (M 53 10) ∧ (M 53 10) ≤ 402 by omega)) (gV bw_20_4 bw_20_5 bw_20_6 bw_1_5 bw_20_7) rfl ddX12_token (by decide) (Std.lt hS rfl) (Std.k hS rfl rfl) ⟨rfl, by decide⟩ (Nat.le_of_ble_eq_true rfl) dX12_sign_154 (k_eVL (fun M15 L16 e17 => ?_))
                        refine v_iload X 1 dX12_sign_157 rfl ?_
                        refine v_if_le X 166 dX12_sign_159 (by decide) ⟨by decide, by decide⟩ (fun _ => ?_) (fun q => absurd (by decide) q)
                        refine v_iconst X dX12_sign_166 ?_
                        refine hret _ _ _ _ _ _ _ _ _ _ _ (some (.int (iz 1))) dX12_sign_167 ⟨rfl, _, rfl⟩ (by decide) (by decide) (fun hmok => ?_)
                        first | (exfalso; omega; done) | skip
                        all_goals have q9 : ¬ twB c d = true := twB_f.mpr (by omega)
                        all_goals refine ⟨rfl, rfl, rfl, rfl, 1, rfl, ⟨by decide, by decide⟩, by unfold sgN; rw [if_neg q9], 13, ?_, e17⟩
                        all_goals unfold sgK
                        all_goals rw [if_neg q9]
                        all_goals unfold sgS
                        all_goals repeat (first | rw [if_pos (by omega)] | rw [if_neg (by omega)])
                        all_goals rfl
                    · skip
                      refine v_bipush X dX12_sign_131 (by decide) ?_
                      refine v_istore X [(5, .int (iz 10)), (4, .int (iz 0)), (0, .ref (ad 53)), (1, .int (iz i)), (2, .int (iz c)), (3, .int (iz d))] dX12_sign_133 (by decide) rfl ?_
                      refine v_goto X 148 dX12_sign_135 (by decide) ?_
                      refine v_aload_n X 2 dX12_sign_148 rfl rfl ?_
                      refine v_iload X 0 dX12_sign_149 rfl ?_
                      refine v_iload_n X 3 dX12_sign_151 rfl rfl ?_
                      refine v_iconst X dX12_sign_152 ?_
                      refine v_lconst X dX12_sign_153 (by decide) ?_
                      refine v_callV X [.int (iz 10), .int (iz i), .int (iz 0), .long (lz 0)] hRm (c_X12_token _ _ _ hS 10 i 0 0 ⟨by omega, by omega⟩ ⟨by omega, by omega⟩ ⟨by omega, by omega⟩ (show 0 ≤ (M 53 10) ∧ (M 53 10) ≤ 402 by omega)) (gV bw_20_4 bw_20_5 bw_20_6 bw_1_5 bw_20_7) rfl ddX12_token (by decide) (Std.lt hS rfl) (Std.k hS rfl rfl) ⟨rfl, by decide⟩ (Nat.le_of_ble_eq_true rfl) dX12_sign_154 (k_eVL (fun M18 L19 e20 => ?_))
                      refine v_iload X 1 dX12_sign_157 rfl ?_
                      refine v_if_le X 166 dX12_sign_159 (by decide) ⟨by decide, by decide⟩ (fun _ => ?_) (fun q => absurd (by decide) q)
                      refine v_iconst X dX12_sign_166 ?_
                      refine hret _ _ _ _ _ _ _ _ _ _ _ (some (.int (iz 1))) dX12_sign_167 ⟨rfl, _, rfl⟩ (by decide) (by decide) (fun hmok => ?_)
                      first | (exfalso; omega; done) | skip
                      all_goals have q9 : ¬ twB c d = true := twB_f.mpr (by omega)
                      all_goals refine ⟨rfl, rfl, rfl, rfl, 1, rfl, ⟨by decide, by decide⟩, by unfold sgN; rw [if_neg q9], 10, ?_, e20⟩
                      all_goals unfold sgK
                      all_goals rw [if_neg q9]
                      all_goals unfold sgS
                      all_goals repeat (first | rw [if_pos (by omega)] | rw [if_neg (by omega)])
                      all_goals rfl
                  · skip
                    refine v_bipush X dX12_sign_118 (by decide) ?_
                    refine v_istore X [(5, .int (iz 9)), (4, .int (iz 0)), (0, .ref (ad 53)), (1, .int (iz i)), (2, .int (iz c)), (3, .int (iz d))] dX12_sign_120 (by decide) rfl ?_
                    refine v_goto X 148 dX12_sign_122 (by decide) ?_
                    refine v_aload_n X 2 dX12_sign_148 rfl rfl ?_
                    refine v_iload X 0 dX12_sign_149 rfl ?_
                    refine v_iload_n X 3 dX12_sign_151 rfl rfl ?_
                    refine v_iconst X dX12_sign_152 ?_
                    refine v_lconst X dX12_sign_153 (by decide) ?_
                    refine v_callV X [.int (iz 9), .int (iz i), .int (iz 0), .long (lz 0)] hRm (c_X12_token _ _ _ hS 9 i 0 0 ⟨by omega, by omega⟩ ⟨by omega, by omega⟩ ⟨by omega, by omega⟩ (show 0 ≤ (M 53 10) ∧ (M 53 10) ≤ 402 by omega)) (gV bw_20_4 bw_20_5 bw_20_6 bw_1_5 bw_20_7) rfl ddX12_token (by decide) (Std.lt hS rfl) (Std.k hS rfl rfl) ⟨rfl, by decide⟩ (Nat.le_of_ble_eq_true rfl) dX12_sign_154 (k_eVL (fun M21 L22 e23 => ?_))
                    refine v_iload X 1 dX12_sign_157 rfl ?_
                    refine v_if_le X 166 dX12_sign_159 (by decide) ⟨by decide, by decide⟩ (fun _ => ?_) (fun q => absurd (by decide) q)
                    refine v_iconst X dX12_sign_166 ?_
                    refine hret _ _ _ _ _ _ _ _ _ _ _ (some (.int (iz 1))) dX12_sign_167 ⟨rfl, _, rfl⟩ (by decide) (by decide) (fun hmok => ?_)
                    first | (exfalso; omega; done) | skip
                    all_goals have q9 : ¬ twB c d = true := twB_f.mpr (by omega)
                    all_goals refine ⟨rfl, rfl, rfl, rfl, 1, rfl, ⟨by decide, by decide⟩, by unfold sgN; rw [if_neg q9], 9, ?_, e23⟩
                    all_goals unfold sgK
                    all_goals rw [if_neg q9]
                    all_goals unfold sgS
                    all_goals repeat (first | rw [if_pos (by omega)] | rw [if_neg (by omega)])
                    all_goals rfl
                · skip
                  refine v_bipush X dX12_sign_105 (by decide) ?_
                  refine v_istore X [(5, .int (iz 8)), (4, .int (iz 0)), (0, .ref (ad 53)), (1, .int (iz i)), (2, .int (iz c)), (3, .int (iz d))] dX12_sign_107 (by decide) rfl ?_
                  refine v_goto X 148 dX12_sign_109 (by decide) ?_
                  refine v_aload_n X 2 dX12_sign_148 rfl rfl ?_
                  refine v_iload X 0 dX12_sign_149 rfl ?_
                  refine v_iload_n X 3 dX12_sign_151 rfl rfl ?_
                  refine v_iconst X dX12_sign_152 ?_
                  refine v_lconst X dX12_sign_153 (by decide) ?_
                  refine v_callV X [.int (iz 8), .int (iz i), .int (iz 0), .long (lz 0)] hRm (c_X12_token _ _ _ hS 8 i 0 0 ⟨by omega, by omega⟩ ⟨by omega, by omega⟩ ⟨by omega, by omega⟩ (show 0 ≤ (M 53 10) ∧ (M 53 10) ≤ 402 by omega)) (gV bw_20_4 bw_20_5 bw_20_6 bw_1_5 bw_20_7) rfl ddX12_token (by decide) (Std.lt hS rfl) (Std.k hS rfl rfl) ⟨rfl, by decide⟩ (Nat.le_of_ble_eq_true rfl) dX12_sign_154 (k_eVL (fun M24 L25 e26 => ?_))
                  refine v_iload X 1 dX12_sign_157 rfl ?_
                  refine v_if_le X 166 dX12_sign_159 (by decide) ⟨by decide, by decide⟩ (fun _ => ?_) (fun q => absurd (by decide) q)
                  refine v_iconst X dX12_sign_166 ?_
                  refine hret _ _ _ _ _ _ _ _ _ _ _ (some (.int (iz 1))) dX12_sign_167 ⟨rfl, _, rfl⟩ (by decide) (by decide) (fun hmok => ?_)
                  first | (exfalso; omega; done) | skip
                  all_goals have q9 : ¬ twB c d = true := twB_f.mpr (by omega)
                  all_goals refine ⟨rfl, rfl, rfl, rfl, 1, rfl, ⟨by decide, by decide⟩, by unfold sgN; rw [if_neg q9], 8, ?_, e26⟩
                  all_goals unfold sgK
                  all_goals rw [if_neg q9]
                  all_goals unfold sgS
                  all_goals repeat (first | rw [if_pos (by omega)] | rw [if_neg (by omega)])
                  all_goals rfl
              · skip
                refine v_bipush X dX12_sign_92 (by decide) ?_
                refine v_istore X [(5, .int (iz 7)), (4, .int (iz 0)), (0, .ref (ad 53)), (1, .int (iz i)), (2, .int (iz c)), (3, .int (iz d))] dX12_sign_94 (by decide) rfl ?_
                refine v_goto X 148 dX12_sign_96 (by decide) ?_
                refine v_aload_n X 2 dX12_sign_148 rfl rfl ?_
                refine v_iload X 0 dX12_sign_149 rfl ?_
                refine v_iload_n X 3 dX12_sign_151 rfl rfl ?_
                refine v_iconst X dX12_sign_152 ?_
                refine v_lconst X dX12_sign_153 (by decide) ?_
                refine v_callV X [.int (iz 7), .int (iz i), .int (iz 0), .long (lz 0)] hRm (c_X12_token _ _ _ hS 7 i 0 0 ⟨by omega, by omega⟩ ⟨by omega, by omega⟩ ⟨by omega, by omega⟩ (show 0 ≤ (M 53 10) ∧ (M 53 10) ≤ 402 by omega)) (gV bw_20_4 bw_20_5 bw_20_6 bw_1_5 bw_20_7) rfl ddX12_token (by decide) (Std.lt hS rfl) (Std.k hS rfl rfl) ⟨rfl, by decide⟩ (Nat.le_of_ble_eq_true rfl) dX12_sign_154 (k_eVL (fun M27 L28 e29 => ?_))
                refine v_iload X 1 dX12_sign_157 rfl ?_
                refine v_if_le X 166 dX12_sign_159 (by decide) ⟨by decide, by decide⟩ (fun _ => ?_) (fun q => absurd (by decide) q)
                refine v_iconst X dX12_sign_166 ?_
                refine hret _ _ _ _ _ _ _ _ _ _ _ (some (.int (iz 1))) dX12_sign_167 ⟨rfl, _, rfl⟩ (by decide) (by decide) (fun hmok => ?_)
                first | (exfalso; omega; done) | skip
                all_goals have q9 : ¬ twB c d = true := twB_f.mpr (by omega)
                all_goals refine ⟨rfl, rfl, rfl, rfl, 1, rfl, ⟨by decide, by decide⟩, by unfold sgN; rw [if_neg q9], 7, ?_, e29⟩
                all_goals unfold sgK
                all_goals rw [if_neg q9]
                all_goals unfold sgS
                all_goals repeat (first | rw [if_pos (by omega)] | rw [if_neg (by omega)])
                all_goals rfl
            · skip
              refine v_bipush X dX12_sign_79 (by decide) ?_
              refine v_istore X [(5, .int (iz 6)), (4, .int (iz 0)), (0, .ref (ad 53)), (1, .int (iz i)), (2, .int (iz c)), (3, .int (iz d))] dX12_sign_81 (by decide) rfl ?_
              refine v_goto X 148 dX12_sign_83 (by decide) ?_
              refine v_aload_n X 2 dX12_sign_148 rfl rfl ?_
              refine v_iload X 0 dX12_sign_149 rfl ?_
              refine v_iload_n X 3 dX12_sign_151 rfl rfl ?_
              refine v_iconst X dX12_sign_152 ?_
              refine v_lconst X dX12_sign_153 (by decide) ?_
              refine v_callV X [.int (iz 6), .int (iz i), .int (iz 0), .long (lz 0)] hRm (c_X12_token _ _ _ hS 6 i 0 0 ⟨by omega, by omega⟩ ⟨by omega, by omega⟩ ⟨by omega, by omega⟩ (show 0 ≤ (M 53 10) ∧ (M 53 10) ≤ 402 by omega)) (gV bw_20_4 bw_20_5 bw_20_6 bw_1_5 bw_20_7) rfl ddX12_token (by decide) (Std.lt hS rfl) (Std.k hS rfl rfl) ⟨rfl, by decide⟩ (Nat.le_of_ble_eq_true rfl) dX12_sign_154 (k_eVL (fun M30 L31 e32 => ?_))
              refine v_iload X 1 dX12_sign_157 rfl ?_
              refine v_if_le X 166 dX12_sign_159 (by decide) ⟨by decide, by decide⟩ (fun _ => ?_) (fun q => absurd (by decide) q)
              refine v_iconst X dX12_sign_166 ?_
              refine hret _ _ _ _ _ _ _ _ _ _ _ (some (.int (iz 1))) dX12_sign_167 ⟨rfl, _, rfl⟩ (by decide) (by decide) (fun hmok => ?_)
              first | (exfalso; omega; done) | skip
              all_goals have q9 : ¬ twB c d = true := twB_f.mpr (by omega)
              all_goals refine ⟨rfl, rfl, rfl, rfl, 1, rfl, ⟨by decide, by decide⟩, by unfold sgN; rw [if_neg q9], 6, ?_, e32⟩
              all_goals unfold sgK
              all_goals rw [if_neg q9]
              all_goals unfold sgS
              all_goals repeat (first | rw [if_pos (by omega)] | rw [if_neg (by omega)])
              all_goals rfl
          · skip
            refine v_iconst X dX12_sign_67 ?_
            refine v_istore X [(5, .int (iz 4)), (4, .int (iz 0)), (0, .ref (ad 53)), (1, .int (iz i)), (2, .int (iz c)), (3, .int (iz d))] dX12_sign_68 (by decide) rfl ?_
            refine v_goto X 148 dX12_sign_70 (by decide) ?_
            refine v_aload_n X 2 dX12_sign_148 rfl rfl ?_
            refine v_iload X 0 dX12_sign_149 rfl ?_
            refine v_iload_n X 3 dX12_sign_151 rfl rfl ?_
            refine v_iconst X dX12_sign_152 ?_
            refine v_lconst X dX12_sign_153 (by decide) ?_
            refine v_callV X [.int (iz 4), .int (iz i), .int (iz 0), .long (lz 0)] hRm (c_X12_token _ _ _ hS 4 i 0 0 ⟨by omega, by omega⟩ ⟨by omega, by omega⟩ ⟨by omega, by omega⟩ (show 0 ≤ (M 53 10) ∧ (M 53 10) ≤ 402 by omega)) (gV bw_20_4 bw_20_5 bw_20_6 bw_1_5 bw_20_7) rfl ddX12_token (by decide) (Std.lt hS rfl) (Std.k hS rfl rfl) ⟨rfl, by decide⟩ (Nat.le_of_ble_eq_true rfl) dX12_sign_154 (k_eVL (fun M33 L34 e35 => ?_))
            refine v_iload X 1 dX12_sign_157 rfl ?_
            refine v_if_le X 166 dX12_sign_159 (by decide) ⟨by decide, by decide⟩ (fun _ => ?_) (fun q => absurd (by decide) q)
            refine v_iconst X dX12_sign_166 ?_
            refine hret _ _ _ _ _ _ _ _ _ _ _ (some (.int (iz 1))) dX12_sign_167 ⟨rfl, _, rfl⟩ (by decide) (by decide) (fun hmok => ?_)
            first | (exfalso; omega; done) | skip
            all_goals have q9 : ¬ twB c d = true := twB_f.mpr (by omega)
            all_goals refine ⟨rfl, rfl, rfl, rfl, 1, rfl, ⟨by decide, by decide⟩, by unfold sgN; rw [if_neg q9], 4, ?_, e35⟩
            all_goals unfold sgK
            all_goals rw [if_neg q9]
            all_goals unfold sgS
            all_goals repeat (first | rw [if_pos (by omega)] | rw [if_neg (by omega)])
            all_goals rfl
        · skip
          refine v_bipush X dX12_sign_38 (by decide) ?_
          refine v_goto X 44 dX12_sign_40 (by decide) ?_
          refine v_istore X [(4, .int (iz 14)), (0, .ref (ad 53)), (1, .int (iz i)), (2, .int (iz c)), (3, .int (iz d))] dX12_sign_44 (by decide) rfl ?_
          refine v_iconst X dX12_sign_46 ?_
          refine v_istore X [(5, .int (iz 3)), (4, .int (iz 14)), (0, .ref (ad 53)), (1, .int (iz i)), (2, .int (iz c)), (3, .int (iz d))] dX12_sign_47 (by decide) rfl ?_
          refine v_iload X 1 dX12_sign_49 rfl ?_
          refine v_if_le X 61 dX12_sign_51 (by decide) ⟨by decide, by decide⟩ (fun q => absurd q (by decide)) (fun _ => ?_)
          refine v_iload X 1 dX12_sign_54 rfl ?_
          refine v_istore X [(5, .int (iz 14)), (4, .int (iz 14)), (0, .ref (ad 53)), (1, .int (iz i)), (2, .int (iz c)), (3, .int (iz d))] dX12_sign_56 (by decide) rfl ?_
          refine v_goto X 148 dX12_sign_58 (by decide) ?_
          refine v_aload_n X 2 dX12_sign_148 rfl rfl ?_
          refine v_iload X 0 dX12_sign_149 rfl ?_
          refine v_iload_n X 3 dX12_sign_151 rfl rfl ?_
          refine v_iconst X dX12_sign_152 ?_
          refine v_lconst X dX12_sign_153 (by decide) ?_
          refine v_callV X [.int (iz 14), .int (iz i), .int (iz 0), .long (lz 0)] hRm (c_X12_token _ _ _ hS 14 i 0 0 ⟨by omega, by omega⟩ ⟨by omega, by omega⟩ ⟨by omega, by omega⟩ (show 0 ≤ (M 53 10) ∧ (M 53 10) ≤ 402 by omega)) (gV bw_20_4 bw_20_5 bw_20_6 bw_1_5 bw_20_7) rfl ddX12_token (by decide) (Std.lt hS rfl) (Std.k hS rfl rfl) ⟨rfl, by decide⟩ (Nat.le_of_ble_eq_true rfl) dX12_sign_154 (k_eVL (fun M36 L37 e38 => ?_))
          refine v_iload X 1 dX12_sign_157 rfl ?_
          refine v_if_le X 166 dX12_sign_159 (by decide) ⟨by decide, by decide⟩ (fun q => absurd q (by decide)) (fun _ => ?_)
          refine v_iconst X dX12_sign_162 ?_
          refine v_goto X 167 dX12_sign_163 (by decide) ?_
          refine hret _ _ _ _ _ _ _ _ _ _ _ (some (.int (iz 2))) dX12_sign_167 ⟨rfl, _, rfl⟩ (by decide) (by decide) (fun hmok => ?_)
          first | (exfalso; omega; done) | skip
          all_goals have q9 : twB c d = true := twB_t.mpr (by omega)
          all_goals refine ⟨rfl, rfl, rfl, rfl, 2, rfl, ⟨by decide, by decide⟩, by unfold sgN; rw [if_pos q9], 14, ?_, e38⟩
          all_goals unfold sgK
          all_goals rw [if_pos q9]
          all_goals unfold prK
          all_goals repeat (first | rw [if_pos (by omega)] | rw [if_neg (by omega)])
          all_goals rfl
      · skip
        refine v_bipush X dX12_sign_27 (by decide) ?_
        refine v_goto X 44 dX12_sign_29 (by decide) ?_
        refine v_istore X [(4, .int (iz 12)), (0, .ref (ad 53)), (1, .int (iz i)), (2, .int (iz c)), (3, .int (iz d))] dX12_sign_44 (by decide) rfl ?_
        refine v_iconst X dX12_sign_46 ?_
        refine v_istore X [(5, .int (iz 3)), (4, .int (iz 12)), (0, .ref (ad 53)), (1, .int (iz i)), (2, .int (iz c)), (3, .int (iz d))] dX12_sign_47 (by decide) rfl ?_
        refine v_iload X 1 dX12_sign_49 rfl ?_
        refine v_if_le X 61 dX12_sign_51 (by decide) ⟨by decide, by decide⟩ (fun q => absurd q (by decide)) (fun _ => ?_)
        refine v_iload X 1 dX12_sign_54 rfl ?_
        refine v_istore X [(5, .int (iz 12)), (4, .int (iz 12)), (0, .ref (ad 53)), (1, .int (iz i)), (2, .int (iz c)), (3, .int (iz d))] dX12_sign_56 (by decide) rfl ?_
        refine v_goto X 148 dX12_sign_58 (by decide) ?_
        refine v_aload_n X 2 dX12_sign_148 rfl rfl ?_
        refine v_iload X 0 dX12_sign_149 rfl ?_
        refine v_iload_n X 3 dX12_sign_151 rfl rfl ?_
        refine v_iconst X dX12_sign_152 ?_
        refine v_lconst X dX12_sign_153 (by decide) ?_
        refine v_callV X [.int (iz 12), .int (iz i), .int (iz 0), .long (lz 0)] hRm (c_X12_token _ _ _ hS 12 i 0 0 ⟨by omega, by omega⟩ ⟨by omega, by omega⟩ ⟨by omega, by omega⟩ (show 0 ≤ (M 53 10) ∧ (M 53 10) ≤ 402 by omega)) (gV bw_20_4 bw_20_5 bw_20_6 bw_1_5 bw_20_7) rfl ddX12_token (by decide) (Std.lt hS rfl) (Std.k hS rfl rfl) ⟨rfl, by decide⟩ (Nat.le_of_ble_eq_true rfl) dX12_sign_154 (k_eVL (fun M39 L40 e41 => ?_))
        refine v_iload X 1 dX12_sign_157 rfl ?_
        refine v_if_le X 166 dX12_sign_159 (by decide) ⟨by decide, by decide⟩ (fun q => absurd q (by decide)) (fun _ => ?_)
        refine v_iconst X dX12_sign_162 ?_
        refine v_goto X 167 dX12_sign_163 (by decide) ?_
        refine hret _ _ _ _ _ _ _ _ _ _ _ (some (.int (iz 2))) dX12_sign_167 ⟨rfl, _, rfl⟩ (by decide) (by decide) (fun hmok => ?_)
        first | (exfalso; omega; done) | skip
        all_goals have q9 : twB c d = true := twB_t.mpr (by omega)
        all_goals refine ⟨rfl, rfl, rfl, rfl, 2, rfl, ⟨by decide, by decide⟩, by unfold sgN; rw [if_pos q9], 12, ?_, e41⟩
        all_goals unfold sgK
        all_goals rw [if_pos q9]
        all_goals unfold prK
        all_goals repeat (first | rw [if_pos (by omega)] | rw [if_neg (by omega)])
        all_goals rfl
    · skip
      refine v_bipush X dX12_sign_16 (by decide) ?_
      refine v_goto X 44 dX12_sign_18 (by decide) ?_
      refine v_istore X [(4, .int (iz 11)), (0, .ref (ad 53)), (1, .int (iz i)), (2, .int (iz c)), (3, .int (iz d))] dX12_sign_44 (by decide) rfl ?_
      refine v_iconst X dX12_sign_46 ?_
      refine v_istore X [(5, .int (iz 3)), (4, .int (iz 11)), (0, .ref (ad 53)), (1, .int (iz i)), (2, .int (iz c)), (3, .int (iz d))] dX12_sign_47 (by decide) rfl ?_
      refine v_iload X 1 dX12_sign_49 rfl ?_
      refine v_if_le X 61 dX12_sign_51 (by decide) ⟨by decide, by decide⟩ (fun q => absurd q (by decide)) (fun _ => ?_)
      refine v_iload X 1 dX12_sign_54 rfl ?_
      refine v_istore X [(5, .int (iz 11)), (4, .int (iz 11)), (0, .ref (ad 53)), (1, .int (iz i)), (2, .int (iz c)), (3, .int (iz d))] dX12_sign_56 (by decide) rfl ?_
      refine v_goto X 148 dX12_sign_58 (by decide) ?_
      refine v_aload_n X 2 dX12_sign_148 rfl rfl ?_
      refine v_iload X 0 dX12_sign_149 rfl ?_
      refine v_iload_n X 3 dX12_sign_151 rfl rfl ?_
      refine v_iconst X dX12_sign_152 ?_
      refine v_lconst X dX12_sign_153 (by decide) ?_
      refine v_callV X [.int (iz 11), .int (iz i), .int (iz 0), .long (lz 0)] hRm (c_X12_token _ _ _ hS 11 i 0 0 ⟨by omega, by omega⟩ ⟨by omega, by omega⟩ ⟨by omega, by omega⟩ (show 0 ≤ (M 53 10) ∧ (M 53 10) ≤ 402 by omega)) (gV bw_20_4 bw_20_5 bw_20_6 bw_1_5 bw_20_7) rfl ddX12_token (by decide) (Std.lt hS rfl) (Std.k hS rfl rfl) ⟨rfl, by decide⟩ (Nat.le_of_ble_eq_true rfl) dX12_sign_154 (k_eVL (fun M42 L43 e44 => ?_))
      refine v_iload X 1 dX12_sign_157 rfl ?_
      refine v_if_le X 166 dX12_sign_159 (by decide) ⟨by decide, by decide⟩ (fun q => absurd q (by decide)) (fun _ => ?_)
      refine v_iconst X dX12_sign_162 ?_
      refine v_goto X 167 dX12_sign_163 (by decide) ?_
      refine hret _ _ _ _ _ _ _ _ _ _ _ (some (.int (iz 2))) dX12_sign_167 ⟨rfl, _, rfl⟩ (by decide) (by decide) (fun hmok => ?_)
      first | (exfalso; omega; done) | skip
      all_goals have q9 : twB c d = true := twB_t.mpr (by omega)
      all_goals refine ⟨rfl, rfl, rfl, rfl, 2, rfl, ⟨by decide, by decide⟩, by unfold sgN; rw [if_pos q9], 11, ?_, e44⟩
      all_goals unfold sgK
      all_goals rw [if_pos q9]
      all_goals unfold prK
      all_goals repeat (first | rw [if_pos (by omega)] | rw [if_neg (by omega)])
      all_goals rfl
  · skip
    refine v_iconst X dX12_sign_6 ?_
    refine v_goto X 44 dX12_sign_7 (by decide) ?_
    refine v_istore X [(4, .int (iz 0)), (0, .ref (ad 53)), (1, .int (iz i)), (2, .int (iz c)), (3, .int (iz d))] dX12_sign_44 (by decide) rfl ?_
    refine v_iconst X dX12_sign_46 ?_
    refine v_istore X [(5, .int (iz 3)), (4, .int (iz 0)), (0, .ref (ad 53)), (1, .int (iz i)), (2, .int (iz c)), (3, .int (iz d))] dX12_sign_47 (by decide) rfl ?_
    refine v_iload X 1 dX12_sign_49 rfl ?_
    refine v_if_le X 61 dX12_sign_51 (by decide) ⟨by decide, by decide⟩ (fun _ => ?_) (fun q => absurd (by decide) q)
    refine v_iload_n X 4 dX12_sign_61 rfl rfl ?_
    refine v_bipush X dX12_sign_62 (by decide) ?_
    refine v_icmp_ne X 73 dX12_sign_64 (by decide) ⟨by omega, by omega⟩ ⟨by decide, by decide⟩ (fun u45 => ?_) (fun u45 => ?_)
    · skip
      refine v_iload_n X 4 dX12_sign_73 rfl rfl ?_
      refine v_bipush X dX12_sign_74 (by decide) ?_
      refine v_icmp_ne X 86 dX12_sign_76 (by decide) ⟨by omega, by omega⟩ ⟨by decide, by decide⟩ (fun u46 => ?_) (fun u46 => ?_)
      · skip
        refine v_iload_n X 4 dX12_sign_86 rfl rfl ?_
        refine v_bipush X dX12_sign_87 (by decide) ?_
        refine v_icmp_ne X 99 dX12_sign_89 (by decide) ⟨by omega, by omega⟩ ⟨by decide, by decide⟩ (fun u47 => ?_) (fun u47 => ?_)
        · skip
          refine v_iload_n X 4 dX12_sign_99 rfl rfl ?_
          refine v_bipush X dX12_sign_100 (by decide) ?_
          refine v_icmp_ne X 112 dX12_sign_102 (by decide) ⟨by omega, by omega⟩ ⟨by decide, by decide⟩ (fun u48 => ?_) (fun u48 => ?_)
          · skip
            refine v_iload_n X 4 dX12_sign_112 rfl rfl ?_
            refine v_bipush X dX12_sign_113 (by decide) ?_
            refine v_icmp_ne X 125 dX12_sign_115 (by decide) ⟨by omega, by omega⟩ ⟨by decide, by decide⟩ (fun u49 => ?_) (fun u49 => ?_)
            · skip
              refine v_iload_n X 4 dX12_sign_125 rfl rfl ?_
              refine v_bipush X dX12_sign_126 (by decide) ?_
              refine v_icmp_ne X 138 dX12_sign_128 (by decide) ⟨by omega, by omega⟩ ⟨by decide, by decide⟩ (fun u50 => ?_) (fun u50 => ?_)
              · skip
                refine v_iload_n X 4 dX12_sign_138 rfl rfl ?_
                refine v_bipush X dX12_sign_139 (by decide) ?_
                refine v_icmp_ne X 148 dX12_sign_141 (by decide) ⟨by omega, by omega⟩ ⟨by decide, by decide⟩ (fun u51 => ?_) (fun u51 => ?_)
                · skip
                  refine v_aload_n X 2 dX12_sign_148 rfl rfl ?_
                  refine v_iload X 0 dX12_sign_149 rfl ?_
                  refine v_iload_n X 3 dX12_sign_151 rfl rfl ?_
                  refine v_iconst X dX12_sign_152 ?_
                  refine v_lconst X dX12_sign_153 (by decide) ?_
                  refine v_callV X [.int (iz 3), .int (iz i), .int (iz 0), .long (lz 0)] hRm (c_X12_token _ _ _ hS 3 i 0 0 ⟨by omega, by omega⟩ ⟨by omega, by omega⟩ ⟨by omega, by omega⟩ (show 0 ≤ (M 53 10) ∧ (M 53 10) ≤ 402 by omega)) (gV bw_20_4 bw_20_5 bw_20_6 bw_1_5 bw_20_7) rfl ddX12_token (by decide) (Std.lt hS rfl) (Std.k hS rfl rfl) ⟨rfl, by decide⟩ (Nat.le_of_ble_eq_true rfl) dX12_sign_154 (k_eVL (fun M52 L53 e54 => ?_))
                  refine v_iload X 1 dX12_sign_157 rfl ?_
                  refine v_if_le X 166 dX12_sign_159 (by decide) ⟨by decide, by decide⟩ (fun _ => ?_) (fun q => absurd (by decide) q)
                  refine v_iconst X dX12_sign_166 ?_
                  refine hret _ _ _ _ _ _ _ _ _ _ _ (some (.int (iz 1))) dX12_sign_167 ⟨rfl, _, rfl⟩ (by decide) (by decide) (fun hmok => ?_)
                  first | (exfalso; omega; done) | skip
                  all_goals have q9 : ¬ twB c d = true := twB_f.mpr (by omega)
                  all_goals refine ⟨rfl, rfl, rfl, rfl, 1, rfl, ⟨by decide, by decide⟩, by unfold sgN; rw [if_neg q9], 3, ?_, e54⟩
                  all_goals unfold sgK
                  all_goals rw [if_neg q9]
                  all_goals unfold sgS
                  all_goals repeat (first | rw [if_pos (by omega)] | rw [if_neg (by omega)])
                  all_goals rfl
                · skip
                  refine v_bipush X dX12_sign_144 (by decide) ?_
                  refine v_istore X [(5, .int (iz 13)), (4, .int (iz 0)), (0, .ref (ad 53)), (1, .int (iz i)), (2, .int (iz c)), (3, .int (iz d))] dX12_sign_146 (by decide) rfl ?_
                  refine v_aload_n X 2 dX12_sign_148 rfl rfl ?_
                  refine v_iload X 0 dX12_sign_149 rfl ?_
                  refine v_iload_n X 3 dX12_sign_151 rfl rfl ?_
                  refine v_iconst X dX12_sign_152 ?_
                  refine v_lconst X dX12_sign_153 (by decide) ?_
                  refine v_callV X [.int (iz 13), .int (iz i), .int (iz 0), .long (lz 0)] hRm (c_X12_token _ _ _ hS 13 i 0 0 ⟨by omega, by omega⟩ ⟨by omega, by omega⟩ ⟨by omega, by omega⟩ (show 0 ≤ (M 53 10) ∧ (M 53 10) ≤ 402 by omega)) (gV bw_20_4 bw_20_5 bw_20_6 bw_1_5 bw_20_7) rfl ddX12_token (by decide) (Std.lt hS rfl) (Std.k hS rfl rfl) ⟨rfl, by decide⟩ (Nat.le_of_ble_eq_true rfl) dX12_sign_154 (k_eVL (fun M55 L56 e57 => ?_))
                  refine v_iload X 1 dX12_sign_157 rfl ?_
                  refine v_if_le X 166 dX12_sign_159 (by decide) ⟨by decide, by decide⟩ (fun _ => ?_) (fun q => absurd (by decide) q)
                  refine v_iconst X dX12_sign_166 ?_
                  refine hret _ _ _ _ _ _ _ _ _ _ _ (some (.int (iz 1))) dX12_sign_167 ⟨rfl, _, rfl⟩ (by decide) (by decide) (fun hmok => ?_)
                  first | (exfalso; omega; done) | skip
                  all_goals have q9 : ¬ twB c d = true := twB_f.mpr (by omega)
                  all_goals refine ⟨rfl, rfl, rfl, rfl, 1, rfl, ⟨by decide, by decide⟩, by unfold sgN; rw [if_neg q9], 13, ?_, e57⟩
                  all_goals unfold sgK
                  all_goals rw [if_neg q9]
                  all_goals unfold sgS
                  all_goals repeat (first | rw [if_pos (by omega)] | rw [if_neg (by omega)])
                  all_goals rfl
              · skip
                refine v_bipush X dX12_sign_131 (by decide) ?_
                refine v_istore X [(5, .int (iz 10)), (4, .int (iz 0)), (0, .ref (ad 53)), (1, .int (iz i)), (2, .int (iz c)), (3, .int (iz d))] dX12_sign_133 (by decide) rfl ?_
                refine v_goto X 148 dX12_sign_135 (by decide) ?_
                refine v_aload_n X 2 dX12_sign_148 rfl rfl ?_
                refine v_iload X 0 dX12_sign_149 rfl ?_
                refine v_iload_n X 3 dX12_sign_151 rfl rfl ?_
                refine v_iconst X dX12_sign_152 ?_
                refine v_lconst X dX12_sign_153 (by decide) ?_
                refine v_callV X [.int (iz 10), .int (iz i), .int (iz 0), .long (lz 0)] hRm (c_X12_token _ _ _ hS 10 i 0 0 ⟨by omega, by omega⟩ ⟨by omega, by omega⟩ ⟨by omega, by omega⟩ (show 0 ≤ (M 53 10) ∧ (M 53 10) ≤ 402 by omega)) (gV bw_20_4 bw_20_5 bw_20_6 bw_1_5 bw_20_7) rfl ddX12_token (by decide) (Std.lt hS rfl) (Std.k hS rfl rfl) ⟨rfl, by decide⟩ (Nat.le_of_ble_eq_true rfl) dX12_sign_154 (k_eVL (fun M58 L59 e60 => ?_))
                refine v_iload X 1 dX12_sign_157 rfl ?_
                refine v_if_le X 166 dX12_sign_159 (by decide) ⟨by decide, by decide⟩ (fun _ => ?_) (fun q => absurd (by decide) q)
                refine v_iconst X dX12_sign_166 ?_
                refine hret _ _ _ _ _ _ _ _ _ _ _ (some (.int (iz 1))) dX12_sign_167 ⟨rfl, _, rfl⟩ (by decide) (by decide) (fun hmok => ?_)
                first | (exfalso; omega; done) | skip
                all_goals have q9 : ¬ twB c d = true := twB_f.mpr (by omega)
                all_goals refine ⟨rfl, rfl, rfl, rfl, 1, rfl, ⟨by decide, by decide⟩, by unfold sgN; rw [if_neg q9], 10, ?_, e60⟩
                all_goals unfold sgK
                all_goals rw [if_neg q9]
                all_goals unfold sgS
                all_goals repeat (first | rw [if_pos (by omega)] | rw [if_neg (by omega)])
                all_goals rfl
            · skip
              refine v_bipush X dX12_sign_118 (by decide) ?_
              refine v_istore X [(5, .int (iz 9)), (4, .int (iz 0)), (0, .ref (ad 53)), (1, .int (iz i)), (2, .int (iz c)), (3, .int (iz d))] dX12_sign_120 (by decide) rfl ?_
              refine v_goto X 148 dX12_sign_122 (by decide) ?_
              refine v_aload_n X 2 dX12_sign_148 rfl rfl ?_
              refine v_iload X 0 dX12_sign_149 rfl ?_
              refine v_iload_n X 3 dX12_sign_151 rfl rfl ?_
              refine v_iconst X dX12_sign_152 ?_
              refine v_lconst X dX12_sign_153 (by decide) ?_
              refine v_callV X [.int (iz 9), .int (iz i), .int (iz 0), .long (lz 0)] hRm (c_X12_token _ _ _ hS 9 i 0 0 ⟨by omega, by omega⟩ ⟨by omega, by omega⟩ ⟨by omega, by omega⟩ (show 0 ≤ (M 53 10) ∧ (M 53 10) ≤ 402 by omega)) (gV bw_20_4 bw_20_5 bw_20_6 bw_1_5 bw_20_7) rfl ddX12_token (by decide) (Std.lt hS rfl) (Std.k hS rfl rfl) ⟨rfl, by decide⟩ (Nat.le_of_ble_eq_true rfl) dX12_sign_154 (k_eVL (fun M61 L62 e63 => ?_))
              refine v_iload X 1 dX12_sign_157 rfl ?_
              refine v_if_le X 166 dX12_sign_159 (by decide) ⟨by decide, by decide⟩ (fun _ => ?_) (fun q => absurd (by decide) q)
              refine v_iconst X dX12_sign_166 ?_
              refine hret _ _ _ _ _ _ _ _ _ _ _ (some (.int (iz 1))) dX12_sign_167 ⟨rfl, _, rfl⟩ (by decide) (by decide) (fun hmok => ?_)
              first | (exfalso; omega; done) | skip
              all_goals have q9 : ¬ twB c d = true := twB_f.mpr (by omega)
              all_goals refine ⟨rfl, rfl, rfl, rfl, 1, rfl, ⟨by decide, by decide⟩, by unfold sgN; rw [if_neg q9], 9, ?_, e63⟩
              all_goals unfold sgK
              all_goals rw [if_neg q9]
              all_goals unfold sgS
              all_goals repeat (first | rw [if_pos (by omega)] | rw [if_neg (by omega)])
              all_goals rfl
          · skip
            refine v_bipush X dX12_sign_105 (by decide) ?_
            refine v_istore X [(5, .int (iz 8)), (4, .int (iz 0)), (0, .ref (ad 53)), (1, .int (iz i)), (2, .int (iz c)), (3, .int (iz d))] dX12_sign_107 (by decide) rfl ?_
            refine v_goto X 148 dX12_sign_109 (by decide) ?_
            refine v_aload_n X 2 dX12_sign_148 rfl rfl ?_
            refine v_iload X 0 dX12_sign_149 rfl ?_
            refine v_iload_n X 3 dX12_sign_151 rfl rfl ?_
            refine v_iconst X dX12_sign_152 ?_
            refine v_lconst X dX12_sign_153 (by decide) ?_
            refine v_callV X [.int (iz 8), .int (iz i), .int (iz 0), .long (lz 0)] hRm (c_X12_token _ _ _ hS 8 i 0 0 ⟨by omega, by omega⟩ ⟨by omega, by omega⟩ ⟨by omega, by omega⟩ (show 0 ≤ (M 53 10) ∧ (M 53 10) ≤ 402 by omega)) (gV bw_20_4 bw_20_5 bw_20_6 bw_1_5 bw_20_7) rfl ddX12_token (by decide) (Std.lt hS rfl) (Std.k hS rfl rfl) ⟨rfl, by decide⟩ (Nat.le_of_ble_eq_true rfl) dX12_sign_154 (k_eVL (fun M64 L65 e66 => ?_))
            refine v_iload X 1 dX12_sign_157 rfl ?_
            refine v_if_le X 166 dX12_sign_159 (by decide) ⟨by decide, by decide⟩ (fun _ => ?_) (fun q => absurd (by decide) q)
            refine v_iconst X dX12_sign_166 ?_
            refine hret _ _ _ _ _ _ _ _ _ _ _ (some (.int (iz 1))) dX12_sign_167 ⟨rfl, _, rfl⟩ (by decide) (by decide) (fun hmok => ?_)
            first | (exfalso; omega; done) | skip
            all_goals have q9 : ¬ twB c d = true := twB_f.mpr (by omega)
            all_goals refine ⟨rfl, rfl, rfl, rfl, 1, rfl, ⟨by decide, by decide⟩, by unfold sgN; rw [if_neg q9], 8, ?_, e66⟩
            all_goals unfold sgK
            all_goals rw [if_neg q9]
            all_goals unfold sgS
            all_goals repeat (first | rw [if_pos (by omega)] | rw [if_neg (by omega)])
            all_goals rfl
        · skip
          refine v_bipush X dX12_sign_92 (by decide) ?_
          refine v_istore X [(5, .int (iz 7)), (4, .int (iz 0)), (0, .ref (ad 53)), (1, .int (iz i)), (2, .int (iz c)), (3, .int (iz d))] dX12_sign_94 (by decide) rfl ?_
          refine v_goto X 148 dX12_sign_96 (by decide) ?_
          refine v_aload_n X 2 dX12_sign_148 rfl rfl ?_
          refine v_iload X 0 dX12_sign_149 rfl ?_
          refine v_iload_n X 3 dX12_sign_151 rfl rfl ?_
          refine v_iconst X dX12_sign_152 ?_
          refine v_lconst X dX12_sign_153 (by decide) ?_
          refine v_callV X [.int (iz 7), .int (iz i), .int (iz 0), .long (lz 0)] hRm (c_X12_token _ _ _ hS 7 i 0 0 ⟨by omega, by omega⟩ ⟨by omega, by omega⟩ ⟨by omega, by omega⟩ (show 0 ≤ (M 53 10) ∧ (M 53 10) ≤ 402 by omega)) (gV bw_20_4 bw_20_5 bw_20_6 bw_1_5 bw_20_7) rfl ddX12_token (by decide) (Std.lt hS rfl) (Std.k hS rfl rfl) ⟨rfl, by decide⟩ (Nat.le_of_ble_eq_true rfl) dX12_sign_154 (k_eVL (fun M67 L68 e69 => ?_))
          refine v_iload X 1 dX12_sign_157 rfl ?_
          refine v_if_le X 166 dX12_sign_159 (by decide) ⟨by decide, by decide⟩ (fun _ => ?_) (fun q => absurd (by decide) q)
          refine v_iconst X dX12_sign_166 ?_
          refine hret _ _ _ _ _ _ _ _ _ _ _ (some (.int (iz 1))) dX12_sign_167 ⟨rfl, _, rfl⟩ (by decide) (by decide) (fun hmok => ?_)
          first | (exfalso; omega; done) | skip
          all_goals have q9 : ¬ twB c d = true := twB_f.mpr (by omega)
          all_goals refine ⟨rfl, rfl, rfl, rfl, 1, rfl, ⟨by decide, by decide⟩, by unfold sgN; rw [if_neg q9], 7, ?_, e69⟩
          all_goals unfold sgK
          all_goals rw [if_neg q9]
          all_goals unfold sgS
          all_goals repeat (first | rw [if_pos (by omega)] | rw [if_neg (by omega)])
          all_goals rfl
      · skip
        refine v_bipush X dX12_sign_79 (by decide) ?_
        refine v_istore X [(5, .int (iz 6)), (4, .int (iz 0)), (0, .ref (ad 53)), (1, .int (iz i)), (2, .int (iz c)), (3, .int (iz d))] dX12_sign_81 (by decide) rfl ?_
        refine v_goto X 148 dX12_sign_83 (by decide) ?_
        refine v_aload_n X 2 dX12_sign_148 rfl rfl ?_
        refine v_iload X 0 dX12_sign_149 rfl ?_
        refine v_iload_n X 3 dX12_sign_151 rfl rfl ?_
        refine v_iconst X dX12_sign_152 ?_
        refine v_lconst X dX12_sign_153 (by decide) ?_
        refine v_callV X [.int (iz 6), .int (iz i), .int (iz 0), .long (lz 0)] hRm (c_X12_token _ _ _ hS 6 i 0 0 ⟨by omega, by omega⟩ ⟨by omega, by omega⟩ ⟨by omega, by omega⟩ (show 0 ≤ (M 53 10) ∧ (M 53 10) ≤ 402 by omega)) (gV bw_20_4 bw_20_5 bw_20_6 bw_1_5 bw_20_7) rfl ddX12_token (by decide) (Std.lt hS rfl) (Std.k hS rfl rfl) ⟨rfl, by decide⟩ (Nat.le_of_ble_eq_true rfl) dX12_sign_154 (k_eVL (fun M70 L71 e72 => ?_))
        refine v_iload X 1 dX12_sign_157 rfl ?_
        refine v_if_le X 166 dX12_sign_159 (by decide) ⟨by decide, by decide⟩ (fun _ => ?_) (fun q => absurd (by decide) q)
        refine v_iconst X dX12_sign_166 ?_
        refine hret _ _ _ _ _ _ _ _ _ _ _ (some (.int (iz 1))) dX12_sign_167 ⟨rfl, _, rfl⟩ (by decide) (by decide) (fun hmok => ?_)
        first | (exfalso; omega; done) | skip
        all_goals have q9 : ¬ twB c d = true := twB_f.mpr (by omega)
        all_goals refine ⟨rfl, rfl, rfl, rfl, 1, rfl, ⟨by decide, by decide⟩, by unfold sgN; rw [if_neg q9], 6, ?_, e72⟩
        all_goals unfold sgK
        all_goals rw [if_neg q9]
        all_goals unfold sgS
        all_goals repeat (first | rw [if_pos (by omega)] | rw [if_neg (by omega)])
        all_goals rfl
    · skip
      refine v_iconst X dX12_sign_67 ?_
      refine v_istore X [(5, .int (iz 4)), (4, .int (iz 0)), (0, .ref (ad 53)), (1, .int (iz i)), (2, .int (iz c)), (3, .int (iz d))] dX12_sign_68 (by decide) rfl ?_
      refine v_goto X 148 dX12_sign_70 (by decide) ?_
      refine v_aload_n X 2 dX12_sign_148 rfl rfl ?_
      refine v_iload X 0 dX12_sign_149 rfl ?_
      refine v_iload_n X 3 dX12_sign_151 rfl rfl ?_
      refine v_iconst X dX12_sign_152 ?_
      refine v_lconst X dX12_sign_153 (by decide) ?_
      refine v_callV X [.int (iz 4), .int (iz i), .int (iz 0), .long (lz 0)] hRm (c_X12_token _ _ _ hS 4 i 0 0 ⟨by omega, by omega⟩ ⟨by omega, by omega⟩ ⟨by omega, by omega⟩ (show 0 ≤ (M 53 10) ∧ (M 53 10) ≤ 402 by omega)) (gV bw_20_4 bw_20_5 bw_20_6 bw_1_5 bw_20_7) rfl ddX12_token (by decide) (Std.lt hS rfl) (Std.k hS rfl rfl) ⟨rfl, by decide⟩ (Nat.le_of_ble_eq_true rfl) dX12_sign_154 (k_eVL (fun M73 L74 e75 => ?_))
      refine v_iload X 1 dX12_sign_157 rfl ?_
      refine v_if_le X 166 dX12_sign_159 (by decide) ⟨by decide, by decide⟩ (fun _ => ?_) (fun q => absurd (by decide) q)
      refine v_iconst X dX12_sign_166 ?_
      refine hret _ _ _ _ _ _ _ _ _ _ _ (some (.int (iz 1))) dX12_sign_167 ⟨rfl, _, rfl⟩ (by decide) (by decide) (fun hmok => ?_)
      first | (exfalso; omega; done) | skip
      all_goals have q9 : ¬ twB c d = true := twB_f.mpr (by omega)
      all_goals refine ⟨rfl, rfl, rfl, rfl, 1, rfl, ⟨by decide, by decide⟩, by unfold sgN; rw [if_neg q9], 4, ?_, e75⟩
      all_goals unfold sgK
      all_goals rw [if_neg q9]
      all_goals unfold sgS
      all_goals repeat (first | rw [if_pos (by omega)] | rw [if_neg (by omega)])
      all_goals rfl

