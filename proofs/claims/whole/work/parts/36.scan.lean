/-! CUTTING A TEXT, on a row g of n bytes (0 outside) -/
def bt (f : Int → Int) (n j : Int) : Int := if 0 ≤ j ∧ j < n then f j else 0
def sk (p : Int → Bool) (g : Int → Int) (n : Int) : Nat → Int → Int
  | 0, i => i
  | k + 1, i => if i < n ∧ p (g i) = true then sk p g n k (i + 1) else i
def skp (p : Int → Bool) (g : Int → Int) (n i : Int) : Int := sk p g n (n - i).toNat i
theorem skp_go {p : Int → Bool} {g : Int → Int} {n i : Int} (h : i < n) (hp : p (g i) = true) : skp p g n i = skp p g n (i + 1) := by
  unfold skp
  have e : (n - i).toNat = (n - (i + 1)).toNat + 1 := by omega
  rw [e]
  show (if i < n ∧ p (g i) = true then _ else _) = _
  rw [if_pos ⟨h, hp⟩]
theorem skp_st {p : Int → Bool} {g : Int → Int} {n i : Int} (h : ¬ (i < n ∧ p (g i) = true)) : skp p g n i = i := by
  unfold skp
  cases (n - i).toNat with
  | zero => rfl
  | succ k =>
    show (if i < n ∧ p (g i) = true then _ else _) = _
    rw [if_neg h]
theorem sk_le {p : Int → Bool} {g : Int → Int} {n : Int} : ∀ (k : Nat) (i : Int), i ≤ sk p g n k i
  | 0, i => Int.le_refl i
  | k + 1, i => by
    show i ≤ if i < n ∧ p (g i) = true then _ else _
    split
    · have := sk_le (p := p) (g := g) (n := n) k (i + 1)
      omega
    · omega
theorem sk_max {p : Int → Bool} {g : Int → Int} {n : Int} : ∀ (k : Nat) (i : Int), i ≤ n → sk p g n k i ≤ n
  | 0, i, h => h
  | k + 1, i, h => by
    show (if i < n ∧ p (g i) = true then _ else _) ≤ n
    split
    · exact sk_max k (i + 1) (by omega)
    · exact h
theorem sk_in {p : Int → Bool} {g : Int → Int} {n : Int} : ∀ (k : Nat) (i x : Int), i ≤ x → x < sk p g n k i → p (g x) = true
  | 0, i, x, h1, h2 => by
    have : x < i := h2
    omega
  | k + 1, i, x, h1, h2 => by
    have h3 : x < if i < n ∧ p (g i) = true then sk p g n k (i + 1) else i := h2
    by_cases c : i < n ∧ p (g i) = true
    · rw [if_pos c] at h3
      by_cases e : x = i
      · rw [e]; exact c.2
      · exact sk_in k (i + 1) x (by omega) h3
    · rw [if_neg c] at h3
      omega
theorem skp_le {p : Int → Bool} {g : Int → Int} {n i : Int} : i ≤ skp p g n i := sk_le _ _
theorem skp_max {p : Int → Bool} {g : Int → Int} {n i : Int} (h : i ≤ n) : skp p g n i ≤ n := sk_max _ _ h
theorem skp_in {p : Int → Bool} {g : Int → Int} {n i x : Int} (h : i ≤ x) (h2 : x < skp p g n i) : p (g x) = true := sk_in _ _ _ h h2
def blB (c : Int) : Bool := decide (c = 9 ∨ c = 10 ∨ c = 13 ∨ c = 32)
def ltB (c : Int) : Bool := decide (97 ≤ c ∧ c ≤ 122)
def dgB (c : Int) : Bool := decide (48 ≤ c ∧ c ≤ 57)
theorem blB_t {c : Int} : blB c = true ↔ (c = 9 ∨ c = 10 ∨ c = 13 ∨ c = 32) := decide_eq_true_iff
theorem ltB_t {c : Int} : ltB c = true ↔ (97 ≤ c ∧ c ≤ 122) := decide_eq_true_iff
theorem dgB_t {c : Int} : dgB c = true ↔ (48 ≤ c ∧ c ≤ 57) := decide_eq_true_iff
/-- the letters from p to e are word w's -/
def wEq (g : Int → Int) (p e w : Int) : Nat → Bool
  | 0 => true
  | k + 1 => wEq g p e w k && decide ((if p + (k : Int) < e then g (p + (k : Int)) else 32) = wch (w * 8 + (k : Int)))
theorem wEq_s (g : Int → Int) (p e w : Int) (k : Nat) : wEq g p e w (k + 1) = (wEq g p e w k && decide ((if p + (k : Int) < e then g (p + (k : Int)) else 32) = wch (w * 8 + (k : Int)))) := rfl
theorem wEq_f {g : Int → Int} {p e w : Int} {k m : Nat} (h : wEq g p e w k = false) (hk : k ≤ m) : wEq g p e w m = false := by
  induction m with
  | zero => obtain rfl : k = 0 := by omega
            exact h
  | succ m ih =>
    by_cases c : k = m + 1
    · rw [← c]; exact h
    · rw [wEq_s, ih (by omega), Bool.false_and]
def isWB (g : Int → Int) (p e w : Int) : Bool := decide (e - p ≤ 8) && wEq g p e w 8
def wdK (g : Int → Int) (p e : Int) : Int := if firstN (isWB g p e) 15 = -1 then 27 else firstN (isWB g p e) 15
def dgV (g : Int → Int) (p : Int) : Nat → Int
  | 0 => 0
  | k + 1 => wrp (dgV g p k * 10 + g (p + (k : Int)) - 48)
theorem dgV_s (g : Int → Int) (p : Int) (k : Nat) : dgV g p (k + 1) = wrp (dgV g p k * 10 + g (p + (k : Int)) - 48) := rfl
def prK (c : Int) : Int := if c = 61 then 19 else if c = 33 then 20 else if c = 60 then 22 else 27
def sgS (c : Int) : Int := if c = 59 then 15 else if c = 43 then 16 else if c = 45 then 17 else if c = 42 then 18 else if c = 60 then 21 else if c = 40 then 23 else if c = 41 then 24 else 27
def twB (c d : Int) : Bool := decide (d = 61 ∧ (c = 61 ∨ c = 33 ∨ c = 60))
theorem twB_t {c d : Int} : twB c d = true ↔ (d = 61 ∧ (c = 61 ∨ c = 33 ∨ c = 60)) := decide_eq_true_iff
theorem twB_f {c d : Int} : ¬ twB c d = true ↔ ¬ (d = 61 ∧ (c = 61 ∨ c = 33 ∨ c = 60)) := not_congr twB_t
def sgK (c d : Int) : Int := if twB c d = true then prK c else sgS c
def sgN (c d : Int) : Int := if twB c d = true then 2 else 1
def lexP (g : Int → Int) (n i : Int) : Int := skp blB g n i
/-- kind, value, end of the token at p -/
def tkK (g : Int → Int) (n p : Int) : Int := if n ≤ p then 26 else if ltB (g p) = true then wdK g p (skp ltB g n p) else if dgB (g p) = true then (if skp dgB g n p - p ≤ 4 then 25 else 27) else sgK (g p) (g (p + 1))
def tkV (g : Int → Int) (n p : Int) : Int := if n ≤ p then 0 else if ltB (g p) = true then 0 else if dgB (g p) = true then dgV g p (skp dgB g n p - p).toNat else 0
def tkE (g : Int → Int) (n p : Int) : Int := if n ≤ p then p else if ltB (g p) = true then skp ltB g n p else if dgB (g p) = true then skp dgB g n p else p + sgN (g p) (g (p + 1))
theorem sgK_in (c d : Int) : 15 ≤ sgK c d ∧ sgK c d ≤ 27 := by
  unfold sgK prK sgS
  repeat' split
  all_goals omega
theorem wdK_in (g : Int → Int) (p e : Int) : 0 ≤ wdK g p e ∧ wdK g p e ≤ 27 := by
  have := firstN_in (p := isWB g p e) 15
  unfold wdK
  split <;> omega
theorem tkK_in (g : Int → Int) (n p : Int) : 0 ≤ tkK g n p ∧ tkK g n p ≤ 27 := by
  have h1 := wdK_in g p (skp ltB g n p)
  have h2 := sgK_in (g p) (g (p + 1))
  unfold tkK
  repeat' split
  all_goals omega
theorem tk_end {g : Int → Int} {n p : Int} (h : n ≤ p) : tkK g n p = 26 ∧ tkV g n p = 0 ∧ tkE g n p = p := by
  unfold tkK tkV tkE
  rw [if_pos h, if_pos h, if_pos h]
  exact ⟨rfl, rfl, rfl⟩
theorem tk_word {g : Int → Int} {n p : Int} (h : p < n) (hl : ltB (g p) = true) : tkK g n p = wdK g p (skp ltB g n p) ∧ tkV g n p = 0 ∧ tkE g n p = skp ltB g n p := by
  have h1 : ¬ n ≤ p := by omega
  unfold tkK tkV tkE
  rw [if_neg h1, if_neg h1, if_neg h1, if_pos hl, if_pos hl, if_pos hl]
  exact ⟨rfl, rfl, rfl⟩
theorem tk_int {g : Int → Int} {n p : Int} (h : p < n) (hl : ¬ ltB (g p) = true) (hd : dgB (g p) = true) : tkK g n p = (if skp dgB g n p - p ≤ 4 then 25 else 27) ∧ tkV g n p = dgV g p (skp dgB g n p - p).toNat ∧ tkE g n p = skp dgB g n p := by
  have h1 : ¬ n ≤ p := by omega
  unfold tkK tkV tkE
  rw [if_neg h1, if_neg h1, if_neg h1, if_neg hl, if_neg hl, if_neg hl, if_pos hd, if_pos hd, if_pos hd]
  exact ⟨rfl, rfl, rfl⟩
theorem tk_sign {g : Int → Int} {n p : Int} (h : p < n) (hl : ¬ ltB (g p) = true) (hd : ¬ dgB (g p) = true) : tkK g n p = sgK (g p) (g (p + 1)) ∧ tkV g n p = 0 ∧ tkE g n p = p + sgN (g p) (g (p + 1)) := by
  have h1 : ¬ n ≤ p := by omega
  unfold tkK tkV tkE
  rw [if_neg h1, if_neg h1, if_neg h1, if_neg hl, if_neg hl, if_neg hl, if_neg hd, if_neg hd, if_neg hd]
  exact ⟨rfl, rfl, rfl⟩
theorem mu_id (M : MI) (i : Nat) (z : Int) : mu M i z (M i z) = M := by
  funext a b
  unfold mu
  split
  · rename_i h
    subst h
    split
    · rename_i h
      subst h
      rfl
    · rfl
  · rfl
theorem byte_bt {M : MI} {a : Int} (h : M 1 1 ≤ 2000) : (if 0 ≤ a ∧ a < M 1 1 ∧ a < 2000 then M 2 a else 0) = bt (M 2) (M 1 1) a := by
  unfold bt
  by_cases c : 0 ≤ a ∧ a < M 1 1
  · rw [if_pos c, if_pos ⟨c.1, c.2, by omega⟩]
  · rw [if_neg c, if_neg (fun z => c ⟨z.1, z.2.1⟩)]
theorem c_X9_byteAt2 (l : Launch) (D : va_G) (cy : Nat → ClassId) {N : Nat} {sh : MS} {ad : Nat → Nat} {M L : MI} {R : MR} (hS : Std N sh R) (a : Int) (ha : inR a) (h : M 1 1 ≤ 2000) : Ctr l D cy yX9_byteAt wsX9_byteAt ({ frames := 0, cells := 0, slots := 0, locals := 0 } : Room) N sh ad M L R [.ref (ad 1), .int (iz a)] (pI N sh ad M L R (fun r => r = bt (M 2) (M 1 1) a)) :=
  (c_X9_byteAt l D cy hS a ha).mono (fun rv N' sh' ad' M' L' R' h' => by
    obtain ⟨a1, a2, a3, a4, a5, a6, r, b1, b2, b3⟩ := h'
    exact ⟨a1, a2, a3, a4, a5, a6, r, b1, b2, b3.trans (byte_bt h)⟩)

-- isDigit
set_option maxHeartbeats 4000000 in
set_option maxRecDepth 100000 in
theorem c_X6_isDigit (l : Launch) (D : va_G) (cy : Nat → ClassId) {N : Nat} {sh : MS} {ad : Nat → Nat} {M L : MI} {R : MR} (a : Int) (ha : inR a) : Ctr l D cy yX6_isDigit wsX6_isDigit ({ frames := 0, cells := 0, slots := 0, locals := 0 } : Room) N sh ad M L R [.int (iz a)] (pB N sh ad M L R (48 ≤ a ∧ a ≤ 57)) := by
  refine Ctr.ofZ (by decide) rfl (Nat.le_of_ble_eq_true rfl) ?_
  intro K hKl hKd hRm hnm X hret
  have X : VX K cX6_isDigit 1 wsX6_isDigit RX6 := X
  show V K 1 0 0 N sh ad M L R [(0, .int (iz a))] [] 0
  refine v_iload_n X 0 dX6_isDigit_0 rfl rfl ?_
  refine v_bipush X dX6_isDigit_1 (by decide) ?_
  refine v_icmp_lt X 16 dX6_isDigit_3 (by decide) ⟨by omega, by omega⟩ ⟨by decide, by decide⟩ (fun u1 => ?_) (fun u1 => ?_)
  · skip
    refine v_iconst X dX6_isDigit_16 ?_
    refine hret _ _ _ _ _ _ _ _ _ _ _ (some (.int (iz 0))) dX6_isDigit_17 ⟨rfl, 0, ⟨by omega, by omega⟩, rfl⟩ (by decide) (by decide) (fun hmok => ?_)
    refine ⟨rfl, rfl, rfl, rfl, rfl, rfl, 0, rfl, Or.inr ⟨rfl, ?_⟩⟩
    omega
  · skip
    refine v_iload_n X 0 dX6_isDigit_6 rfl rfl ?_
    refine v_bipush X dX6_isDigit_7 (by decide) ?_
    refine v_icmp_gt X 16 dX6_isDigit_9 (by decide) ⟨by omega, by omega⟩ ⟨by decide, by decide⟩ (fun u2 => ?_) (fun u2 => ?_)
    · skip
      refine v_iconst X dX6_isDigit_16 ?_
      refine hret _ _ _ _ _ _ _ _ _ _ _ (some (.int (iz 0))) dX6_isDigit_17 ⟨rfl, 0, ⟨by omega, by omega⟩, rfl⟩ (by decide) (by decide) (fun hmok => ?_)
      refine ⟨rfl, rfl, rfl, rfl, rfl, rfl, 0, rfl, Or.inr ⟨rfl, ?_⟩⟩
      omega
    · skip
      refine v_iconst X dX6_isDigit_12 ?_
      refine v_goto X 17 dX6_isDigit_13 (by decide) ?_
      refine hret _ _ _ _ _ _ _ _ _ _ _ (some (.int (iz 1))) dX6_isDigit_17 ⟨rfl, 1, ⟨by omega, by omega⟩, rfl⟩ (by decide) (by decide) (fun hmok => ?_)
      refine ⟨rfl, rfl, rfl, rfl, rfl, rfl, 1, rfl, Or.inl ⟨rfl, ?_⟩⟩
      omega

-- isLetter
set_option maxHeartbeats 4000000 in
set_option maxRecDepth 100000 in
theorem c_X6_isLetter (l : Launch) (D : va_G) (cy : Nat → ClassId) {N : Nat} {sh : MS} {ad : Nat → Nat} {M L : MI} {R : MR} (a : Int) (ha : inR a) : Ctr l D cy yX6_isLetter wsX6_isLetter ({ frames := 0, cells := 0, slots := 0, locals := 0 } : Room) N sh ad M L R [.int (iz a)] (pB N sh ad M L R (97 ≤ a ∧ a ≤ 122)) := by
  refine Ctr.ofZ (by decide) rfl (Nat.le_of_ble_eq_true rfl) ?_
  intro K hKl hKd hRm hnm X hret
  have X : VX K cX6_isLetter 1 wsX6_isLetter RX6 := X
  show V K 1 0 0 N sh ad M L R [(0, .int (iz a))] [] 0
  refine v_iload_n X 0 dX6_isLetter_0 rfl rfl ?_
  refine v_bipush X dX6_isLetter_1 (by decide) ?_
  refine v_icmp_lt X 16 dX6_isLetter_3 (by decide) ⟨by omega, by omega⟩ ⟨by decide, by decide⟩ (fun u1 => ?_) (fun u1 => ?_)
  · skip
    refine v_iconst X dX6_isLetter_16 ?_
    refine hret _ _ _ _ _ _ _ _ _ _ _ (some (.int (iz 0))) dX6_isLetter_17 ⟨rfl, 0, ⟨by omega, by omega⟩, rfl⟩ (by decide) (by decide) (fun hmok => ?_)
    refine ⟨rfl, rfl, rfl, rfl, rfl, rfl, 0, rfl, Or.inr ⟨rfl, ?_⟩⟩
    omega
  · skip
    refine v_iload_n X 0 dX6_isLetter_6 rfl rfl ?_
    refine v_bipush X dX6_isLetter_7 (by decide) ?_
    refine v_icmp_gt X 16 dX6_isLetter_9 (by decide) ⟨by omega, by omega⟩ ⟨by decide, by decide⟩ (fun u2 => ?_) (fun u2 => ?_)
    · skip
      refine v_iconst X dX6_isLetter_16 ?_
      refine hret _ _ _ _ _ _ _ _ _ _ _ (some (.int (iz 0))) dX6_isLetter_17 ⟨rfl, 0, ⟨by omega, by omega⟩, rfl⟩ (by decide) (by decide) (fun hmok => ?_)
      refine ⟨rfl, rfl, rfl, rfl, rfl, rfl, 0, rfl, Or.inr ⟨rfl, ?_⟩⟩
      omega
    · skip
      refine v_iconst X dX6_isLetter_12 ?_
      refine v_goto X 17 dX6_isLetter_13 (by decide) ?_
      refine hret _ _ _ _ _ _ _ _ _ _ _ (some (.int (iz 1))) dX6_isLetter_17 ⟨rfl, 1, ⟨by omega, by omega⟩, rfl⟩ (by decide) (by decide) (fun hmok => ?_)
      refine ⟨rfl, rfl, rfl, rfl, rfl, rfl, 1, rfl, Or.inl ⟨rfl, ?_⟩⟩
      omega

-- isBlank
set_option maxHeartbeats 4000000 in
set_option maxRecDepth 100000 in
theorem c_X6_isBlank (l : Launch) (D : va_G) (cy : Nat → ClassId) {N : Nat} {sh : MS} {ad : Nat → Nat} {M L : MI} {R : MR} (a : Int) (ha : inR a) : Ctr l D cy yX6_isBlank wsX6_isBlank ({ frames := 0, cells := 0, slots := 0, locals := 0 } : Room) N sh ad M L R [.int (iz a)] (pB N sh ad M L R (a = 9 ∨ a = 10 ∨ a = 13 ∨ a = 32)) := by
  refine Ctr.ofZ (by decide) rfl (Nat.le_of_ble_eq_true rfl) ?_
  intro K hKl hKd hRm hnm X hret
  have X : VX K cX6_isBlank 1 wsX6_isBlank RX6 := X
  show V K 1 0 0 N sh ad M L R [(0, .int (iz a))] [] 0
  refine v_iload_n X 0 dX6_isBlank_0 rfl rfl ?_
  refine v_bipush X dX6_isBlank_1 (by decide) ?_
  refine v_icmp_eq X 24 dX6_isBlank_3 (by decide) ⟨by omega, by omega⟩ ⟨by decide, by decide⟩ (fun u1 => ?_) (fun u1 => ?_)
  · skip
    refine v_iconst X dX6_isBlank_24 ?_
    refine v_goto X 29 dX6_isBlank_25 (by decide) ?_
    refine hret _ _ _ _ _ _ _ _ _ _ _ (some (.int (iz 1))) dX6_isBlank_29 ⟨rfl, 1, ⟨by omega, by omega⟩, rfl⟩ (by decide) (by decide) (fun hmok => ?_)
    refine ⟨rfl, rfl, rfl, rfl, rfl, rfl, 1, rfl, Or.inl ⟨rfl, ?_⟩⟩
    omega
  · skip
    refine v_iload_n X 0 dX6_isBlank_6 rfl rfl ?_
    refine v_bipush X dX6_isBlank_7 (by decide) ?_
    refine v_icmp_eq X 24 dX6_isBlank_9 (by decide) ⟨by omega, by omega⟩ ⟨by decide, by decide⟩ (fun u2 => ?_) (fun u2 => ?_)
    · skip
      refine v_iconst X dX6_isBlank_24 ?_
      refine v_goto X 29 dX6_isBlank_25 (by decide) ?_
      refine hret _ _ _ _ _ _ _ _ _ _ _ (some (.int (iz 1))) dX6_isBlank_29 ⟨rfl, 1, ⟨by omega, by omega⟩, rfl⟩ (by decide) (by decide) (fun hmok => ?_)
      refine ⟨rfl, rfl, rfl, rfl, rfl, rfl, 1, rfl, Or.inl ⟨rfl, ?_⟩⟩
      omega
    · skip
      refine v_iload_n X 0 dX6_isBlank_12 rfl rfl ?_
      refine v_bipush X dX6_isBlank_13 (by decide) ?_
      refine v_icmp_eq X 24 dX6_isBlank_15 (by decide) ⟨by omega, by omega⟩ ⟨by decide, by decide⟩ (fun u3 => ?_) (fun u3 => ?_)
      · skip
        refine v_iconst X dX6_isBlank_24 ?_
        refine v_goto X 29 dX6_isBlank_25 (by decide) ?_
        refine hret _ _ _ _ _ _ _ _ _ _ _ (some (.int (iz 1))) dX6_isBlank_29 ⟨rfl, 1, ⟨by omega, by omega⟩, rfl⟩ (by decide) (by decide) (fun hmok => ?_)
        refine ⟨rfl, rfl, rfl, rfl, rfl, rfl, 1, rfl, Or.inl ⟨rfl, ?_⟩⟩
        omega
      · skip
        refine v_iload_n X 0 dX6_isBlank_18 rfl rfl ?_
        refine v_bipush X dX6_isBlank_19 (by decide) ?_
        refine v_icmp_ne X 28 dX6_isBlank_21 (by decide) ⟨by omega, by omega⟩ ⟨by decide, by decide⟩ (fun u4 => ?_) (fun u4 => ?_)
        · skip
          refine v_iconst X dX6_isBlank_28 ?_
          refine hret _ _ _ _ _ _ _ _ _ _ _ (some (.int (iz 0))) dX6_isBlank_29 ⟨rfl, 0, ⟨by omega, by omega⟩, rfl⟩ (by decide) (by decide) (fun hmok => ?_)
          refine ⟨rfl, rfl, rfl, rfl, rfl, rfl, 0, rfl, Or.inr ⟨rfl, ?_⟩⟩
          omega
        · skip
          refine v_iconst X dX6_isBlank_24 ?_
          refine v_goto X 29 dX6_isBlank_25 (by decide) ?_
          refine hret _ _ _ _ _ _ _ _ _ _ _ (some (.int (iz 1))) dX6_isBlank_29 ⟨rfl, 1, ⟨by omega, by omega⟩, rfl⟩ (by decide) (by decide) (fun hmok => ?_)
          refine ⟨rfl, rfl, rfl, rfl, rfl, rfl, 1, rfl, Or.inl ⟨rfl, ?_⟩⟩
          omega

-- kindOfPair
set_option maxHeartbeats 4000000 in
set_option maxRecDepth 100000 in
theorem c_X6_kindOfPair (l : Launch) (D : va_G) (cy : Nat → ClassId) {N : Nat} {sh : MS} {ad : Nat → Nat} {M L : MI} {R : MR} (a : Int) (ha : inR a) : Ctr l D cy yX6_kindOfPair wsX6_kindOfPair ({ frames := 0, cells := 0, slots := 0, locals := 0 } : Room) N sh ad M L R [.int (iz a)] (pI N sh ad M L R (fun r => r = prK a)) := by
  refine Ctr.ofI (by decide) rfl (Nat.le_of_ble_eq_true rfl) ?_
  intro K hKl hKd hRm hnm X hret
  have X : VX K cX6_kindOfPair 1 wsX6_kindOfPair RX6 := X
  show V K 1 0 0 N sh ad M L R [(0, .int (iz a))] [] 0
  refine v_iload_n X 0 dX6_kindOfPair_0 rfl rfl ?_
  by_cases u1 : a = 33
  · skip
    refine v_lookup X (off := 38) 39 dX6_kindOfPair_1 (by decide) ⟨by omega, by omega⟩ (by rw [u1] <;> rfl) (by decide) ?_
    refine v_bipush X dX6_kindOfPair_39 (by decide) ?_
    refine hret _ _ _ _ _ _ _ _ _ _ _ (some (.int (iz 20))) dX6_kindOfPair_41 ⟨rfl, _, rfl⟩ (by decide) (by decide) (fun hmok => ?_)
    refine ⟨rfl, rfl, rfl, rfl, rfl, rfl, 20, rfl, ⟨by decide, by decide⟩, ?_⟩
    try dsimp only
    unfold prK
    repeat (first | rw [if_pos (by omega)] | rw [if_neg (by omega)])
  by_cases u2 : a = 60
  · skip
    refine v_lookup X (off := 41) 42 dX6_kindOfPair_1 (by decide) ⟨by omega, by omega⟩ (by rw [u2] <;> rfl) (by decide) ?_
    refine v_bipush X dX6_kindOfPair_42 (by decide) ?_
    refine hret _ _ _ _ _ _ _ _ _ _ _ (some (.int (iz 22))) dX6_kindOfPair_44 ⟨rfl, _, rfl⟩ (by decide) (by decide) (fun hmok => ?_)
    refine ⟨rfl, rfl, rfl, rfl, rfl, rfl, 22, rfl, ⟨by decide, by decide⟩, ?_⟩
    try dsimp only
    unfold prK
    repeat (first | rw [if_pos (by omega)] | rw [if_neg (by omega)])
  by_cases u3 : a = 61
  · skip
    refine v_lookup X (off := 35) 36 dX6_kindOfPair_1 (by decide) ⟨by omega, by omega⟩ (by rw [u3] <;> rfl) (by decide) ?_
    refine v_bipush X dX6_kindOfPair_36 (by decide) ?_
    refine hret _ _ _ _ _ _ _ _ _ _ _ (some (.int (iz 19))) dX6_kindOfPair_38 ⟨rfl, _, rfl⟩ (by decide) (by decide) (fun hmok => ?_)
    refine ⟨rfl, rfl, rfl, rfl, rfl, rfl, 19, rfl, ⟨by decide, by decide⟩, ?_⟩
    try dsimp only
    unfold prK
    repeat (first | rw [if_pos (by omega)] | rw [if_neg (by omega)])
  refine v_lookup X (off := 44) 45 dX6_kindOfPair_1 (by decide) ⟨by omega, by omega⟩ (by simp only [Op.lookupswitch.offset_cons, List.toList_toArray]; rw [if_neg (by omega), if_neg (by omega), if_neg (by omega)] <;> rfl) (by decide) ?_
  refine v_bipush X dX6_kindOfPair_45 (by decide) ?_
  refine hret _ _ _ _ _ _ _ _ _ _ _ (some (.int (iz 27))) dX6_kindOfPair_47 ⟨rfl, _, rfl⟩ (by decide) (by decide) (fun hmok => ?_)
  refine ⟨rfl, rfl, rfl, rfl, rfl, rfl, 27, rfl, ⟨by decide, by decide⟩, ?_⟩
  try dsimp only
  unfold prK
  repeat (first | rw [if_pos (by omega)] | rw [if_neg (by omega)])

-- kindOfSingle
set_option maxHeartbeats 4000000 in
set_option maxRecDepth 100000 in
theorem c_X6_kindOfSingle (l : Launch) (D : va_G) (cy : Nat → ClassId) {N : Nat} {sh : MS} {ad : Nat → Nat} {M L : MI} {R : MR} (a : Int) (ha : inR a) : Ctr l D cy yX6_kindOfSingle wsX6_kindOfSingle ({ frames := 0, cells := 0, slots := 0, locals := 0 } : Room) N sh ad M L R [.int (iz a)] (pI N sh ad M L R (fun r => r = sgS a)) := by
  refine Ctr.ofI (by decide) rfl (Nat.le_of_ble_eq_true rfl) ?_
  intro K hKl hKd hRm hnm X hret
  have X : VX K cX6_kindOfSingle 1 wsX6_kindOfSingle RX6 := X
  show V K 1 0 0 N sh ad M L R [(0, .int (iz a))] [] 0
  refine v_iload_n X 0 dX6_kindOfSingle_0 rfl rfl ?_
  by_cases u1 : a = 40
  · skip
    refine v_tabIn X 115 dX6_kindOfSingle_1 ⟨by omega, by omega⟩ (by omega) (by omega) (by rw [u1]; rfl) (by decide) ?_
    refine v_bipush X dX6_kindOfSingle_115 (by decide) ?_
    refine hret _ _ _ _ _ _ _ _ _ _ _ (some (.int (iz 23))) dX6_kindOfSingle_117 ⟨rfl, _, rfl⟩ (by decide) (by decide) (fun hmok => ?_)
    refine ⟨rfl, rfl, rfl, rfl, rfl, rfl, 23, rfl, ⟨by decide, by decide⟩, ?_⟩
    try dsimp only
    unfold sgS
    repeat (first | rw [if_pos (by omega)] | rw [if_neg (by omega)])
  by_cases u2 : a = 41
  · skip
    refine v_tabIn X 118 dX6_kindOfSingle_1 ⟨by omega, by omega⟩ (by omega) (by omega) (by rw [u2]; rfl) (by decide) ?_
    refine v_bipush X dX6_kindOfSingle_118 (by decide) ?_
    refine hret _ _ _ _ _ _ _ _ _ _ _ (some (.int (iz 24))) dX6_kindOfSingle_120 ⟨rfl, _, rfl⟩ (by decide) (by decide) (fun hmok => ?_)
    refine ⟨rfl, rfl, rfl, rfl, rfl, rfl, 24, rfl, ⟨by decide, by decide⟩, ?_⟩
    try dsimp only
    unfold sgS
    repeat (first | rw [if_pos (by omega)] | rw [if_neg (by omega)])
  by_cases u3 : a = 42
  · skip
    refine v_tabIn X 109 dX6_kindOfSingle_1 ⟨by omega, by omega⟩ (by omega) (by omega) (by rw [u3]; rfl) (by decide) ?_
    refine v_bipush X dX6_kindOfSingle_109 (by decide) ?_
    refine hret _ _ _ _ _ _ _ _ _ _ _ (some (.int (iz 18))) dX6_kindOfSingle_111 ⟨rfl, _, rfl⟩ (by decide) (by decide) (fun hmok => ?_)
    refine ⟨rfl, rfl, rfl, rfl, rfl, rfl, 18, rfl, ⟨by decide, by decide⟩, ?_⟩
    try dsimp only
    unfold sgS
    repeat (first | rw [if_pos (by omega)] | rw [if_neg (by omega)])
  by_cases u4 : a = 43
  · skip
    refine v_tabIn X 103 dX6_kindOfSingle_1 ⟨by omega, by omega⟩ (by omega) (by omega) (by rw [u4]; rfl) (by decide) ?_
    refine v_bipush X dX6_kindOfSingle_103 (by decide) ?_
    refine hret _ _ _ _ _ _ _ _ _ _ _ (some (.int (iz 16))) dX6_kindOfSingle_105 ⟨rfl, _, rfl⟩ (by decide) (by decide) (fun hmok => ?_)
    refine ⟨rfl, rfl, rfl, rfl, rfl, rfl, 16, rfl, ⟨by decide, by decide⟩, ?_⟩
    try dsimp only
    unfold sgS
    repeat (first | rw [if_pos (by omega)] | rw [if_neg (by omega)])
  by_cases u5 : a = 44
  · skip
    refine v_tabIn X 121 dX6_kindOfSingle_1 ⟨by omega, by omega⟩ (by omega) (by omega) (by rw [u5]; rfl) (by decide) ?_
    refine v_bipush X dX6_kindOfSingle_121 (by decide) ?_
    refine hret _ _ _ _ _ _ _ _ _ _ _ (some (.int (iz 27))) dX6_kindOfSingle_123 ⟨rfl, _, rfl⟩ (by decide) (by decide) (fun hmok => ?_)
    refine ⟨rfl, rfl, rfl, rfl, rfl, rfl, 27, rfl, ⟨by decide, by decide⟩, ?_⟩
    try dsimp only
    unfold sgS
    repeat (first | rw [if_pos (by omega)] | rw [if_neg (by omega)])
  by_cases u6 : a = 45
  · skip
    refine v_tabIn X 106 dX6_kindOfSingle_1 ⟨by omega, by omega⟩ (by omega) (by omega) (by rw [u6]; rfl) (by decide) ?_
    refine v_bipush X dX6_kindOfSingle_106 (by decide) ?_
    refine hret _ _ _ _ _ _ _ _ _ _ _ (some (.int (iz 17))) dX6_kindOfSingle_108 ⟨rfl, _, rfl⟩ (by decide) (by decide) (fun hmok => ?_)
    refine ⟨rfl, rfl, rfl, rfl, rfl, rfl, 17, rfl, ⟨by decide, by decide⟩, ?_⟩
    try dsimp only
    unfold sgS
    repeat (first | rw [if_pos (by omega)] | rw [if_neg (by omega)])
  by_cases u7 : a = 46
  · skip
    refine v_tabIn X 121 dX6_kindOfSingle_1 ⟨by omega, by omega⟩ (by omega) (by omega) (by rw [u7]; rfl) (by decide) ?_
    refine v_bipush X dX6_kindOfSingle_121 (by decide) ?_
    refine hret _ _ _ _ _ _ _ _ _ _ _ (some (.int (iz 27))) dX6_kindOfSingle_123 ⟨rfl, _, rfl⟩ (by decide) (by decide) (fun hmok => ?_)
    refine ⟨rfl, rfl, rfl, rfl, rfl, rfl, 27, rfl, ⟨by decide, by decide⟩, ?_⟩
    try dsimp only
    unfold sgS
    repeat (first | rw [if_pos (by omega)] | rw [if_neg (by omega)])
  by_cases u8 : a = 47
  · skip
    refine v_tabIn X 121 dX6_kindOfSingle_1 ⟨by omega, by omega⟩ (by omega) (by omega) (by rw [u8]; rfl) (by decide) ?_
    refine v_bipush X dX6_kindOfSingle_121 (by decide) ?_
    refine hret _ _ _ _ _ _ _ _ _ _ _ (some (.int (iz 27))) dX6_kindOfSingle_123 ⟨rfl, _, rfl⟩ (by decide) (by decide) (fun hmok => ?_)
    refine ⟨rfl, rfl, rfl, rfl, rfl, rfl, 27, rfl, ⟨by decide, by decide⟩, ?_⟩
    try dsimp only
    unfold sgS
    repeat (first | rw [if_pos (by omega)] | rw [if_neg (by omega)])
  by_cases u9 : a = 48
  · skip
    refine v_tabIn X 121 dX6_kindOfSingle_1 ⟨by omega, by omega⟩ (by omega) (by omega) (by rw [u9]; rfl) (by decide) ?_
    refine v_bipush X dX6_kindOfSingle_121 (by decide) ?_
    refine hret _ _ _ _ _ _ _ _ _ _ _ (some (.int (iz 27))) dX6_kindOfSingle_123 ⟨rfl, _, rfl⟩ (by decide) (by decide) (fun hmok => ?_)
    refine ⟨rfl, rfl, rfl, rfl, rfl, rfl, 27, rfl, ⟨by decide, by decide⟩, ?_⟩
    try dsimp only
    unfold sgS
    repeat (first | rw [if_pos (by omega)] | rw [if_neg (by omega)])
  by_cases u10 : a = 49
  · skip
    refine v_tabIn X 121 dX6_kindOfSingle_1 ⟨by omega, by omega⟩ (by omega) (by omega) (by rw [u10]; rfl) (by decide) ?_
    refine v_bipush X dX6_kindOfSingle_121 (by decide) ?_
    refine hret _ _ _ _ _ _ _ _ _ _ _ (some (.int (iz 27))) dX6_kindOfSingle_123 ⟨rfl, _, rfl⟩ (by decide) (by decide) (fun hmok => ?_)
    refine ⟨rfl, rfl, rfl, rfl, rfl, rfl, 27, rfl, ⟨by decide, by decide⟩, ?_⟩
    try dsimp only
    unfold sgS
    repeat (first | rw [if_pos (by omega)] | rw [if_neg (by omega)])
  by_cases u11 : a = 50
  · skip
    refine v_tabIn X 121 dX6_kindOfSingle_1 ⟨by omega, by omega⟩ (by omega) (by omega) (by rw [u11]; rfl) (by decide) ?_
    refine v_bipush X dX6_kindOfSingle_121 (by decide) ?_
    refine hret _ _ _ _ _ _ _ _ _ _ _ (some (.int (iz 27))) dX6_kindOfSingle_123 ⟨rfl, _, rfl⟩ (by decide) (by decide) (fun hmok => ?_)
    refine ⟨rfl, rfl, rfl, rfl, rfl, rfl, 27, rfl, ⟨by decide, by decide⟩, ?_⟩
    try dsimp only
    unfold sgS
    repeat (first | rw [if_pos (by omega)] | rw [if_neg (by omega)])
  by_cases u12 : a = 51
  · skip
    refine v_tabIn X 121 dX6_kindOfSingle_1 ⟨by omega, by omega⟩ (by omega) (by omega) (by rw [u12]; rfl) (by decide) ?_
    refine v_bipush X dX6_kindOfSingle_121 (by decide) ?_
    refine hret _ _ _ _ _ _ _ _ _ _ _ (some (.int (iz 27))) dX6_kindOfSingle_123 ⟨rfl, _, rfl⟩ (by decide) (by decide) (fun hmok => ?_)
    refine ⟨rfl, rfl, rfl, rfl, rfl, rfl, 27, rfl, ⟨by decide, by decide⟩, ?_⟩
    try dsimp only
    unfold sgS
    repeat (first | rw [if_pos (by omega)] | rw [if_neg (by omega)])
  by_cases u13 : a = 52
  · skip
    refine v_tabIn X 121 dX6_kindOfSingle_1 ⟨by omega, by omega⟩ (by omega) (by omega) (by rw [u13]; rfl) (by decide) ?_
    refine v_bipush X dX6_kindOfSingle_121 (by decide) ?_
    refine hret _ _ _ _ _ _ _ _ _ _ _ (some (.int (iz 27))) dX6_kindOfSingle_123 ⟨rfl, _, rfl⟩ (by decide) (by decide) (fun hmok => ?_)
    refine ⟨rfl, rfl, rfl, rfl, rfl, rfl, 27, rfl, ⟨by decide, by decide⟩, ?_⟩
    try dsimp only
    unfold sgS
    repeat (first | rw [if_pos (by omega)] | rw [if_neg (by omega)])
  by_cases u14 : a = 53
  · skip
    refine v_tabIn X 121 dX6_kindOfSingle_1 ⟨by omega, by omega⟩ (by omega) (by omega) (by rw [u14]; rfl) (by decide) ?_
    refine v_bipush X dX6_kindOfSingle_121 (by decide) ?_
    refine hret _ _ _ _ _ _ _ _ _ _ _ (some (.int (iz 27))) dX6_kindOfSingle_123 ⟨rfl, _, rfl⟩ (by decide) (by decide) (fun hmok => ?_)
    refine ⟨rfl, rfl, rfl, rfl, rfl, rfl, 27, rfl, ⟨by decide, by decide⟩, ?_⟩
    try dsimp only
    unfold sgS
    repeat (first | rw [if_pos (by omega)] | rw [if_neg (by omega)])
  by_cases u15 : a = 54
  · skip
    refine v_tabIn X 121 dX6_kindOfSingle_1 ⟨by omega, by omega⟩ (by omega) (by omega) (by rw [u15]; rfl) (by decide) ?_
    refine v_bipush X dX6_kindOfSingle_121 (by decide) ?_
    refine hret _ _ _ _ _ _ _ _ _ _ _ (some (.int (iz 27))) dX6_kindOfSingle_123 ⟨rfl, _, rfl⟩ (by decide) (by decide) (fun hmok => ?_)
    refine ⟨rfl, rfl, rfl, rfl, rfl, rfl, 27, rfl, ⟨by decide, by decide⟩, ?_⟩
    try dsimp only
    unfold sgS
    repeat (first | rw [if_pos (by omega)] | rw [if_neg (by omega)])
  by_cases u16 : a = 55
  · skip
    refine v_tabIn X 121 dX6_kindOfSingle_1 ⟨by omega, by omega⟩ (by omega) (by omega) (by rw [u16]; rfl) (by decide) ?_
    refine v_bipush X dX6_kindOfSingle_121 (by decide) ?_
    refine hret _ _ _ _ _ _ _ _ _ _ _ (some (.int (iz 27))) dX6_kindOfSingle_123 ⟨rfl, _, rfl⟩ (by decide) (by decide) (fun hmok => ?_)
    refine ⟨rfl, rfl, rfl, rfl, rfl, rfl, 27, rfl, ⟨by decide, by decide⟩, ?_⟩
    try dsimp only
    unfold sgS
    repeat (first | rw [if_pos (by omega)] | rw [if_neg (by omega)])
  by_cases u17 : a = 56
  · skip
    refine v_tabIn X 121 dX6_kindOfSingle_1 ⟨by omega, by omega⟩ (by omega) (by omega) (by rw [u17]; rfl) (by decide) ?_
    refine v_bipush X dX6_kindOfSingle_121 (by decide) ?_
    refine hret _ _ _ _ _ _ _ _ _ _ _ (some (.int (iz 27))) dX6_kindOfSingle_123 ⟨rfl, _, rfl⟩ (by decide) (by decide) (fun hmok => ?_)
    refine ⟨rfl, rfl, rfl, rfl, rfl, rfl, 27, rfl, ⟨by decide, by decide⟩, ?_⟩
    try dsimp only
    unfold sgS
    repeat (first | rw [if_pos (by omega)] | rw [if_neg (by omega)])
  by_cases u18 : a = 57
  · skip
    refine v_tabIn X 121 dX6_kindOfSingle_1 ⟨by omega, by omega⟩ (by omega) (by omega) (by rw [u18]; rfl) (by decide) ?_
    refine v_bipush X dX6_kindOfSingle_121 (by decide) ?_
    refine hret _ _ _ _ _ _ _ _ _ _ _ (some (.int (iz 27))) dX6_kindOfSingle_123 ⟨rfl, _, rfl⟩ (by decide) (by decide) (fun hmok => ?_)
    refine ⟨rfl, rfl, rfl, rfl, rfl, rfl, 27, rfl, ⟨by decide, by decide⟩, ?_⟩
    try dsimp only
    unfold sgS
    repeat (first | rw [if_pos (by omega)] | rw [if_neg (by omega)])
  by_cases u19 : a = 58
  · skip
    refine v_tabIn X 121 dX6_kindOfSingle_1 ⟨by omega, by omega⟩ (by omega) (by omega) (by rw [u19]; rfl) (by decide) ?_
    refine v_bipush X dX6_kindOfSingle_121 (by decide) ?_
    refine hret _ _ _ _ _ _ _ _ _ _ _ (some (.int (iz 27))) dX6_kindOfSingle_123 ⟨rfl, _, rfl⟩ (by decide) (by decide) (fun hmok => ?_)
    refine ⟨rfl, rfl, rfl, rfl, rfl, rfl, 27, rfl, ⟨by decide, by decide⟩, ?_⟩
    try dsimp only
    unfold sgS
    repeat (first | rw [if_pos (by omega)] | rw [if_neg (by omega)])
  by_cases u20 : a = 59
  · skip
    refine v_tabIn X 100 dX6_kindOfSingle_1 ⟨by omega, by omega⟩ (by omega) (by omega) (by rw [u20]; rfl) (by decide) ?_
    refine v_bipush X dX6_kindOfSingle_100 (by decide) ?_
    refine hret _ _ _ _ _ _ _ _ _ _ _ (some (.int (iz 15))) dX6_kindOfSingle_102 ⟨rfl, _, rfl⟩ (by decide) (by decide) (fun hmok => ?_)
    refine ⟨rfl, rfl, rfl, rfl, rfl, rfl, 15, rfl, ⟨by decide, by decide⟩, ?_⟩
    try dsimp only
    unfold sgS
    repeat (first | rw [if_pos (by omega)] | rw [if_neg (by omega)])
  by_cases u21 : a = 60
  · skip
    refine v_tabIn X 112 dX6_kindOfSingle_1 ⟨by omega, by omega⟩ (by omega) (by omega) (by rw [u21]; rfl) (by decide) ?_
    refine v_bipush X dX6_kindOfSingle_112 (by decide) ?_
    refine hret _ _ _ _ _ _ _ _ _ _ _ (some (.int (iz 21))) dX6_kindOfSingle_114 ⟨rfl, _, rfl⟩ (by decide) (by decide) (fun hmok => ?_)
    refine ⟨rfl, rfl, rfl, rfl, rfl, rfl, 21, rfl, ⟨by decide, by decide⟩, ?_⟩
    try dsimp only
    unfold sgS
    repeat (first | rw [if_pos (by omega)] | rw [if_neg (by omega)])
  refine v_tabOut X 121 dX6_kindOfSingle_1 ⟨by omega, by omega⟩ (by omega) (by decide) ?_
  refine v_bipush X dX6_kindOfSingle_121 (by decide) ?_
  refine hret _ _ _ _ _ _ _ _ _ _ _ (some (.int (iz 27))) dX6_kindOfSingle_123 ⟨rfl, _, rfl⟩ (by decide) (by decide) (fun hmok => ?_)
  refine ⟨rfl, rfl, rfl, rfl, rfl, rfl, 27, rfl, ⟨by decide, by decide⟩, ?_⟩
  try dsimp only
  unfold sgS
  repeat (first | rw [if_pos (by omega)] | rw [if_neg (by omega)])

-- restart
set_option maxHeartbeats 4000000 in
set_option maxRecDepth 100000 in
theorem c_X6_restart (l : Launch) (D : va_G) (cy : Nat → ClassId) {N : Nat} {sh : MS} {ad : Nat → Nat} {M L : MI} {R : MR} (hS : Std N sh R) : Ctr l D cy yX6_restart wsX6_restart ({ frames := 0, cells := 0, slots := 0, locals := 0 } : Room) N sh ad M L R [.ref (ad 5)] (eV N sh ad L R (fun M' => M' = (mu (mu (mu (mu M 5 1 0) 5 2 26) 5 3 0) 5 4 0))) := by
  refine Ctr.ofV (by decide) rfl (Nat.le_of_ble_eq_true rfl) ?_
  intro K hKl hKd hRm hnm X hret
  have X : VX K cX6_restart 1 wsX6_restart RX6 := X
  show V K 1 0 0 N sh ad M L R [(0, .ref (ad 5))] [] 0
  refine v_aload_n X 0 dX6_restart_0 rfl rfl ?_
  refine v_iconst X dX6_restart_1 ?_
  refine pt_X6_next X iwX6 (Std.lt hS rfl) (Std.k hS rfl rfl) (List.mem_cons_of_mem _ bw_4_5) ⟨by decide, by decide⟩ dX6_restart_2 ?_
  refine v_aload_n X 0 dX6_restart_5 rfl rfl ?_
  refine v_bipush X dX6_restart_6 (by decide) ?_
  refine pt_X6_kind X iwX6 (Std.lt hS rfl) (Std.k hS rfl rfl) (List.mem_cons_of_mem _ bw_4_6) ⟨by decide, by decide⟩ dX6_restart_8 ?_
  refine v_aload_n X 0 dX6_restart_11 rfl rfl ?_
  refine v_iconst X dX6_restart_12 ?_
  refine pt_X6_value X iwX6 (Std.lt hS rfl) (Std.k hS rfl rfl) (List.mem_cons_of_mem _ bw_4_7) ⟨by decide, by decide⟩ dX6_restart_13 ?_
  refine v_aload_n X 0 dX6_restart_16 rfl rfl ?_
  refine v_iconst X dX6_restart_17 ?_
  refine pt_X6_place X iwX6 (Std.lt hS rfl) (Std.k hS rfl rfl) (List.mem_cons_of_mem _ bw_4_8) ⟨by decide, by decide⟩ dX6_restart_18 ?_
  refine hret _ _ _ _ _ _ _ _ _ _ _ none dX6_restart_21 ⟨rfl, rfl⟩ (by decide) (by decide) (fun hmok => ?_)
  refine ⟨rfl, rfl, rfl, rfl, rfl, rfl, ?_⟩
  try dsimp only
  all_goals rfl

-- isWord
set_option maxHeartbeats 4000000 in
set_option maxRecDepth 100000 in
theorem c_X6_isWord (l : Launch) (D : va_G) (cy : Nat → ClassId) {N : Nat} {sh : MS} {ad : Nat → Nat} {M L : MI} {R : MR} (hS : Std N sh R) (w : Int) (hw : 0 ≤ w ∧ w ≤ 14) (hn : 0 ≤ M 1 1 ∧ M 1 1 ≤ 2000) (hp : 0 ≤ M 5 4 ∧ M 5 4 ≤ M 5 1 ∧ M 5 1 ≤ M 1 1) : Ctr l D cy yX6_isWord wsX6_isWord ({ frames := 4, cells := 0, slots := 0, locals := 85 } : Room) N sh ad M L R [.ref (ad 5), .int (iz w)] (pB N sh ad M L R (isWB (bt (M 2) (M 1 1)) (M 5 4) (M 5 1) w = true)) := by
  refine Ctr.ofZ (by decide) rfl (Nat.le_of_ble_eq_true rfl) ?_
  intro K hKl hKd hRm hnm X hret
  have X : VX K cX6_isWord 5 wsX6_isWord RX6 := X
  show V K 5 0 0 N sh ad M L R [(0, .ref (ad 5)), (1, .int (iz w))] [] 0
  refine v_aload_n X 0 dX6_isWord_0 rfl rfl ?_
  refine gt_X6_next X iwX6 (Std.lt hS rfl) (Std.k hS rfl rfl) (List.mem_cons_of_mem _ bw_4_5) dX6_isWord_1 (M 5 1) rfl (fun hr1 => ?_)
  refine v_aload_n X 0 dX6_isWord_4 rfl rfl ?_
  refine gt_X6_place X iwX6 (Std.lt hS rfl) (Std.k hS rfl rfl) (List.mem_cons_of_mem _ bw_4_8) dX6_isWord_5 (M 5 4) rfl (fun hr2 => ?_)
  refine v_isub X dX6_isWord_8 ?_
  refine v_bipush X dX6_isWord_9 (by decide) ?_
  refine v_icmp_le X 16 dX6_isWord_11 (by decide) ⟨by omega, by omega⟩ ⟨by decide, by decide⟩ (fun u3 => ?_) (fun u3 => ?_)
  · skip
    refine v_iconst X dX6_isWord_16 ?_
    refine v_istore_n X [(2, .int (iz 0)), (0, .ref (ad 5)), (1, .int (iz w))] dX6_isWord_17 rfl (by decide) rfl ?_
    have hl4 : ∀ (n6 : Nat) (i : Int), (0 ≤ i ∧ i ≤ 8) → (M 5 1 - M 5 4 ≤ 8) → (wEq (bt (M 2) (M 1 1)) (M 5 4) (M 5 1) w i.toNat = true) → (8 - i).toNat < n6 → V K 5 0 0 N sh ad M L R [(0, .ref (ad 5)), (1, .int (iz w)), (2, .int (iz i))] [] 18 := by
      intro n6
      induction n6 with
      | zero => intro i hi h8 he hn7; exact absurd hn7 (Nat.not_lt_zero _)
      | succ n6 ih5 =>
        intro i hi h8 he hn7
        refine v_iload_n X 2 dX6_isWord_18 rfl rfl ?_
        refine v_bipush X dX6_isWord_19 (by decide) ?_
        refine v_icmp_ge X 93 dX6_isWord_21 (by decide) ⟨by omega, by omega⟩ ⟨by decide, by decide⟩ (fun u8 => ?_) (fun u8 => ?_)
        · skip
          refine v_iconst X dX6_isWord_93 ?_
          refine hret _ _ _ _ _ _ _ _ _ _ _ (some (.int (iz 1))) dX6_isWord_94 ⟨rfl, 1, ⟨by omega, by omega⟩, rfl⟩ (by decide) (by decide) (fun hmok => ?_)
          refine ⟨rfl, rfl, rfl, rfl, rfl, rfl, 1, rfl, Or.inl ⟨rfl, ?_⟩⟩
          unfold isWB
          obtain rfl : i = 8 := by omega
          rw [Bool.and_eq_true]
          exact ⟨decide_eq_true (by omega), he⟩
        · skip
          refine v_aload_n X 0 dX6_isWord_24 rfl rfl ?_
          refine gt_X6_place X iwX6 (Std.lt hS rfl) (Std.k hS rfl rfl) (List.mem_cons_of_mem _ bw_4_8) dX6_isWord_25 (M 5 4) rfl (fun hr9 => ?_)
          refine v_iload_n X 2 dX6_isWord_28 rfl rfl ?_
          refine v_iadd X dX6_isWord_29 ?_
          refine v_aload_n X 0 dX6_isWord_30 rfl rfl ?_
          refine gt_X6_next X iwX6 (Std.lt hS rfl) (Std.k hS rfl rfl) (List.mem_cons_of_mem _ bw_4_5) dX6_isWord_31 (M 5 1) rfl (fun hr10 => ?_)
          refine v_icmp_ge X 53 dX6_isWord_34 (by decide) ⟨by omega, by omega⟩ ⟨by omega, by omega⟩ (fun u11 => ?_) (fun u11 => ?_)
          · skip
            refine v_bipush X dX6_isWord_53 (by decide) ?_
            refine v_istore_n X [(3, .int (iz 32)), (0, .ref (ad 5)), (1, .int (iz w)), (2, .int (iz i))] dX6_isWord_55 rfl (by decide) rfl ?_
            refine v_iload_n X 2 dX6_isWord_56 rfl rfl ?_
            refine v_bipush X dX6_isWord_57 (by decide) ?_
            refine v_imul X dX6_isWord_59 ?_
            refine v_iload_n X 3 dX6_isWord_60 rfl rfl ?_
            refine v_iadd X dX6_isWord_61 ?_
            refine v_istore X [(4, .int (iz ((w * 8) + i))), (3, .int (iz 32)), (0, .ref (ad 5)), (1, .int (iz w)), (2, .int (iz i))] dX6_isWord_62 (by decide) rfl ?_
            refine v_iload X 0 dX6_isWord_64 rfl ?_
            refine v_ldcW X dX6_isWord_66 ?_
            refine v_callT X [] hRm (c_J0_length_8abf5 _ _ _) (gV bw_13_13 bw_13_14 bw_13_15 bw_13_16 bw_13_17) rfl ddJ0_length_8abf5 (by decide) (Nat.le_of_ble_eq_true rfl) dX6_isWord_68 (k_pI (fun r12 hr13 e14 => ?_))
            replace e14 : r12 = 120 := e14
            refine v_icmp_ge X 85 dX6_isWord_71 (by decide) ⟨by omega, by omega⟩ ⟨by omega, by omega⟩ (fun q => absurd q (by omega)) (fun u15 => ?_)
            refine v_ldcW X dX6_isWord_74 ?_
            refine v_iload X 0 dX6_isWord_76 rfl ?_
            refine v_callT X [.int (iz ((w * 8) + i))] hRm (c_J0_charAt_5068e _ _ _ ((w * 8) + i) (by omega) (by omega)) (gV bw_14_1 bw_14_2 bw_14_3 bw_13_16 bw_14_4) rfl ddJ0_charAt_5068e (by decide) (Nat.le_of_ble_eq_true rfl) dX6_isWord_78 (k_pI (fun r16 hr17 e18 => ?_))
            replace e18 : r16 = wch ((w * 8) + i) := e18
            refine v_iload_n X 1 dX6_isWord_81 rfl rfl ?_
            refine v_icmp_eq X 87 dX6_isWord_82 (by decide) ⟨by omega, by omega⟩ ⟨by decide, by decide⟩ (fun u19 => ?_) (fun u19 => ?_)
            · skip
              refine v_iinc X 4 [(2, .int (iz (i + 1))), (4, .int (iz ((w * 8) + i))), (3, .int (iz 32)), (0, .ref (ad 5)), (1, .int (iz w))] dX6_isWord_87 rfl (by decide) rfl ?_
              refine v_goto X 18 dX6_isWord_90 (by decide) ?_
              refine v_lv [3, 4, 0] rfl ?_
              exact ih5 (i + 1) (by omega) (by omega) (by rw [show (i + 1).toNat = i.toNat + 1 by omega, wEq_s, he, Bool.true_and, Int.toNat_of_nonneg (by omega), if_neg (by omega)]; exact decide_eq_true (by rw [← e18]; omega)) (by omega)
            · skip
              refine v_iconst X dX6_isWord_85 ?_
              refine hret _ _ _ _ _ _ _ _ _ _ _ (some (.int (iz 0))) dX6_isWord_86 ⟨rfl, 0, ⟨by omega, by omega⟩, rfl⟩ (by decide) (by decide) (fun hmok => ?_)
              refine ⟨rfl, rfl, rfl, rfl, rfl, rfl, 0, rfl, Or.inr ⟨rfl, ?_⟩⟩
              unfold isWB
              rw [wEq_f (k := i.toNat + 1) (by rw [wEq_s, he, Bool.true_and]; exact decide_eq_false (fun z => by rw [if_neg (by omega), Int.toNat_of_nonneg (by omega)] at z; have z2 := e18.trans z.symm; omega)) (by omega), Bool.and_false]
              exact Bool.false_ne_true
          · skip
            refine v_aload_n X 0 dX6_isWord_37 rfl rfl ?_
            refine gt_X6_tape X iwX6 (Std.lt hS rfl) (Std.k hS rfl rfl) (List.mem_cons_of_mem _ bw_4_0) dX6_isWord_38 1 (Std.r hS 0 rfl) ?_
            refine v_aload_n X 0 dX6_isWord_41 rfl rfl ?_
            refine gt_X6_place X iwX6 (Std.lt hS rfl) (Std.k hS rfl rfl) (List.mem_cons_of_mem _ bw_4_8) dX6_isWord_42 (M 5 4) rfl (fun hr20 => ?_)
            refine v_iload_n X 2 dX6_isWord_45 rfl rfl ?_
            refine v_iadd X dX6_isWord_46 ?_
            refine v_callV X [.int (iz ((M 5 4) + i))] hRm (c_X9_byteAt2 _ _ _ hS ((M 5 4) + i) ⟨by omega, by omega⟩ (show (M 1 1) ≤ 2000 by omega)) (gV bw_12_19 bw_12_20 bw_12_21 bw_1_14 bw_12_22) rfl ddX9_byteAt (by decide) (Std.lt hS rfl) (Std.k hS rfl rfl) ⟨rfl, by decide⟩ (Nat.le_of_ble_eq_true rfl) dX6_isWord_47 (k_pI (fun r21 hr22 e23 => ?_))
            replace e23 : r21 = (bt (M 2) (M 1 1)) ((M 5 4) + i) := e23
            refine v_goto X 55 dX6_isWord_50 (by decide) ?_
            refine v_istore_n X [(3, .int (iz r21)), (0, .ref (ad 5)), (1, .int (iz w)), (2, .int (iz i))] dX6_isWord_55 rfl (by decide) rfl ?_
            refine v_iload_n X 2 dX6_isWord_56 rfl rfl ?_
            refine v_bipush X dX6_isWord_57 (by decide) ?_
            refine v_imul X dX6_isWord_59 ?_
            refine v_iload_n X 3 dX6_isWord_60 rfl rfl ?_
            refine v_iadd X dX6_isWord_61 ?_
            refine v_istore X [(4, .int (iz ((w * 8) + i))), (3, .int (iz r21)), (0, .ref (ad 5)), (1, .int (iz w)), (2, .int (iz i))] dX6_isWord_62 (by decide) rfl ?_
            refine v_iload X 0 dX6_isWord_64 rfl ?_
            refine v_ldcW X dX6_isWord_66 ?_
            refine v_callT X [] hRm (c_J0_length_8abf5 _ _ _) (gV bw_13_13 bw_13_14 bw_13_15 bw_13_16 bw_13_17) rfl ddJ0_length_8abf5 (by decide) (Nat.le_of_ble_eq_true rfl) dX6_isWord_68 (k_pI (fun r24 hr25 e26 => ?_))
            replace e26 : r24 = 120 := e26
            refine v_icmp_ge X 85 dX6_isWord_71 (by decide) ⟨by omega, by omega⟩ ⟨by omega, by omega⟩ (fun q => absurd q (by omega)) (fun u27 => ?_)
            refine v_ldcW X dX6_isWord_74 ?_
            refine v_iload X 0 dX6_isWord_76 rfl ?_
            refine v_callT X [.int (iz ((w * 8) + i))] hRm (c_J0_charAt_5068e _ _ _ ((w * 8) + i) (by omega) (by omega)) (gV bw_14_1 bw_14_2 bw_14_3 bw_13_16 bw_14_4) rfl ddJ0_charAt_5068e (by decide) (Nat.le_of_ble_eq_true rfl) dX6_isWord_78 (k_pI (fun r28 hr29 e30 => ?_))
            replace e30 : r28 = wch ((w * 8) + i) := e30
            refine v_iload_n X 1 dX6_isWord_81 rfl rfl ?_
            refine v_icmp_eq X 87 dX6_isWord_82 (by decide) ⟨by omega, by omega⟩ ⟨by omega, by omega⟩ (fun u31 => ?_) (fun u31 => ?_)
            · skip
              refine v_iinc X 4 [(2, .int (iz (i + 1))), (4, .int (iz ((w * 8) + i))), (3, .int (iz r21)), (0, .ref (ad 5)), (1, .int (iz w))] dX6_isWord_87 rfl (by decide) rfl ?_
              refine v_goto X 18 dX6_isWord_90 (by decide) ?_
              refine v_lv [3, 4, 0] rfl ?_
              exact ih5 (i + 1) (by omega) (by omega) (by rw [show (i + 1).toNat = i.toNat + 1 by omega, wEq_s, he, Bool.true_and, Int.toNat_of_nonneg (by omega), if_pos (by omega)]; exact decide_eq_true (by rw [← e30, ← e23]; omega)) (by omega)
            · skip
              refine v_iconst X dX6_isWord_85 ?_
              refine hret _ _ _ _ _ _ _ _ _ _ _ (some (.int (iz 0))) dX6_isWord_86 ⟨rfl, 0, ⟨by omega, by omega⟩, rfl⟩ (by decide) (by decide) (fun hmok => ?_)
              refine ⟨rfl, rfl, rfl, rfl, rfl, rfl, 0, rfl, Or.inr ⟨rfl, ?_⟩⟩
              unfold isWB
              rw [wEq_f (k := i.toNat + 1) (by rw [wEq_s, he, Bool.true_and]; exact decide_eq_false (fun z => by rw [Int.toNat_of_nonneg (by omega), if_pos (by omega)] at z; have z2 := e30.trans (z.symm.trans e23.symm); omega)) (by omega), Bool.and_false]
              exact Bool.false_ne_true
    refine v_lv [1, 2, 0] rfl ?_
    exact hl4 _ 0 (by omega) (by omega) (rfl) (Nat.lt_succ_self _)
  · skip
    refine v_iconst X dX6_isWord_14 ?_
    refine hret _ _ _ _ _ _ _ _ _ _ _ (some (.int (iz 0))) dX6_isWord_15 ⟨rfl, 0, ⟨by omega, by omega⟩, rfl⟩ (by decide) (by decide) (fun hmok => ?_)
    refine ⟨rfl, rfl, rfl, rfl, rfl, rfl, 0, rfl, Or.inr ⟨rfl, ?_⟩⟩
    unfold isWB
    rw [decide_eq_false (by omega), Bool.false_and]
    exact Bool.false_ne_true

theorem firstN_keep {p : Int → Bool} {j n : Nat} (h : firstN p j ≠ -1) (hn : j ≤ n) : firstN p n = firstN p j := by
  induction n with
  | zero => obtain rfl : j = 0 := by omega
            rfl
  | succ n ih =>
    by_cases c : j = n + 1
    · rw [c]
    · rw [firstN_s, ih (by omega), if_pos h]

-- takeWord
set_option maxHeartbeats 4000000 in
set_option maxRecDepth 100000 in
theorem c_X6_takeWord (l : Launch) (D : va_G) (cy : Nat → ClassId) {N : Nat} {sh : MS} {ad : Nat → Nat} {M L : MI} {R : MR} (hS : Std N sh R) (hn : 0 ≤ M 1 1 ∧ M 1 1 ≤ 2000) (hp : 0 ≤ M 5 4 ∧ M 5 4 ≤ M 5 1 ∧ M 5 1 ≤ M 1 1) : Ctr l D cy yX6_takeWord wsX6_takeWord ({ frames := 5, cells := 0, slots := 0, locals := 109 } : Room) N sh ad M L R [.ref (ad 5)] (eV N sh ad L R (fun M' => M' = mu (mu M 5 1 (skp ltB (bt (M 2) (M 1 1)) (M 1 1) (M 5 1))) 5 2 (wdK (bt (M 2) (M 1 1)) (M 5 4) (skp ltB (bt (M 2) (M 1 1)) (M 1 1) (M 5 1))))) := by
  refine Ctr.ofV (by decide) rfl (Nat.le_of_ble_eq_true rfl) ?_
  intro K hKl hKd hRm hnm X hret
  have X : VX K cX6_takeWord 2 wsX6_takeWord RX6 := X
  show V K 2 0 0 N sh ad M L R [(0, .ref (ad 5))] [] 0
  have hl1 : ∀ (n3 : Nat) (x : Int), (M 5 1 ≤ x ∧ x ≤ M 1 1) → (skp ltB (bt (M 2) (M 1 1)) (M 1 1) x = (skp ltB (bt (M 2) (M 1 1)) (M 1 1) (M 5 1))) → (M 1 1 - x).toNat < n3 → V K 2 0 0 N sh ad (mu M 5 1 x) L R [(0, .ref (ad 5))] [] 0 := by
    intro n3
    induction n3 with
    | zero => intro x hx hs hn4; exact absurd hn4 (Nat.not_lt_zero _)
    | succ n3 ih2 =>
      intro x hx hs hn4
      refine v_aload_n X 0 dX6_takeWord_0 rfl rfl ?_
      refine gt_X6_next X iwX6 (Std.lt hS rfl) (Std.k hS rfl rfl) (List.mem_cons_of_mem _ bw_4_5) dX6_takeWord_1 x rfl (fun hr5 => ?_)
      refine v_aload_n X 0 dX6_takeWord_4 rfl rfl ?_
      refine gt_X6_tape X iwX6 (Std.lt hS rfl) (Std.k hS rfl rfl) (List.mem_cons_of_mem _ bw_4_0) dX6_takeWord_5 1 (Std.r hS 0 rfl) ?_
      refine gt_X9_size X iwX9 (Std.lt hS rfl) (Std.k hS rfl rfl) (List.mem_cons_of_mem _ bw_12_18) dX6_takeWord_8 (M 1 1) rfl (fun hr6 => ?_)
      refine v_icmp_ge X 44 dX6_takeWord_11 (by decide) ⟨by omega, by omega⟩ ⟨by omega, by omega⟩ (fun u7 => ?_) (fun u7 => ?_)
      · skip
        have hE : x = (skp ltB (bt (M 2) (M 1 1)) (M 1 1) (M 5 1)) := by rw [← hs, skp_st]; intro z; omega
        refine v_aload_n X 0 dX6_takeWord_44 rfl rfl ?_
        refine v_bipush X dX6_takeWord_45 (by decide) ?_
        refine pt_X6_kind X iwX6 (Std.lt hS rfl) (Std.k hS rfl rfl) (List.mem_cons_of_mem _ bw_4_6) ⟨by decide, by decide⟩ dX6_takeWord_47 ?_
        refine v_iconst X dX6_takeWord_50 ?_
        refine v_istore_n X [(1, .int (iz 0)), (0, .ref (ad 5))] dX6_takeWord_51 rfl (by decide) rfl ?_
        have hl8 : ∀ (n10 : Nat) (k : Int) (wd : Int), (0 ≤ wd ∧ wd ≤ 15) → (k = if firstN (isWB (bt (M 2) (M 1 1)) (M 5 4) x) wd.toNat = -1 then 27 else firstN (isWB (bt (M 2) (M 1 1)) (M 5 4) x) wd.toNat) → (0 ≤ k ∧ k ≤ 27) → (15 - wd).toNat < n10 → V K 2 0 0 N sh ad (mu (mu M 5 1 x) 5 2 k) L R [(0, .ref (ad 5)), (1, .int (iz wd))] [] 52 := by
          intro n10
          induction n10 with
          | zero => intro k wd hw hk hk2 hn11; exact absurd hn11 (Nat.not_lt_zero _)
          | succ n10 ih9 =>
            intro k wd hw hk hk2 hn11
            refine v_iload_n X 1 dX6_takeWord_52 rfl rfl ?_
            refine v_bipush X dX6_takeWord_53 (by decide) ?_
            refine v_icmp_gt X 86 dX6_takeWord_55 (by decide) ⟨by omega, by omega⟩ ⟨by decide, by decide⟩ (fun u12 => ?_) (fun u12 => ?_)
            · skip
              refine hret _ _ _ _ _ _ _ _ _ _ _ none dX6_takeWord_86 ⟨rfl, rfl⟩ (by decide) (by decide) (fun hmok => ?_)
              refine ⟨rfl, rfl, rfl, rfl, rfl, rfl, ?_⟩
              try dsimp only
              rw [← hE]
              unfold wdK
              have hk9 : k = if firstN (isWB (bt (M 2) (M 1 1)) (M 5 4) x) 15 = -1 then 27 else firstN (isWB (bt (M 2) (M 1 1)) (M 5 4) x) 15 := by
                by_cases c : wd = 15
                · subst c; exact hk
                · have c2 : k ≠ 27 := by omega
                  by_cases c3 : firstN (isWB (bt (M 2) (M 1 1)) (M 5 4) x) wd.toNat = -1
                  · rw [if_pos c3] at hk; omega
                  · rw [if_neg c3] at hk
                    have h9 := firstN_yes (p := (isWB (bt (M 2) (M 1 1)) (M 5 4) x)) c3
                    have h8 := firstN_in (p := (isWB (bt (M 2) (M 1 1)) (M 5 4) x)) wd.toNat
                    rw [firstN_keep c3 (by omega), if_neg c3]; exact hk
              rw [← hk9]
            · skip
              refine v_aload_n X 0 dX6_takeWord_58 rfl rfl ?_
              refine gt_X6_kind X iwX6 (Std.lt hS rfl) (Std.k hS rfl rfl) (List.mem_cons_of_mem _ bw_4_6) dX6_takeWord_59 k rfl (fun hr13 => ?_)
              refine v_bipush X dX6_takeWord_62 (by decide) ?_
              refine v_icmp_ne X 86 dX6_takeWord_64 (by decide) ⟨by omega, by omega⟩ ⟨by decide, by decide⟩ (fun u14 => ?_) (fun u14 => ?_)
              · skip
                refine hret _ _ _ _ _ _ _ _ _ _ _ none dX6_takeWord_86 ⟨rfl, rfl⟩ (by decide) (by decide) (fun hmok => ?_)
                refine ⟨rfl, rfl, rfl, rfl, rfl, rfl, ?_⟩
                try dsimp only
                rw [← hE]
                unfold wdK
                have hk9 : k = if firstN (isWB (bt (M 2) (M 1 1)) (M 5 4) x) 15 = -1 then 27 else firstN (isWB (bt (M 2) (M 1 1)) (M 5 4) x) 15 := by
                  by_cases c : wd = 15
                  · subst c; exact hk
                  · have c2 : k ≠ 27 := by omega
                    by_cases c3 : firstN (isWB (bt (M 2) (M 1 1)) (M 5 4) x) wd.toNat = -1
                    · rw [if_pos c3] at hk; omega
                    · rw [if_neg c3] at hk
                      have h9 := firstN_yes (p := (isWB (bt (M 2) (M 1 1)) (M 5 4) x)) c3
                      have h8 := firstN_in (p := (isWB (bt (M 2) (M 1 1)) (M 5 4) x)) wd.toNat
                      rw [firstN_keep c3 (by omega), if_neg c3]; exact hk
                rw [← hk9]
              · skip
                refine v_aload_n X 0 dX6_takeWord_67 rfl rfl ?_
                refine v_iload_n X 1 dX6_takeWord_68 rfl rfl ?_
                refine v_callV X [.int (iz wd)] hRm (c_X6_isWord _ _ _ hS wd (by omega) (show 0 ≤ M 1 1 ∧ M 1 1 ≤ 2000 by omega) (show 0 ≤ (M 5 4) ∧ (M 5 4) ≤ x ∧ x ≤ M 1 1 by omega)) (gV bw_13_9 bw_13_10 bw_13_11 bw_3_14 bw_13_12) rfl ddX6_isWord (by decide) (Std.lt hS rfl) (Std.k hS rfl rfl) ⟨rfl, by decide⟩ (Nat.le_of_ble_eq_true rfl) dX6_takeWord_69 (k_pB (fun b15 => ?_) (fun b15 => ?_))
                · skip
                  replace b15 : (isWB (bt (M 2) (M 1 1)) (M 5 4) x wd = true) := b15
                  refine v_if_eq X 80 dX6_takeWord_72 (by decide) ⟨by decide, by decide⟩ (fun q => absurd q (by decide)) (fun _ => ?_)
                  refine v_aload_n X 0 dX6_takeWord_75 rfl rfl ?_
                  refine v_iload_n X 1 dX6_takeWord_76 rfl rfl ?_
                  refine pt_X6_kind X iwX6 (Std.lt hS rfl) (Std.k hS rfl rfl) (List.mem_cons_of_mem _ bw_4_6) ⟨by omega, by omega⟩ dX6_takeWord_77 ?_
                  refine v_iinc X 1 [(1, .int (iz (wd + 1))), (0, .ref (ad 5))] dX6_takeWord_80 rfl (by decide) rfl ?_
                  refine v_goto X 52 dX6_takeWord_83 (by decide) ?_
                  refine v_lv [1, 0] rfl ?_
                  refine v_mem (M' := (mu (mu M 5 1 x) 5 2 wd)) (by funext a b; simp only [mu]; repeat' split; all_goals (first | rfl | omega)) rfl rfl ?_
                  exact ih9 wd (wd + 1) (by omega) (by rw [show (wd + 1).toNat = wd.toNat + 1 by omega, firstN_hit (j := wd.toNat) (by by_cases c : firstN (isWB (bt (M 2) (M 1 1)) (M 5 4) x) wd.toNat = -1; exact c; rw [if_neg c] at hk; have := firstN_in (p := (isWB (bt (M 2) (M 1 1)) (M 5 4) x)) wd.toNat; omega) (by rw [Int.toNat_of_nonneg (by omega)]; exact b15) (by omega), if_neg (by omega)]; omega) (by omega) (by omega)
                · skip
                  replace b15 : ¬ (isWB (bt (M 2) (M 1 1)) (M 5 4) x wd = true) := b15
                  refine v_if_eq X 80 dX6_takeWord_72 (by decide) ⟨by decide, by decide⟩ (fun _ => ?_) (fun q => absurd (by decide) q)
                  refine v_iinc X 1 [(1, .int (iz (wd + 1))), (0, .ref (ad 5))] dX6_takeWord_80 rfl (by decide) rfl ?_
                  refine v_goto X 52 dX6_takeWord_83 (by decide) ?_
                  refine v_lv [1, 0] rfl ?_
                  refine v_mem (M' := (mu (mu M 5 1 x) 5 2 k)) (by funext a b; simp only [mu]; repeat' split; all_goals (first | rfl | omega)) rfl rfl ?_
                  exact ih9 k (wd + 1) (by omega) (by rw [show (wd + 1).toNat = wd.toNat + 1 by omega, firstN_miss (by by_cases c : firstN (isWB (bt (M 2) (M 1 1)) (M 5 4) x) wd.toNat = -1; exact c; rw [if_neg c] at hk; have := firstN_in (p := (isWB (bt (M 2) (M 1 1)) (M 5 4) x)) wd.toNat; omega) (by rw [Int.toNat_of_nonneg (by omega)]; exact Bool.eq_false_iff.mpr b15), if_pos rfl]; omega) (by omega) (by omega)
        refine v_lv [1, 0] rfl ?_
        refine v_mem (M' := (mu (mu M 5 1 x) 5 2 27)) (by rfl) rfl rfl ?_
        exact hl8 _ 27 0 (by omega) (rfl) (by omega) (Nat.lt_succ_self _)
      · skip
        refine v_aload_n X 0 dX6_takeWord_14 rfl rfl ?_
        refine gt_X6_tape X iwX6 (Std.lt hS rfl) (Std.k hS rfl rfl) (List.mem_cons_of_mem _ bw_4_0) dX6_takeWord_15 1 (Std.r hS 0 rfl) ?_
        refine v_aload_n X 0 dX6_takeWord_18 rfl rfl ?_
        refine gt_X6_next X iwX6 (Std.lt hS rfl) (Std.k hS rfl rfl) (List.mem_cons_of_mem _ bw_4_5) dX6_takeWord_19 x rfl (fun hr16 => ?_)
        refine v_callV X [.int (iz x)] hRm (c_X9_byteAt2 _ _ _ hS x ⟨by omega, by omega⟩ (show (M 1 1) ≤ 2000 by omega)) (gV bw_12_19 bw_12_20 bw_12_21 bw_1_14 bw_12_22) rfl ddX9_byteAt (by decide) (Std.lt hS rfl) (Std.k hS rfl rfl) ⟨rfl, by decide⟩ (Nat.le_of_ble_eq_true rfl) dX6_takeWord_22 (k_pI (fun r17 hr18 e19 => ?_))
        replace e19 : r17 = (bt (M 2) (M 1 1)) x := e19
        refine v_callS X [.int (iz r17)] hRm (c_X6_isLetter _ _ _ r17 ⟨by omega, by omega⟩) (gS bw_13_2 bw_13_3 bw_3_14 bw_13_4) rfl ddX6_isLetter (by decide) (Nat.le_of_ble_eq_true rfl) dX6_takeWord_25 (k_pB (fun b20 => ?_) (fun b20 => ?_))
        · skip
          refine v_if_eq X 44 dX6_takeWord_28 (by decide) ⟨by decide, by decide⟩ (fun q => absurd q (by decide)) (fun _ => ?_)
          refine v_aload_n X 0 dX6_takeWord_31 rfl rfl ?_
          refine v_dup X dX6_takeWord_32 rfl ?_
          refine gt_X6_next X iwX6 (Std.lt hS rfl) (Std.k hS rfl rfl) (List.mem_cons_of_mem _ bw_4_5) dX6_takeWord_33 x rfl (fun hr21 => ?_)
          refine v_iconst X dX6_takeWord_36 ?_
          refine v_iadd X dX6_takeWord_37 ?_
          refine pt_X6_next X iwX6 (Std.lt hS rfl) (Std.k hS rfl rfl) (List.mem_cons_of_mem _ bw_4_5) ⟨by omega, by omega⟩ dX6_takeWord_38 ?_
          refine v_goto X 0 dX6_takeWord_41 (by decide) ?_
          refine v_mem (M' := (mu M 5 1 (x + 1))) (by funext a b; simp only [mu]; repeat' split; all_goals (first | rfl | omega)) rfl rfl ?_
          exact ih2 (x + 1) (by omega) (by rw [← skp_go (by omega) (ltB_t.mpr (by rw [← e19]; omega))]; exact hs) (by omega)
        · skip
          refine v_if_eq X 44 dX6_takeWord_28 (by decide) ⟨by decide, by decide⟩ (fun _ => ?_) (fun q => absurd (by decide) q)
          have hE : x = (skp ltB (bt (M 2) (M 1 1)) (M 1 1) (M 5 1)) := by rw [← hs, skp_st]; intro z; have z2 := ltB_t.mp z.2; rw [← e19] at z2; omega
          refine v_aload_n X 0 dX6_takeWord_44 rfl rfl ?_
          refine v_bipush X dX6_takeWord_45 (by decide) ?_
          refine pt_X6_kind X iwX6 (Std.lt hS rfl) (Std.k hS rfl rfl) (List.mem_cons_of_mem _ bw_4_6) ⟨by decide, by decide⟩ dX6_takeWord_47 ?_
          refine v_iconst X dX6_takeWord_50 ?_
          refine v_istore_n X [(1, .int (iz 0)), (0, .ref (ad 5))] dX6_takeWord_51 rfl (by decide) rfl ?_
          have hl22 : ∀ (n24 : Nat) (k : Int) (wd : Int), (0 ≤ wd ∧ wd ≤ 15) → (k = if firstN (isWB (bt (M 2) (M 1 1)) (M 5 4) x) wd.toNat = -1 then 27 else firstN (isWB (bt (M 2) (M 1 1)) (M 5 4) x) wd.toNat) → (0 ≤ k ∧ k ≤ 27) → (15 - wd).toNat < n24 → V K 2 0 0 N sh ad (mu (mu M 5 1 x) 5 2 k) L R [(0, .ref (ad 5)), (1, .int (iz wd))] [] 52 := by
            intro n24
            induction n24 with
            | zero => intro k wd hw hk hk2 hn25; exact absurd hn25 (Nat.not_lt_zero _)
            | succ n24 ih23 =>
              intro k wd hw hk hk2 hn25
              refine v_iload_n X 1 dX6_takeWord_52 rfl rfl ?_
              refine v_bipush X dX6_takeWord_53 (by decide) ?_
              refine v_icmp_gt X 86 dX6_takeWord_55 (by decide) ⟨by omega, by omega⟩ ⟨by decide, by decide⟩ (fun u26 => ?_) (fun u26 => ?_)
              · skip
                refine hret _ _ _ _ _ _ _ _ _ _ _ none dX6_takeWord_86 ⟨rfl, rfl⟩ (by decide) (by decide) (fun hmok => ?_)
                refine ⟨rfl, rfl, rfl, rfl, rfl, rfl, ?_⟩
                try dsimp only
                rw [← hE]
                unfold wdK
                have hk9 : k = if firstN (isWB (bt (M 2) (M 1 1)) (M 5 4) x) 15 = -1 then 27 else firstN (isWB (bt (M 2) (M 1 1)) (M 5 4) x) 15 := by
                  by_cases c : wd = 15
                  · subst c; exact hk
                  · have c2 : k ≠ 27 := by omega
                    by_cases c3 : firstN (isWB (bt (M 2) (M 1 1)) (M 5 4) x) wd.toNat = -1
                    · rw [if_pos c3] at hk; omega
                    · rw [if_neg c3] at hk
                      have h9 := firstN_yes (p := (isWB (bt (M 2) (M 1 1)) (M 5 4) x)) c3
                      have h8 := firstN_in (p := (isWB (bt (M 2) (M 1 1)) (M 5 4) x)) wd.toNat
                      rw [firstN_keep c3 (by omega), if_neg c3]; exact hk
                rw [← hk9]
              · skip
                refine v_aload_n X 0 dX6_takeWord_58 rfl rfl ?_
                refine gt_X6_kind X iwX6 (Std.lt hS rfl) (Std.k hS rfl rfl) (List.mem_cons_of_mem _ bw_4_6) dX6_takeWord_59 k rfl (fun hr27 => ?_)
                refine v_bipush X dX6_takeWord_62 (by decide) ?_
                refine v_icmp_ne X 86 dX6_takeWord_64 (by decide) ⟨by omega, by omega⟩ ⟨by decide, by decide⟩ (fun u28 => ?_) (fun u28 => ?_)
                · skip
                  refine hret _ _ _ _ _ _ _ _ _ _ _ none dX6_takeWord_86 ⟨rfl, rfl⟩ (by decide) (by decide) (fun hmok => ?_)
                  refine ⟨rfl, rfl, rfl, rfl, rfl, rfl, ?_⟩
                  try dsimp only
                  rw [← hE]
                  unfold wdK
                  have hk9 : k = if firstN (isWB (bt (M 2) (M 1 1)) (M 5 4) x) 15 = -1 then 27 else firstN (isWB (bt (M 2) (M 1 1)) (M 5 4) x) 15 := by
                    by_cases c : wd = 15
                    · subst c; exact hk
                    · have c2 : k ≠ 27 := by omega
                      by_cases c3 : firstN (isWB (bt (M 2) (M 1 1)) (M 5 4) x) wd.toNat = -1
                      · rw [if_pos c3] at hk; omega
                      · rw [if_neg c3] at hk
                        have h9 := firstN_yes (p := (isWB (bt (M 2) (M 1 1)) (M 5 4) x)) c3
                        have h8 := firstN_in (p := (isWB (bt (M 2) (M 1 1)) (M 5 4) x)) wd.toNat
                        rw [firstN_keep c3 (by omega), if_neg c3]; exact hk
                  rw [← hk9]
                · skip
                  refine v_aload_n X 0 dX6_takeWord_67 rfl rfl ?_
                  refine v_iload_n X 1 dX6_takeWord_68 rfl rfl ?_
                  refine v_callV X [.int (iz wd)] hRm (c_X6_isWord _ _ _ hS wd (by omega) (show 0 ≤ M 1 1 ∧ M 1 1 ≤ 2000 by omega) (show 0 ≤ (M 5 4) ∧ (M 5 4) ≤ x ∧ x ≤ M 1 1 by omega)) (gV bw_13_9 bw_13_10 bw_13_11 bw_3_14 bw_13_12) rfl ddX6_isWord (by decide) (Std.lt hS rfl) (Std.k hS rfl rfl) ⟨rfl, by decide⟩ (Nat.le_of_ble_eq_true rfl) dX6_takeWord_69 (k_pB (fun b29 => ?_) (fun b29 => ?_))
                  · skip
                    replace b29 : (isWB (bt (M 2) (M 1 1)) (M 5 4) x wd = true) := b29
                    refine v_if_eq X 80 dX6_takeWord_72 (by decide) ⟨by decide, by decide⟩ (fun q => absurd q (by decide)) (fun _ => ?_)
                    refine v_aload_n X 0 dX6_takeWord_75 rfl rfl ?_
                    refine v_iload_n X 1 dX6_takeWord_76 rfl rfl ?_
                    refine pt_X6_kind X iwX6 (Std.lt hS rfl) (Std.k hS rfl rfl) (List.mem_cons_of_mem _ bw_4_6) ⟨by omega, by omega⟩ dX6_takeWord_77 ?_
                    refine v_iinc X 1 [(1, .int (iz (wd + 1))), (0, .ref (ad 5))] dX6_takeWord_80 rfl (by decide) rfl ?_
                    refine v_goto X 52 dX6_takeWord_83 (by decide) ?_
                    refine v_lv [1, 0] rfl ?_
                    refine v_mem (M' := (mu (mu M 5 1 x) 5 2 wd)) (by funext a b; simp only [mu]; repeat' split; all_goals (first | rfl | omega)) rfl rfl ?_
                    exact ih23 wd (wd + 1) (by omega) (by rw [show (wd + 1).toNat = wd.toNat + 1 by omega, firstN_hit (j := wd.toNat) (by by_cases c : firstN (isWB (bt (M 2) (M 1 1)) (M 5 4) x) wd.toNat = -1; exact c; rw [if_neg c] at hk; have := firstN_in (p := (isWB (bt (M 2) (M 1 1)) (M 5 4) x)) wd.toNat; omega) (by rw [Int.toNat_of_nonneg (by omega)]; exact b29) (by omega), if_neg (by omega)]; omega) (by omega) (by omega)
                  · skip
                    replace b29 : ¬ (isWB (bt (M 2) (M 1 1)) (M 5 4) x wd = true) := b29
                    refine v_if_eq X 80 dX6_takeWord_72 (by decide) ⟨by decide, by decide⟩ (fun _ => ?_) (fun q => absurd (by decide) q)
                    refine v_iinc X 1 [(1, .int (iz (wd + 1))), (0, .ref (ad 5))] dX6_takeWord_80 rfl (by decide) rfl ?_
                    refine v_goto X 52 dX6_takeWord_83 (by decide) ?_
                    refine v_lv [1, 0] rfl ?_
                    refine v_mem (M' := (mu (mu M 5 1 x) 5 2 k)) (by funext a b; simp only [mu]; repeat' split; all_goals (first | rfl | omega)) rfl rfl ?_
                    exact ih23 k (wd + 1) (by omega) (by rw [show (wd + 1).toNat = wd.toNat + 1 by omega, firstN_miss (by by_cases c : firstN (isWB (bt (M 2) (M 1 1)) (M 5 4) x) wd.toNat = -1; exact c; rw [if_neg c] at hk; have := firstN_in (p := (isWB (bt (M 2) (M 1 1)) (M 5 4) x)) wd.toNat; omega) (by rw [Int.toNat_of_nonneg (by omega)]; exact Bool.eq_false_iff.mpr b29), if_pos rfl]; omega) (by omega) (by omega)
          refine v_lv [1, 0] rfl ?_
          refine v_mem (M' := (mu (mu M 5 1 x) 5 2 27)) (by rfl) rfl rfl ?_
          exact hl22 _ 27 0 (by omega) (rfl) (by omega) (Nat.lt_succ_self _)
  refine v_mem (M' := (mu M 5 1 (M 5 1))) (by exact (mu_id M 5 1).symm) rfl rfl ?_
  exact hl1 _ (M 5 1) (by omega) (rfl) (Nat.lt_succ_self _)

-- takeInt
set_option maxHeartbeats 4000000 in
set_option maxRecDepth 100000 in
theorem c_X6_takeInt (l : Launch) (D : va_G) (cy : Nat → ClassId) {N : Nat} {sh : MS} {ad : Nat → Nat} {M L : MI} {R : MR} (hS : Std N sh R) (hn : 0 ≤ M 1 1 ∧ M 1 1 ≤ 2000) (hp : 0 ≤ M 5 4 ∧ M 5 4 = M 5 1 ∧ M 5 1 ≤ M 1 1) (hv : M 5 3 = 0) : Ctr l D cy yX6_takeInt wsX6_takeInt ({ frames := 1, cells := 0, slots := 0, locals := 21 } : Room) N sh ad M L R [.ref (ad 5)] (eV N sh ad L R (fun M' => M' = mu (mu (mu M 5 1 (skp dgB (bt (M 2) (M 1 1)) (M 1 1) (M 5 1))) 5 3 (dgV (bt (M 2) (M 1 1)) (M 5 4) ((skp dgB (bt (M 2) (M 1 1)) (M 1 1) (M 5 1)) - M 5 4).toNat)) 5 2 (if (skp dgB (bt (M 2) (M 1 1)) (M 1 1) (M 5 1)) - M 5 4 ≤ 4 then 25 else 27))) := by
  refine Ctr.ofV (by decide) rfl (Nat.le_of_ble_eq_true rfl) ?_
  intro K hKl hKd hRm hnm X hret
  have X : VX K cX6_takeInt 1 wsX6_takeInt RX6 := X
  show V K 1 0 0 N sh ad M L R [(0, .ref (ad 5))] [] 0
  have hl1 : ∀ (n3 : Nat) (x : Int) (y : Int), (M 5 1 ≤ x ∧ x ≤ M 1 1) → (skp dgB (bt (M 2) (M 1 1)) (M 1 1) x = (skp dgB (bt (M 2) (M 1 1)) (M 1 1) (M 5 1))) → (y = dgV (bt (M 2) (M 1 1)) (M 5 4) (x - M 5 4).toNat) → (M 1 1 - x).toNat < n3 → V K 1 0 0 N sh ad (mu (mu M 5 1 x) 5 3 y) L R [(0, .ref (ad 5))] [] 0 := by
    intro n3
    induction n3 with
    | zero => intro x y hx hs hy hn4; exact absurd hn4 (Nat.not_lt_zero _)
    | succ n3 ih2 =>
      intro x y hx hs hy hn4
      refine v_aload_n X 0 dX6_takeInt_0 rfl rfl ?_
      refine gt_X6_next X iwX6 (Std.lt hS rfl) (Std.k hS rfl rfl) (List.mem_cons_of_mem _ bw_4_5) dX6_takeInt_1 x rfl (fun hr5 => ?_)
      refine v_aload_n X 0 dX6_takeInt_4 rfl rfl ?_
      refine gt_X6_tape X iwX6 (Std.lt hS rfl) (Std.k hS rfl rfl) (List.mem_cons_of_mem _ bw_4_0) dX6_takeInt_5 1 (Std.r hS 0 rfl) ?_
      refine gt_X9_size X iwX9 (Std.lt hS rfl) (Std.k hS rfl rfl) (List.mem_cons_of_mem _ bw_12_18) dX6_takeInt_8 (M 1 1) rfl (fun hr6 => ?_)
      refine v_icmp_ge X 70 dX6_takeInt_11 (by decide) ⟨by omega, by omega⟩ ⟨by omega, by omega⟩ (fun u7 => ?_) (fun u7 => ?_)
      · skip
        have hE : x = (skp dgB (bt (M 2) (M 1 1)) (M 1 1) (M 5 1)) := by rw [← hs, skp_st]; intro z; omega
        refine v_aload_n X 0 dX6_takeInt_70 rfl rfl ?_
        refine v_aload_n X 0 dX6_takeInt_71 rfl rfl ?_
        refine gt_X6_next X iwX6 (Std.lt hS rfl) (Std.k hS rfl rfl) (List.mem_cons_of_mem _ bw_4_5) dX6_takeInt_72 x rfl (fun hr8 => ?_)
        refine v_aload_n X 0 dX6_takeInt_75 rfl rfl ?_
        refine gt_X6_place X iwX6 (Std.lt hS rfl) (Std.k hS rfl rfl) (List.mem_cons_of_mem _ bw_4_8) dX6_takeInt_76 (M 5 4) rfl (fun hr9 => ?_)
        refine v_isub X dX6_takeInt_79 ?_
        refine v_iconst X dX6_takeInt_80 ?_
        refine v_icmp_gt X 89 dX6_takeInt_81 (by decide) ⟨by omega, by omega⟩ ⟨by decide, by decide⟩ (fun u10 => ?_) (fun u10 => ?_)
        · skip
          refine v_bipush X dX6_takeInt_89 (by decide) ?_
          refine pt_X6_kind X iwX6 (Std.lt hS rfl) (Std.k hS rfl rfl) (List.mem_cons_of_mem _ bw_4_6) ⟨by decide, by decide⟩ dX6_takeInt_91 ?_
          refine hret _ _ _ _ _ _ _ _ _ _ _ none dX6_takeInt_94 ⟨rfl, rfl⟩ (by decide) (by decide) (fun hmok => ?_)
          refine ⟨rfl, rfl, rfl, rfl, rfl, rfl, ?_⟩
          try dsimp only
          rw [← hE, ← hy]
          (first | rw [if_pos (by omega)] | rw [if_neg (by omega)])
        · skip
          refine v_bipush X dX6_takeInt_84 (by decide) ?_
          refine v_goto X 91 dX6_takeInt_86 (by decide) ?_
          refine pt_X6_kind X iwX6 (Std.lt hS rfl) (Std.k hS rfl rfl) (List.mem_cons_of_mem _ bw_4_6) ⟨by decide, by decide⟩ dX6_takeInt_91 ?_
          refine hret _ _ _ _ _ _ _ _ _ _ _ none dX6_takeInt_94 ⟨rfl, rfl⟩ (by decide) (by decide) (fun hmok => ?_)
          refine ⟨rfl, rfl, rfl, rfl, rfl, rfl, ?_⟩
          try dsimp only
          rw [← hE, ← hy]
          (first | rw [if_pos (by omega)] | rw [if_neg (by omega)])
      · skip
        refine v_aload_n X 0 dX6_takeInt_14 rfl rfl ?_
        refine gt_X6_tape X iwX6 (Std.lt hS rfl) (Std.k hS rfl rfl) (List.mem_cons_of_mem _ bw_4_0) dX6_takeInt_15 1 (Std.r hS 0 rfl) ?_
        refine v_aload_n X 0 dX6_takeInt_18 rfl rfl ?_
        refine gt_X6_next X iwX6 (Std.lt hS rfl) (Std.k hS rfl rfl) (List.mem_cons_of_mem _ bw_4_5) dX6_takeInt_19 x rfl (fun hr11 => ?_)
        refine v_callV X [.int (iz x)] hRm (c_X9_byteAt2 _ _ _ hS x ⟨by omega, by omega⟩ (show (M 1 1) ≤ 2000 by omega)) (gV bw_12_19 bw_12_20 bw_12_21 bw_1_14 bw_12_22) rfl ddX9_byteAt (by decide) (Std.lt hS rfl) (Std.k hS rfl rfl) ⟨rfl, by decide⟩ (Nat.le_of_ble_eq_true rfl) dX6_takeInt_22 (k_pI (fun r12 hr13 e14 => ?_))
        replace e14 : r12 = (bt (M 2) (M 1 1)) x := e14
        refine v_callS X [.int (iz r12)] hRm (c_X6_isDigit _ _ _ r12 ⟨by omega, by omega⟩) (gS bw_15_14 bw_15_15 bw_3_14 bw_15_16) rfl ddX6_isDigit (by decide) (Nat.le_of_ble_eq_true rfl) dX6_takeInt_25 (k_pB (fun b15 => ?_) (fun b15 => ?_))
        · skip
          refine v_if_eq X 70 dX6_takeInt_28 (by decide) ⟨by decide, by decide⟩ (fun q => absurd q (by decide)) (fun _ => ?_)
          refine v_aload_n X 0 dX6_takeInt_31 rfl rfl ?_
          refine v_aload_n X 0 dX6_takeInt_32 rfl rfl ?_
          refine gt_X6_value X iwX6 (Std.lt hS rfl) (Std.k hS rfl rfl) (List.mem_cons_of_mem _ bw_4_7) dX6_takeInt_33 y rfl (fun hr16 => ?_)
          refine v_bipush X dX6_takeInt_36 (by decide) ?_
          refine v_imul X dX6_takeInt_38 ?_
          refine v_aload_n X 0 dX6_takeInt_39 rfl rfl ?_
          refine gt_X6_tape X iwX6 (Std.lt hS rfl) (Std.k hS rfl rfl) (List.mem_cons_of_mem _ bw_4_0) dX6_takeInt_40 1 (Std.r hS 0 rfl) ?_
          refine v_aload_n X 0 dX6_takeInt_43 rfl rfl ?_
          refine gt_X6_next X iwX6 (Std.lt hS rfl) (Std.k hS rfl rfl) (List.mem_cons_of_mem _ bw_4_5) dX6_takeInt_44 x rfl (fun hr17 => ?_)
          refine v_callV X [.int (iz x)] hRm (c_X9_byteAt2 _ _ _ hS x ⟨by omega, by omega⟩ (show (M 1 1) ≤ 2000 by omega)) (gV bw_12_19 bw_12_20 bw_12_21 bw_1_14 bw_12_22) rfl ddX9_byteAt (by decide) (Std.lt hS rfl) (Std.k hS rfl rfl) ⟨rfl, by decide⟩ (Nat.le_of_ble_eq_true rfl) dX6_takeInt_47 (k_pI (fun r18 hr19 e20 => ?_))
          replace e20 : r18 = (bt (M 2) (M 1 1)) x := e20
          refine v_iadd X dX6_takeInt_50 ?_
          refine v_bipush X dX6_takeInt_51 (by decide) ?_
          refine v_isub X dX6_takeInt_53 ?_
          refine v_st (st' := [.int (iz (wrp (((y * 10) + r18) - 48))), .ref (ad 5)]) (by rw [wrp_iz]) ?_
          have hw9 := wrp_in (((y * 10) + r18) - 48)
          refine pt_X6_value X iwX6 (Std.lt hS rfl) (Std.k hS rfl rfl) (List.mem_cons_of_mem _ bw_4_7) ⟨by omega, by omega⟩ dX6_takeInt_54 ?_
          refine v_aload_n X 0 dX6_takeInt_57 rfl rfl ?_
          refine v_dup X dX6_takeInt_58 rfl ?_
          refine gt_X6_next X iwX6 (Std.lt hS rfl) (Std.k hS rfl rfl) (List.mem_cons_of_mem _ bw_4_5) dX6_takeInt_59 x rfl (fun hr21 => ?_)
          refine v_iconst X dX6_takeInt_62 ?_
          refine v_iadd X dX6_takeInt_63 ?_
          refine pt_X6_next X iwX6 (Std.lt hS rfl) (Std.k hS rfl rfl) (List.mem_cons_of_mem _ bw_4_5) ⟨by omega, by omega⟩ dX6_takeInt_64 ?_
          refine v_goto X 0 dX6_takeInt_67 (by decide) ?_
          refine v_mem (M' := (mu (mu M 5 1 (x + 1)) 5 3 (wrp (((y * 10) + r18) - 48)))) (by funext a b; simp only [mu]; repeat' split; all_goals (first | rfl | omega)) rfl rfl ?_
          exact ih2 (x + 1) (wrp (((y * 10) + r18) - 48)) (by omega) (by rw [← skp_go (by omega) (dgB_t.mpr (by rw [← e14]; omega))]; exact hs) (by rw [show (x + 1 - M 5 4).toNat = (x - M 5 4).toNat + 1 by omega, dgV_s, ← hy, e20, show M 5 4 + ((x - M 5 4).toNat : Int) = x by omega]) (by omega)
        · skip
          refine v_if_eq X 70 dX6_takeInt_28 (by decide) ⟨by decide, by decide⟩ (fun _ => ?_) (fun q => absurd (by decide) q)
          have hE : x = (skp dgB (bt (M 2) (M 1 1)) (M 1 1) (M 5 1)) := by rw [← hs, skp_st]; intro z; have z2 := dgB_t.mp z.2; rw [← e14] at z2; omega
          refine v_aload_n X 0 dX6_takeInt_70 rfl rfl ?_
          refine v_aload_n X 0 dX6_takeInt_71 rfl rfl ?_
          refine gt_X6_next X iwX6 (Std.lt hS rfl) (Std.k hS rfl rfl) (List.mem_cons_of_mem _ bw_4_5) dX6_takeInt_72 x rfl (fun hr22 => ?_)
          refine v_aload_n X 0 dX6_takeInt_75 rfl rfl ?_
          refine gt_X6_place X iwX6 (Std.lt hS rfl) (Std.k hS rfl rfl) (List.mem_cons_of_mem _ bw_4_8) dX6_takeInt_76 (M 5 4) rfl (fun hr23 => ?_)
          refine v_isub X dX6_takeInt_79 ?_
          refine v_iconst X dX6_takeInt_80 ?_
          refine v_icmp_gt X 89 dX6_takeInt_81 (by decide) ⟨by omega, by omega⟩ ⟨by decide, by decide⟩ (fun u24 => ?_) (fun u24 => ?_)
          · skip
            refine v_bipush X dX6_takeInt_89 (by decide) ?_
            refine pt_X6_kind X iwX6 (Std.lt hS rfl) (Std.k hS rfl rfl) (List.mem_cons_of_mem _ bw_4_6) ⟨by decide, by decide⟩ dX6_takeInt_91 ?_
            refine hret _ _ _ _ _ _ _ _ _ _ _ none dX6_takeInt_94 ⟨rfl, rfl⟩ (by decide) (by decide) (fun hmok => ?_)
            refine ⟨rfl, rfl, rfl, rfl, rfl, rfl, ?_⟩
            try dsimp only
            rw [← hE, ← hy]
            (first | rw [if_pos (by omega)] | rw [if_neg (by omega)])
          · skip
            refine v_bipush X dX6_takeInt_84 (by decide) ?_
            refine v_goto X 91 dX6_takeInt_86 (by decide) ?_
            refine pt_X6_kind X iwX6 (Std.lt hS rfl) (Std.k hS rfl rfl) (List.mem_cons_of_mem _ bw_4_6) ⟨by decide, by decide⟩ dX6_takeInt_91 ?_
            refine hret _ _ _ _ _ _ _ _ _ _ _ none dX6_takeInt_94 ⟨rfl, rfl⟩ (by decide) (by decide) (fun hmok => ?_)
            refine ⟨rfl, rfl, rfl, rfl, rfl, rfl, ?_⟩
            try dsimp only
            rw [← hE, ← hy]
            (first | rw [if_pos (by omega)] | rw [if_neg (by omega)])
  refine v_mem (M' := (mu (mu M 5 1 (M 5 1)) 5 3 (M 5 3))) (by (rw [mu_id, mu_id])) rfl rfl ?_
  exact hl1 _ (M 5 1) (M 5 3) (by omega) (rfl) (by rw [hv, show (M 5 1 - M 5 4).toNat = 0 by omega]; rfl) (Nat.lt_succ_self _)

-- takeSign
set_option maxHeartbeats 4000000 in
set_option maxRecDepth 100000 in
theorem c_X6_takeSign (l : Launch) (D : va_G) (cy : Nat → ClassId) {N : Nat} {sh : MS} {ad : Nat → Nat} {M L : MI} {R : MR} (hS : Std N sh R) (c : Int) (hc : inR c) (hn : 0 ≤ M 1 1 ∧ M 1 1 ≤ 2000) (hp : 0 ≤ M 5 1 ∧ M 5 1 < M 1 1) : Ctr l D cy yX6_takeSign wsX6_takeSign ({ frames := 1, cells := 0, slots := 0, locals := 21 } : Room) N sh ad M L R [.ref (ad 5), .int (iz c)] (eV N sh ad L R (fun M' => M' = mu (mu M 5 1 (M 5 1 + sgN c ((bt (M 2) (M 1 1)) (M 5 1 + 1)))) 5 2 (sgK c ((bt (M 2) (M 1 1)) (M 5 1 + 1))))) := by
  refine Ctr.ofV (by decide) rfl (Nat.le_of_ble_eq_true rfl) ?_
  intro K hKl hKd hRm hnm X hret
  have X : VX K cX6_takeSign 3 wsX6_takeSign RX6 := X
  show V K 3 0 0 N sh ad M L R [(0, .ref (ad 5)), (1, .int (iz c))] [] 0
  refine v_aload_n X 0 dX6_takeSign_0 rfl rfl ?_
  refine v_dup X dX6_takeSign_1 rfl ?_
  refine gt_X6_next X iwX6 (Std.lt hS rfl) (Std.k hS rfl rfl) (List.mem_cons_of_mem _ bw_4_5) dX6_takeSign_2 (M 5 1) rfl (fun hr1 => ?_)
  refine v_iconst X dX6_takeSign_5 ?_
  refine v_iadd X dX6_takeSign_6 ?_
  refine pt_X6_next X iwX6 (Std.lt hS rfl) (Std.k hS rfl rfl) (List.mem_cons_of_mem _ bw_4_5) ⟨by omega, by omega⟩ dX6_takeSign_7 ?_
  refine v_aload_n X 0 dX6_takeSign_10 rfl rfl ?_
  refine gt_X6_tape X iwX6 (Std.lt hS rfl) (Std.k hS rfl rfl) (List.mem_cons_of_mem _ bw_4_0) dX6_takeSign_11 1 (Std.r hS 0 rfl) ?_
  refine v_aload_n X 0 dX6_takeSign_14 rfl rfl ?_
  refine gt_X6_next X iwX6 (Std.lt hS rfl) (Std.k hS rfl rfl) (List.mem_cons_of_mem _ bw_4_5) dX6_takeSign_15 ((M 5 1) + 1) rfl (fun hr2 => ?_)
  refine v_callV X [.int (iz ((M 5 1) + 1))] hRm (c_X9_byteAt2 _ _ _ hS ((M 5 1) + 1) ⟨by omega, by omega⟩ (show (M 1 1) ≤ 2000 by omega)) (gV bw_12_19 bw_12_20 bw_12_21 bw_1_14 bw_12_22) rfl ddX9_byteAt (by decide) (Std.lt hS rfl) (Std.k hS rfl rfl) ⟨rfl, by decide⟩ (Nat.le_of_ble_eq_true rfl) dX6_takeSign_18 (k_pI (fun r3 hr4 e5 => ?_))
  replace e5 : r3 = (bt (M 2) (M 1 1)) ((M 5 1) + 1) := e5
  refine v_bipush X dX6_takeSign_21 (by decide) ?_
  refine v_icmp_ne X 30 dX6_takeSign_23 (by decide) ⟨by omega, by omega⟩ ⟨by decide, by decide⟩ (fun u6 => ?_) (fun u6 => ?_)
  · skip
    refine v_iconst X dX6_takeSign_30 ?_
    refine v_istore_n X [(2, .int (iz 0)), (0, .ref (ad 5)), (1, .int (iz c))] dX6_takeSign_31 rfl (by decide) rfl ?_
    refine v_aload_n X 1 dX6_takeSign_32 rfl rfl ?_
    refine v_iload_n X 0 dX6_takeSign_33 rfl rfl ?_
    refine v_if_eq X 44 dX6_takeSign_34 (by decide) ⟨by decide, by decide⟩ (fun _ => ?_) (fun q => absurd (by decide) q)
    refine v_bipush X dX6_takeSign_44 (by decide) ?_
    refine pt_X6_kind X iwX6 (Std.lt hS rfl) (Std.k hS rfl rfl) (List.mem_cons_of_mem _ bw_4_6) ⟨by decide, by decide⟩ dX6_takeSign_46 ?_
    refine v_aload_n X 1 dX6_takeSign_49 rfl rfl ?_
    refine gt_X6_kind X iwX6 (Std.lt hS rfl) (Std.k hS rfl rfl) (List.mem_cons_of_mem _ bw_4_6) dX6_takeSign_50 27 rfl (fun hr7 => ?_)
    refine v_bipush X dX6_takeSign_53 (by decide) ?_
    refine v_icmp_ne X 69 dX6_takeSign_55 (by decide) ⟨by decide, by decide⟩ ⟨by decide, by decide⟩ (fun q => absurd q (by decide)) (fun _ => ?_)
    refine v_aload_n X 1 dX6_takeSign_58 rfl rfl ?_
    refine v_iload_n X 2 dX6_takeSign_59 rfl rfl ?_
    refine v_callS X [.int (iz c)] hRm (c_X6_kindOfSingle _ _ _ c ⟨by omega, by omega⟩) (gS bw_16_4 bw_16_5 bw_3_14 bw_16_6) rfl ddX6_kindOfSingle (by decide) (Nat.le_of_ble_eq_true rfl) dX6_takeSign_60 (k_pI (fun r8 hr9 e10 => ?_))
    refine pt_X6_kind X iwX6 (Std.lt hS rfl) (Std.k hS rfl rfl) (List.mem_cons_of_mem _ bw_4_6) ⟨by omega, by omega⟩ dX6_takeSign_63 ?_
    refine v_goto X 79 dX6_takeSign_66 (by decide) ?_
    refine hret _ _ _ _ _ _ _ _ _ _ _ none dX6_takeSign_79 ⟨rfl, rfl⟩ (by decide) (by decide) (fun hmok => ?_)
    refine ⟨rfl, rfl, rfl, rfl, rfl, rfl, ?_⟩
    try dsimp only
    unfold sgN sgK
    rw [← e5]
    have q9 : ¬ twB c r3 = true := fun z => by have z2 := twB_t.mp z; omega
    rw [if_neg q9, if_neg q9, ← e10]
    funext a b; simp only [mu]; repeat' split; all_goals (first | rfl | omega)
  · skip
    refine v_iconst X dX6_takeSign_26 ?_
    refine v_goto X 31 dX6_takeSign_27 (by decide) ?_
    refine v_istore_n X [(2, .int (iz 1)), (0, .ref (ad 5)), (1, .int (iz c))] dX6_takeSign_31 rfl (by decide) rfl ?_
    refine v_aload_n X 1 dX6_takeSign_32 rfl rfl ?_
    refine v_iload_n X 0 dX6_takeSign_33 rfl rfl ?_
    refine v_if_eq X 44 dX6_takeSign_34 (by decide) ⟨by decide, by decide⟩ (fun q => absurd q (by decide)) (fun _ => ?_)
    refine v_iload_n X 2 dX6_takeSign_37 rfl rfl ?_
    refine v_callS X [.int (iz c)] hRm (c_X6_kindOfPair _ _ _ c ⟨by omega, by omega⟩) (gS bw_16_1 bw_16_2 bw_3_14 bw_16_3) rfl ddX6_kindOfPair (by decide) (Nat.le_of_ble_eq_true rfl) dX6_takeSign_38 (k_pI (fun r11 hr12 e13 => ?_))
    refine v_goto X 46 dX6_takeSign_41 (by decide) ?_
    refine pt_X6_kind X iwX6 (Std.lt hS rfl) (Std.k hS rfl rfl) (List.mem_cons_of_mem _ bw_4_6) ⟨by omega, by omega⟩ dX6_takeSign_46 ?_
    refine v_aload_n X 1 dX6_takeSign_49 rfl rfl ?_
    refine gt_X6_kind X iwX6 (Std.lt hS rfl) (Std.k hS rfl rfl) (List.mem_cons_of_mem _ bw_4_6) dX6_takeSign_50 r11 rfl (fun hr14 => ?_)
    refine v_bipush X dX6_takeSign_53 (by decide) ?_
    refine v_icmp_ne X 69 dX6_takeSign_55 (by decide) ⟨by omega, by omega⟩ ⟨by decide, by decide⟩ (fun u15 => ?_) (fun u15 => ?_)
    · skip
      refine v_aload_n X 1 dX6_takeSign_69 rfl rfl ?_
      refine v_dup X dX6_takeSign_70 rfl ?_
      refine gt_X6_next X iwX6 (Std.lt hS rfl) (Std.k hS rfl rfl) (List.mem_cons_of_mem _ bw_4_5) dX6_takeSign_71 ((M 5 1) + 1) rfl (fun hr16 => ?_)
      refine v_iconst X dX6_takeSign_74 ?_
      refine v_iadd X dX6_takeSign_75 ?_
      refine pt_X6_next X iwX6 (Std.lt hS rfl) (Std.k hS rfl rfl) (List.mem_cons_of_mem _ bw_4_5) ⟨by omega, by omega⟩ dX6_takeSign_76 ?_
      refine hret _ _ _ _ _ _ _ _ _ _ _ none dX6_takeSign_79 ⟨rfl, rfl⟩ (by decide) (by decide) (fun hmok => ?_)
      refine ⟨rfl, rfl, rfl, rfl, rfl, rfl, ?_⟩
      try dsimp only
      unfold sgN sgK
      rw [← e5]
      have q9 : twB c r3 = true := twB_t.mpr ⟨by omega, Classical.byContradiction (fun z => by have z3 : prK c = 27 := (by unfold prK; repeat rw [if_neg (by omega)]); omega)⟩
      rw [if_pos q9, if_pos q9, ← e13]
      funext a b; simp only [mu]; repeat' split; all_goals (first | rfl | omega)
    · skip
      refine v_aload_n X 1 dX6_takeSign_58 rfl rfl ?_
      refine v_iload_n X 2 dX6_takeSign_59 rfl rfl ?_
      refine v_callS X [.int (iz c)] hRm (c_X6_kindOfSingle _ _ _ c ⟨by omega, by omega⟩) (gS bw_16_4 bw_16_5 bw_3_14 bw_16_6) rfl ddX6_kindOfSingle (by decide) (Nat.le_of_ble_eq_true rfl) dX6_takeSign_60 (k_pI (fun r17 hr18 e19 => ?_))
      refine pt_X6_kind X iwX6 (Std.lt hS rfl) (Std.k hS rfl rfl) (List.mem_cons_of_mem _ bw_4_6) ⟨by omega, by omega⟩ dX6_takeSign_63 ?_
      refine v_goto X 79 dX6_takeSign_66 (by decide) ?_
      refine hret _ _ _ _ _ _ _ _ _ _ _ none dX6_takeSign_79 ⟨rfl, rfl⟩ (by decide) (by decide) (fun hmok => ?_)
      refine ⟨rfl, rfl, rfl, rfl, rfl, rfl, ?_⟩
      try dsimp only
      unfold sgN sgK
      rw [← e5]
      have q9 : ¬ twB c r3 = true := fun z => by have z2 := twB_t.mp z; have z3 : prK c ≠ 27 := (by unfold prK; rcases z2.2 with h | h | h <;> subst h <;> decide); omega
      rw [if_neg q9, if_neg q9, ← e19]
      funext a b; simp only [mu]; repeat' split; all_goals (first | rfl | omega)

-- advance
set_option maxHeartbeats 4000000 in
set_option maxRecDepth 100000 in
theorem c_X6_advance (l : Launch) (D : va_G) (cy : Nat → ClassId) {N : Nat} {sh : MS} {ad : Nat → Nat} {M L : MI} {R : MR} (hS : Std N sh R) (hn : 0 ≤ M 1 1 ∧ M 1 1 ≤ 2000) (hp : 0 ≤ M 5 1 ∧ M 5 1 ≤ M 1 1) : Ctr l D cy yX6_advance wsX6_advance ({ frames := 6, cells := 0, slots := 0, locals := 130 } : Room) N sh ad M L R [.ref (ad 5)] (eV N sh ad L R (fun M' => (∀ i : Nat, i ≠ 5 → M' i = M i) ∧ M' 5 4 = lexP (bt (M 2) (M 1 1)) (M 1 1) (M 5 1) ∧ M' 5 2 = tkK (bt (M 2) (M 1 1)) (M 1 1) (M' 5 4) ∧ M' 5 3 = tkV (bt (M 2) (M 1 1)) (M 1 1) (M' 5 4) ∧ M' 5 1 = tkE (bt (M 2) (M 1 1)) (M 1 1) (M' 5 4))) := by
  refine Ctr.ofV (by decide) rfl (Nat.le_of_ble_eq_true rfl) ?_
  intro K hKl hKd hRm hnm X hret
  have X : VX K cX6_advance 2 wsX6_advance RX6 := X
  show V K 2 0 0 N sh ad M L R [(0, .ref (ad 5))] [] 0
  have hl1 : ∀ (n3 : Nat) (x : Int), (M 5 1 ≤ x ∧ x ≤ M 1 1) → (skp blB (bt (M 2) (M 1 1)) (M 1 1) x = lexP (bt (M 2) (M 1 1)) (M 1 1) (M 5 1)) → (M 1 1 - x).toNat < n3 → V K 2 0 0 N sh ad (mu M 5 1 x) L R [(0, .ref (ad 5))] [] 0 := by
    intro n3
    induction n3 with
    | zero => intro x hx hs hn4; exact absurd hn4 (Nat.not_lt_zero _)
    | succ n3 ih2 =>
      intro x hx hs hn4
      refine v_aload_n X 0 dX6_advance_0 rfl rfl ?_
      refine gt_X6_next X iwX6 (Std.lt hS rfl) (Std.k hS rfl rfl) (List.mem_cons_of_mem _ bw_4_5) dX6_advance_1 x rfl (fun hr5 => ?_)
      refine v_aload_n X 0 dX6_advance_4 rfl rfl ?_
      refine gt_X6_tape X iwX6 (Std.lt hS rfl) (Std.k hS rfl rfl) (List.mem_cons_of_mem _ bw_4_0) dX6_advance_5 1 (Std.r hS 0 rfl) ?_
      refine gt_X9_size X iwX9 (Std.lt hS rfl) (Std.k hS rfl rfl) (List.mem_cons_of_mem _ bw_12_18) dX6_advance_8 (M 1 1) rfl (fun hr6 => ?_)
      refine v_icmp_ge X 44 dX6_advance_11 (by decide) ⟨by omega, by omega⟩ ⟨by omega, by omega⟩ (fun u7 => ?_) (fun u7 => ?_)
      · skip
        have hE : x = lexP (bt (M 2) (M 1 1)) (M 1 1) (M 5 1) := by rw [← hs, skp_st]; intro z; omega
        refine v_aload_n X 0 dX6_advance_44 rfl rfl ?_
        refine v_aload_n X 0 dX6_advance_45 rfl rfl ?_
        refine gt_X6_next X iwX6 (Std.lt hS rfl) (Std.k hS rfl rfl) (List.mem_cons_of_mem _ bw_4_5) dX6_advance_46 x rfl (fun hr8 => ?_)
        refine pt_X6_place X iwX6 (Std.lt hS rfl) (Std.k hS rfl rfl) (List.mem_cons_of_mem _ bw_4_8) ⟨by omega, by omega⟩ dX6_advance_49 ?_
        refine v_aload_n X 0 dX6_advance_52 rfl rfl ?_
        refine v_iconst X dX6_advance_53 ?_
        refine pt_X6_value X iwX6 (Std.lt hS rfl) (Std.k hS rfl rfl) (List.mem_cons_of_mem _ bw_4_7) ⟨by decide, by decide⟩ dX6_advance_54 ?_
        refine v_aload_n X 0 dX6_advance_57 rfl rfl ?_
        refine gt_X6_tape X iwX6 (Std.lt hS rfl) (Std.k hS rfl rfl) (List.mem_cons_of_mem _ bw_4_0) dX6_advance_58 1 (Std.r hS 0 rfl) ?_
        refine v_aload_n X 0 dX6_advance_61 rfl rfl ?_
        refine gt_X6_next X iwX6 (Std.lt hS rfl) (Std.k hS rfl rfl) (List.mem_cons_of_mem _ bw_4_5) dX6_advance_62 x rfl (fun hr9 => ?_)
        refine v_callV X [.int (iz x)] hRm (c_X9_byteAt2 _ _ _ hS x ⟨by omega, by omega⟩ (show (M 1 1) ≤ 2000 by omega)) (gV bw_12_19 bw_12_20 bw_12_21 bw_1_14 bw_12_22) rfl ddX9_byteAt (by decide) (Std.lt hS rfl) (Std.k hS rfl rfl) ⟨rfl, by decide⟩ (Nat.le_of_ble_eq_true rfl) dX6_advance_65 (k_pI (fun r10 hr11 e12 => ?_))
        replace e12 : r10 = (bt (M 2) (M 1 1)) x := e12
        refine v_istore_n X [(1, .int (iz r10)), (0, .ref (ad 5))] dX6_advance_68 rfl (by decide) rfl ?_
        refine v_aload_n X 1 dX6_advance_69 rfl rfl ?_
        refine gt_X6_next X iwX6 (Std.lt hS rfl) (Std.k hS rfl rfl) (List.mem_cons_of_mem _ bw_4_5) dX6_advance_70 x rfl (fun hr13 => ?_)
        refine v_aload_n X 1 dX6_advance_73 rfl rfl ?_
        refine gt_X6_tape X iwX6 (Std.lt hS rfl) (Std.k hS rfl rfl) (List.mem_cons_of_mem _ bw_4_0) dX6_advance_74 1 (Std.r hS 0 rfl) ?_
        refine gt_X9_size X iwX9 (Std.lt hS rfl) (Std.k hS rfl rfl) (List.mem_cons_of_mem _ bw_12_18) dX6_advance_77 (M 1 1) rfl (fun hr14 => ?_)
        refine v_icmp_lt X 92 dX6_advance_80 (by decide) ⟨by omega, by omega⟩ ⟨by omega, by omega⟩ (fun u15 => ?_) (fun u15 => ?_)
        · skip
          refine v_iload_n X 0 dX6_advance_92 rfl rfl ?_
          refine v_callS X [.int (iz r10)] hRm (c_X6_isLetter _ _ _ r10 ⟨by omega, by omega⟩) (gS bw_13_2 bw_13_3 bw_3_14 bw_13_4) rfl ddX6_isLetter (by decide) (Nat.le_of_ble_eq_true rfl) dX6_advance_93 (k_pB (fun b16 => ?_) (fun b16 => ?_))
          · skip
            refine v_if_eq X 106 dX6_advance_96 (by decide) ⟨by decide, by decide⟩ (fun q => absurd q (by decide)) (fun _ => ?_)
            refine v_aload_n X 1 dX6_advance_99 rfl rfl ?_
            refine v_callV X [] hRm (c_X6_takeWord _ _ _ hS (show 0 ≤ M 1 1 ∧ M 1 1 ≤ 2000 by omega) (show 0 ≤ x ∧ x ≤ x ∧ x ≤ M 1 1 by omega)) (gV bw_13_5 bw_13_6 bw_13_7 bw_3_14 bw_13_8) rfl ddX6_takeWord (by decide) (Std.lt hS rfl) (Std.k hS rfl rfl) ⟨rfl, by decide⟩ (Nat.le_of_ble_eq_true rfl) dX6_advance_100 (k_eV (fun M18 e17 => ?_))
            replace e17 : M18 = (mu (mu (mu (mu (mu M 5 1 x) 5 4 x) 5 3 0) 5 1 (skp ltB (bt (M 2) (M 1 1)) (M 1 1) x)) 5 2 (wdK (bt (M 2) (M 1 1)) x (skp ltB (bt (M 2) (M 1 1)) (M 1 1) x))) := e17
            subst e17
            refine v_goto X 125 dX6_advance_103 (by decide) ?_
            refine hret _ _ _ _ _ _ _ _ _ _ _ none dX6_advance_125 ⟨rfl, rfl⟩ (by decide) (by decide) (fun hmok => ?_)
            have t9 := tk_word (g := (bt (M 2) (M 1 1))) (n := M 1 1) (p := x) (by omega) (ltB_t.mpr (by rw [← e12]; omega))
            refine ⟨rfl, rfl, rfl, rfl, rfl, rfl, fun i hi => ?_, hE, ?_, ?_, ?_⟩
            · rw [mu_i _ _ _ hi, mu_i _ _ _ hi, mu_i _ _ _ hi, mu_i _ _ _ hi, mu_i _ _ _ hi]
            · show _ = tkK (bt (M 2) (M 1 1)) (M 1 1) x
              rw [t9.1]
              all_goals rfl
            · show _ = tkV (bt (M 2) (M 1 1)) (M 1 1) x
              rw [t9.2.1]
              all_goals rfl
            · show _ = tkE (bt (M 2) (M 1 1)) (M 1 1) x
              rw [t9.2.2]
              all_goals rfl
          · skip
            refine v_if_eq X 106 dX6_advance_96 (by decide) ⟨by decide, by decide⟩ (fun _ => ?_) (fun q => absurd (by decide) q)
            refine v_iload_n X 0 dX6_advance_106 rfl rfl ?_
            refine v_callS X [.int (iz r10)] hRm (c_X6_isDigit _ _ _ r10 ⟨by omega, by omega⟩) (gS bw_15_14 bw_15_15 bw_3_14 bw_15_16) rfl ddX6_isDigit (by decide) (Nat.le_of_ble_eq_true rfl) dX6_advance_107 (k_pB (fun b19 => ?_) (fun b19 => ?_))
            · skip
              refine v_if_eq X 120 dX6_advance_110 (by decide) ⟨by decide, by decide⟩ (fun q => absurd q (by decide)) (fun _ => ?_)
              refine v_aload_n X 1 dX6_advance_113 rfl rfl ?_
              refine v_callV X [] hRm (c_X6_takeInt _ _ _ hS (show 0 ≤ M 1 1 ∧ M 1 1 ≤ 2000 by omega) (show 0 ≤ x ∧ x = x ∧ x ≤ M 1 1 by omega) rfl) (gV bw_15_17 bw_15_18 bw_15_19 bw_3_14 bw_15_20) rfl ddX6_takeInt (by decide) (Std.lt hS rfl) (Std.k hS rfl rfl) ⟨rfl, by decide⟩ (Nat.le_of_ble_eq_true rfl) dX6_advance_114 (k_eV (fun M21 e20 => ?_))
              replace e20 : M21 = (mu (mu (mu (mu (mu (mu M 5 1 x) 5 4 x) 5 3 0) 5 1 (skp dgB (bt (M 2) (M 1 1)) (M 1 1) x)) 5 3 (dgV (bt (M 2) (M 1 1)) x ((skp dgB (bt (M 2) (M 1 1)) (M 1 1) x) - x).toNat)) 5 2 (if (skp dgB (bt (M 2) (M 1 1)) (M 1 1) x) - x ≤ 4 then 25 else 27)) := e20
              subst e20
              refine v_goto X 125 dX6_advance_117 (by decide) ?_
              refine hret _ _ _ _ _ _ _ _ _ _ _ none dX6_advance_125 ⟨rfl, rfl⟩ (by decide) (by decide) (fun hmok => ?_)
              have t9 := tk_int (g := (bt (M 2) (M 1 1))) (n := M 1 1) (p := x) (by omega) (fun z => by have z2 := ltB_t.mp z; rw [← e12] at z2; omega) (dgB_t.mpr (by rw [← e12]; omega))
              refine ⟨rfl, rfl, rfl, rfl, rfl, rfl, fun i hi => ?_, hE, ?_, ?_, ?_⟩
              · rw [mu_i _ _ _ hi, mu_i _ _ _ hi, mu_i _ _ _ hi, mu_i _ _ _ hi, mu_i _ _ _ hi, mu_i _ _ _ hi]
              · show _ = tkK (bt (M 2) (M 1 1)) (M 1 1) x
                rw [t9.1]
                all_goals rfl
              · show _ = tkV (bt (M 2) (M 1 1)) (M 1 1) x
                rw [t9.2.1]
                all_goals rfl
              · show _ = tkE (bt (M 2) (M 1 1)) (M 1 1) x
                rw [t9.2.2]
                all_goals rfl
            · skip
              refine v_if_eq X 120 dX6_advance_110 (by decide) ⟨by decide, by decide⟩ (fun _ => ?_) (fun q => absurd (by decide) q)
              refine v_aload_n X 1 dX6_advance_120 rfl rfl ?_
              refine v_iload_n X 0 dX6_advance_121 rfl rfl ?_
              refine v_callV X [.int (iz r10)] hRm (c_X6_takeSign _ _ _ hS r10 ⟨by omega, by omega⟩ (show 0 ≤ M 1 1 ∧ M 1 1 ≤ 2000 by omega) (show 0 ≤ x ∧ x < M 1 1 by omega)) (gV bw_15_21 bw_15_22 bw_15_23 bw_3_14 bw_16_0) rfl ddX6_takeSign (by decide) (Std.lt hS rfl) (Std.k hS rfl rfl) ⟨rfl, by decide⟩ (Nat.le_of_ble_eq_true rfl) dX6_advance_122 (k_eV (fun M23 e22 => ?_))
              replace e22 : M23 = (mu (mu (mu (mu (mu M 5 1 x) 5 4 x) 5 3 0) 5 1 (x + sgN r10 ((bt (M 2) (M 1 1)) (x + 1)))) 5 2 (sgK r10 ((bt (M 2) (M 1 1)) (x + 1)))) := e22
              subst e22
              refine hret _ _ _ _ _ _ _ _ _ _ _ none dX6_advance_125 ⟨rfl, rfl⟩ (by decide) (by decide) (fun hmok => ?_)
              have t9 := tk_sign (g := (bt (M 2) (M 1 1))) (n := M 1 1) (p := x) (by omega) (fun z => by have z2 := ltB_t.mp z; rw [← e12] at z2; omega) (fun z => by have z2 := dgB_t.mp z; rw [← e12] at z2; omega)
              refine ⟨rfl, rfl, rfl, rfl, rfl, rfl, fun i hi => ?_, hE, ?_, ?_, ?_⟩
              · rw [mu_i _ _ _ hi, mu_i _ _ _ hi, mu_i _ _ _ hi, mu_i _ _ _ hi, mu_i _ _ _ hi]
              · show _ = tkK (bt (M 2) (M 1 1)) (M 1 1) x
                rw [t9.1, ← e12]
                all_goals rfl
              · show _ = tkV (bt (M 2) (M 1 1)) (M 1 1) x
                rw [t9.2.1]
                all_goals rfl
              · show _ = tkE (bt (M 2) (M 1 1)) (M 1 1) x
                rw [t9.2.2, ← e12]
                all_goals rfl
        · skip
          refine v_aload_n X 1 dX6_advance_83 rfl rfl ?_
          refine v_bipush X dX6_advance_84 (by decide) ?_
          refine pt_X6_kind X iwX6 (Std.lt hS rfl) (Std.k hS rfl rfl) (List.mem_cons_of_mem _ bw_4_6) ⟨by decide, by decide⟩ dX6_advance_86 ?_
          refine v_goto X 125 dX6_advance_89 (by decide) ?_
          refine hret _ _ _ _ _ _ _ _ _ _ _ none dX6_advance_125 ⟨rfl, rfl⟩ (by decide) (by decide) (fun hmok => ?_)
          have t9 := tk_end (g := (bt (M 2) (M 1 1))) (n := M 1 1) (p := x) (by omega)
          refine ⟨rfl, rfl, rfl, rfl, rfl, rfl, fun i hi => ?_, hE, ?_, ?_, ?_⟩
          · rw [mu_i _ _ _ hi, mu_i _ _ _ hi, mu_i _ _ _ hi, mu_i _ _ _ hi]
          · show _ = tkK (bt (M 2) (M 1 1)) (M 1 1) x
            rw [t9.1]
            all_goals rfl
          · show _ = tkV (bt (M 2) (M 1 1)) (M 1 1) x
            rw [t9.2.1]
            all_goals rfl
          · show _ = tkE (bt (M 2) (M 1 1)) (M 1 1) x
            rw [t9.2.2]
            all_goals rfl
      · skip
        refine v_aload_n X 0 dX6_advance_14 rfl rfl ?_
        refine gt_X6_tape X iwX6 (Std.lt hS rfl) (Std.k hS rfl rfl) (List.mem_cons_of_mem _ bw_4_0) dX6_advance_15 1 (Std.r hS 0 rfl) ?_
        refine v_aload_n X 0 dX6_advance_18 rfl rfl ?_
        refine gt_X6_next X iwX6 (Std.lt hS rfl) (Std.k hS rfl rfl) (List.mem_cons_of_mem _ bw_4_5) dX6_advance_19 x rfl (fun hr24 => ?_)
        refine v_callV X [.int (iz x)] hRm (c_X9_byteAt2 _ _ _ hS x ⟨by omega, by omega⟩ (show (M 1 1) ≤ 2000 by omega)) (gV bw_12_19 bw_12_20 bw_12_21 bw_1_14 bw_12_22) rfl ddX9_byteAt (by decide) (Std.lt hS rfl) (Std.k hS rfl rfl) ⟨rfl, by decide⟩ (Nat.le_of_ble_eq_true rfl) dX6_advance_22 (k_pI (fun r25 hr26 e27 => ?_))
        replace e27 : r25 = (bt (M 2) (M 1 1)) x := e27
        refine v_callS X [.int (iz r25)] hRm (c_X6_isBlank _ _ _ r25 ⟨by omega, by omega⟩) (gS bw_12_23 bw_13_0 bw_3_14 bw_13_1) rfl ddX6_isBlank (by decide) (Nat.le_of_ble_eq_true rfl) dX6_advance_25 (k_pB (fun b28 => ?_) (fun b28 => ?_))
        · skip
          refine v_if_eq X 44 dX6_advance_28 (by decide) ⟨by decide, by decide⟩ (fun q => absurd q (by decide)) (fun _ => ?_)
          refine v_aload_n X 0 dX6_advance_31 rfl rfl ?_
          refine v_dup X dX6_advance_32 rfl ?_
          refine gt_X6_next X iwX6 (Std.lt hS rfl) (Std.k hS rfl rfl) (List.mem_cons_of_mem _ bw_4_5) dX6_advance_33 x rfl (fun hr29 => ?_)
          refine v_iconst X dX6_advance_36 ?_
          refine v_iadd X dX6_advance_37 ?_
          refine pt_X6_next X iwX6 (Std.lt hS rfl) (Std.k hS rfl rfl) (List.mem_cons_of_mem _ bw_4_5) ⟨by omega, by omega⟩ dX6_advance_38 ?_
          refine v_goto X 0 dX6_advance_41 (by decide) ?_
          refine v_mem (M' := (mu M 5 1 (x + 1))) (by funext a b; simp only [mu]; repeat' split; all_goals (first | rfl | omega)) rfl rfl ?_
          exact ih2 (x + 1) (by omega) (by rw [← skp_go (by omega) (blB_t.mpr (by rw [← e27]; omega))]; exact hs) (by omega)
        · skip
          refine v_if_eq X 44 dX6_advance_28 (by decide) ⟨by decide, by decide⟩ (fun _ => ?_) (fun q => absurd (by decide) q)
          have hE : x = lexP (bt (M 2) (M 1 1)) (M 1 1) (M 5 1) := by rw [← hs, skp_st]; intro z; have z2 := blB_t.mp z.2; rw [← e27] at z2; omega
          refine v_aload_n X 0 dX6_advance_44 rfl rfl ?_
          refine v_aload_n X 0 dX6_advance_45 rfl rfl ?_
          refine gt_X6_next X iwX6 (Std.lt hS rfl) (Std.k hS rfl rfl) (List.mem_cons_of_mem _ bw_4_5) dX6_advance_46 x rfl (fun hr30 => ?_)
          refine pt_X6_place X iwX6 (Std.lt hS rfl) (Std.k hS rfl rfl) (List.mem_cons_of_mem _ bw_4_8) ⟨by omega, by omega⟩ dX6_advance_49 ?_
          refine v_aload_n X 0 dX6_advance_52 rfl rfl ?_
          refine v_iconst X dX6_advance_53 ?_
          refine pt_X6_value X iwX6 (Std.lt hS rfl) (Std.k hS rfl rfl) (List.mem_cons_of_mem _ bw_4_7) ⟨by decide, by decide⟩ dX6_advance_54 ?_
          refine v_aload_n X 0 dX6_advance_57 rfl rfl ?_
          refine gt_X6_tape X iwX6 (Std.lt hS rfl) (Std.k hS rfl rfl) (List.mem_cons_of_mem _ bw_4_0) dX6_advance_58 1 (Std.r hS 0 rfl) ?_
          refine v_aload_n X 0 dX6_advance_61 rfl rfl ?_
          refine gt_X6_next X iwX6 (Std.lt hS rfl) (Std.k hS rfl rfl) (List.mem_cons_of_mem _ bw_4_5) dX6_advance_62 x rfl (fun hr31 => ?_)
          refine v_callV X [.int (iz x)] hRm (c_X9_byteAt2 _ _ _ hS x ⟨by omega, by omega⟩ (show (M 1 1) ≤ 2000 by omega)) (gV bw_12_19 bw_12_20 bw_12_21 bw_1_14 bw_12_22) rfl ddX9_byteAt (by decide) (Std.lt hS rfl) (Std.k hS rfl rfl) ⟨rfl, by decide⟩ (Nat.le_of_ble_eq_true rfl) dX6_advance_65 (k_pI (fun r32 hr33 e34 => ?_))
          replace e34 : r32 = (bt (M 2) (M 1 1)) x := e34
          refine v_istore_n X [(1, .int (iz r32)), (0, .ref (ad 5))] dX6_advance_68 rfl (by decide) rfl ?_
          refine v_aload_n X 1 dX6_advance_69 rfl rfl ?_
          refine gt_X6_next X iwX6 (Std.lt hS rfl) (Std.k hS rfl rfl) (List.mem_cons_of_mem _ bw_4_5) dX6_advance_70 x rfl (fun hr35 => ?_)
          refine v_aload_n X 1 dX6_advance_73 rfl rfl ?_
          refine gt_X6_tape X iwX6 (Std.lt hS rfl) (Std.k hS rfl rfl) (List.mem_cons_of_mem _ bw_4_0) dX6_advance_74 1 (Std.r hS 0 rfl) ?_
          refine gt_X9_size X iwX9 (Std.lt hS rfl) (Std.k hS rfl rfl) (List.mem_cons_of_mem _ bw_12_18) dX6_advance_77 (M 1 1) rfl (fun hr36 => ?_)
          refine v_icmp_lt X 92 dX6_advance_80 (by decide) ⟨by omega, by omega⟩ ⟨by omega, by omega⟩ (fun u37 => ?_) (fun u37 => ?_)
          · skip
            refine v_iload_n X 0 dX6_advance_92 rfl rfl ?_
            refine v_callS X [.int (iz r32)] hRm (c_X6_isLetter _ _ _ r32 ⟨by omega, by omega⟩) (gS bw_13_2 bw_13_3 bw_3_14 bw_13_4) rfl ddX6_isLetter (by decide) (Nat.le_of_ble_eq_true rfl) dX6_advance_93 (k_pB (fun b38 => ?_) (fun b38 => ?_))
            · skip
              refine v_if_eq X 106 dX6_advance_96 (by decide) ⟨by decide, by decide⟩ (fun q => absurd q (by decide)) (fun _ => ?_)
              refine v_aload_n X 1 dX6_advance_99 rfl rfl ?_
              refine v_callV X [] hRm (c_X6_takeWord _ _ _ hS (show 0 ≤ M 1 1 ∧ M 1 1 ≤ 2000 by omega) (show 0 ≤ x ∧ x ≤ x ∧ x ≤ M 1 1 by omega)) (gV bw_13_5 bw_13_6 bw_13_7 bw_3_14 bw_13_8) rfl ddX6_takeWord (by decide) (Std.lt hS rfl) (Std.k hS rfl rfl) ⟨rfl, by decide⟩ (Nat.le_of_ble_eq_true rfl) dX6_advance_100 (k_eV (fun M40 e39 => ?_))
              replace e39 : M40 = (mu (mu (mu (mu (mu M 5 1 x) 5 4 x) 5 3 0) 5 1 (skp ltB (bt (M 2) (M 1 1)) (M 1 1) x)) 5 2 (wdK (bt (M 2) (M 1 1)) x (skp ltB (bt (M 2) (M 1 1)) (M 1 1) x))) := e39
              subst e39
              refine v_goto X 125 dX6_advance_103 (by decide) ?_
              refine hret _ _ _ _ _ _ _ _ _ _ _ none dX6_advance_125 ⟨rfl, rfl⟩ (by decide) (by decide) (fun hmok => ?_)
              have t9 := tk_word (g := (bt (M 2) (M 1 1))) (n := M 1 1) (p := x) (by omega) (ltB_t.mpr (by rw [← e34]; omega))
              refine ⟨rfl, rfl, rfl, rfl, rfl, rfl, fun i hi => ?_, hE, ?_, ?_, ?_⟩
              · rw [mu_i _ _ _ hi, mu_i _ _ _ hi, mu_i _ _ _ hi, mu_i _ _ _ hi, mu_i _ _ _ hi]
              · show _ = tkK (bt (M 2) (M 1 1)) (M 1 1) x
                rw [t9.1]
                all_goals rfl
              · show _ = tkV (bt (M 2) (M 1 1)) (M 1 1) x
                rw [t9.2.1]
                all_goals rfl
              · show _ = tkE (bt (M 2) (M 1 1)) (M 1 1) x
                rw [t9.2.2]
                all_goals rfl
            · skip
              refine v_if_eq X 106 dX6_advance_96 (by decide) ⟨by decide, by decide⟩ (fun _ => ?_) (fun q => absurd (by decide) q)
              refine v_iload_n X 0 dX6_advance_106 rfl rfl ?_
              refine v_callS X [.int (iz r32)] hRm (c_X6_isDigit _ _ _ r32 ⟨by omega, by omega⟩) (gS bw_15_14 bw_15_15 bw_3_14 bw_15_16) rfl ddX6_isDigit (by decide) (Nat.le_of_ble_eq_true rfl) dX6_advance_107 (k_pB (fun b41 => ?_) (fun b41 => ?_))
              · skip
                refine v_if_eq X 120 dX6_advance_110 (by decide) ⟨by decide, by decide⟩ (fun q => absurd q (by decide)) (fun _ => ?_)
                refine v_aload_n X 1 dX6_advance_113 rfl rfl ?_
                refine v_callV X [] hRm (c_X6_takeInt _ _ _ hS (show 0 ≤ M 1 1 ∧ M 1 1 ≤ 2000 by omega) (show 0 ≤ x ∧ x = x ∧ x ≤ M 1 1 by omega) rfl) (gV bw_15_17 bw_15_18 bw_15_19 bw_3_14 bw_15_20) rfl ddX6_takeInt (by decide) (Std.lt hS rfl) (Std.k hS rfl rfl) ⟨rfl, by decide⟩ (Nat.le_of_ble_eq_true rfl) dX6_advance_114 (k_eV (fun M43 e42 => ?_))
                replace e42 : M43 = (mu (mu (mu (mu (mu (mu M 5 1 x) 5 4 x) 5 3 0) 5 1 (skp dgB (bt (M 2) (M 1 1)) (M 1 1) x)) 5 3 (dgV (bt (M 2) (M 1 1)) x ((skp dgB (bt (M 2) (M 1 1)) (M 1 1) x) - x).toNat)) 5 2 (if (skp dgB (bt (M 2) (M 1 1)) (M 1 1) x) - x ≤ 4 then 25 else 27)) := e42
                subst e42
                refine v_goto X 125 dX6_advance_117 (by decide) ?_
                refine hret _ _ _ _ _ _ _ _ _ _ _ none dX6_advance_125 ⟨rfl, rfl⟩ (by decide) (by decide) (fun hmok => ?_)
                have t9 := tk_int (g := (bt (M 2) (M 1 1))) (n := M 1 1) (p := x) (by omega) (fun z => by have z2 := ltB_t.mp z; rw [← e34] at z2; omega) (dgB_t.mpr (by rw [← e34]; omega))
                refine ⟨rfl, rfl, rfl, rfl, rfl, rfl, fun i hi => ?_, hE, ?_, ?_, ?_⟩
                · rw [mu_i _ _ _ hi, mu_i _ _ _ hi, mu_i _ _ _ hi, mu_i _ _ _ hi, mu_i _ _ _ hi, mu_i _ _ _ hi]
                · show _ = tkK (bt (M 2) (M 1 1)) (M 1 1) x
                  rw [t9.1]
                  all_goals rfl
                · show _ = tkV (bt (M 2) (M 1 1)) (M 1 1) x
                  rw [t9.2.1]
                  all_goals rfl
                · show _ = tkE (bt (M 2) (M 1 1)) (M 1 1) x
                  rw [t9.2.2]
                  all_goals rfl
              · skip
                refine v_if_eq X 120 dX6_advance_110 (by decide) ⟨by decide, by decide⟩ (fun _ => ?_) (fun q => absurd (by decide) q)
                refine v_aload_n X 1 dX6_advance_120 rfl rfl ?_
                refine v_iload_n X 0 dX6_advance_121 rfl rfl ?_
                refine v_callV X [.int (iz r32)] hRm (c_X6_takeSign _ _ _ hS r32 ⟨by omega, by omega⟩ (show 0 ≤ M 1 1 ∧ M 1 1 ≤ 2000 by omega) (show 0 ≤ x ∧ x < M 1 1 by omega)) (gV bw_15_21 bw_15_22 bw_15_23 bw_3_14 bw_16_0) rfl ddX6_takeSign (by decide) (Std.lt hS rfl) (Std.k hS rfl rfl) ⟨rfl, by decide⟩ (Nat.le_of_ble_eq_true rfl) dX6_advance_122 (k_eV (fun M45 e44 => ?_))
                replace e44 : M45 = (mu (mu (mu (mu (mu M 5 1 x) 5 4 x) 5 3 0) 5 1 (x + sgN r32 ((bt (M 2) (M 1 1)) (x + 1)))) 5 2 (sgK r32 ((bt (M 2) (M 1 1)) (x + 1)))) := e44
                subst e44
                refine hret _ _ _ _ _ _ _ _ _ _ _ none dX6_advance_125 ⟨rfl, rfl⟩ (by decide) (by decide) (fun hmok => ?_)
                have t9 := tk_sign (g := (bt (M 2) (M 1 1))) (n := M 1 1) (p := x) (by omega) (fun z => by have z2 := ltB_t.mp z; rw [← e34] at z2; omega) (fun z => by have z2 := dgB_t.mp z; rw [← e34] at z2; omega)
                refine ⟨rfl, rfl, rfl, rfl, rfl, rfl, fun i hi => ?_, hE, ?_, ?_, ?_⟩
                · rw [mu_i _ _ _ hi, mu_i _ _ _ hi, mu_i _ _ _ hi, mu_i _ _ _ hi, mu_i _ _ _ hi]
                · show _ = tkK (bt (M 2) (M 1 1)) (M 1 1) x
                  rw [t9.1, ← e34]
                  all_goals rfl
                · show _ = tkV (bt (M 2) (M 1 1)) (M 1 1) x
                  rw [t9.2.1]
                  all_goals rfl
                · show _ = tkE (bt (M 2) (M 1 1)) (M 1 1) x
                  rw [t9.2.2, ← e34]
                  all_goals rfl
          · skip
            refine v_aload_n X 1 dX6_advance_83 rfl rfl ?_
            refine v_bipush X dX6_advance_84 (by decide) ?_
            refine pt_X6_kind X iwX6 (Std.lt hS rfl) (Std.k hS rfl rfl) (List.mem_cons_of_mem _ bw_4_6) ⟨by decide, by decide⟩ dX6_advance_86 ?_
            refine v_goto X 125 dX6_advance_89 (by decide) ?_
            refine hret _ _ _ _ _ _ _ _ _ _ _ none dX6_advance_125 ⟨rfl, rfl⟩ (by decide) (by decide) (fun hmok => ?_)
            have t9 := tk_end (g := (bt (M 2) (M 1 1))) (n := M 1 1) (p := x) (by omega)
            refine ⟨rfl, rfl, rfl, rfl, rfl, rfl, fun i hi => ?_, hE, ?_, ?_, ?_⟩
            · rw [mu_i _ _ _ hi, mu_i _ _ _ hi, mu_i _ _ _ hi, mu_i _ _ _ hi]
            · show _ = tkK (bt (M 2) (M 1 1)) (M 1 1) x
              rw [t9.1]
              all_goals rfl
            · show _ = tkV (bt (M 2) (M 1 1)) (M 1 1) x
              rw [t9.2.1]
              all_goals rfl
            · show _ = tkE (bt (M 2) (M 1 1)) (M 1 1) x
              rw [t9.2.2]
              all_goals rfl
  refine v_mem (M' := (mu M 5 1 (M 5 1))) (by exact (mu_id M 5 1).symm) rfl rfl ?_
  exact hl1 _ (M 5 1) (by omega) (rfl) (Nat.lt_succ_self _)

