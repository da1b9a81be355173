/-! STACKS as lists (top first), held by a row -/
def rep (g : Int → Int) : List Int → Prop
  | [] => True
  | x :: t => g (t.length : Int) = x ∧ rep g t
theorem rep_keep {g : Int → Int} {k x : Int} : ∀ {t : List Int}, rep g t → (t.length : Int) ≤ k → rep (fun b => if b = k then x else g b) t
  | [], _, _ => trivial
  | y :: t, h, hk => by
    have hl : ((y :: t).length : Int) = (t.length : Int) + 1 := by simp
    refine ⟨?_, rep_keep h.2 (by omega)⟩
    show (if (t.length : Int) = k then x else g (t.length : Int)) = y
    rw [if_neg (by omega)]
    exact h.1
theorem rep_push {g : Int → Int} {x k : Int} {t : List Int} (h : rep g t) (hk : k = (t.length : Int)) : rep (fun b => if b = k then x else g b) (x :: t) := by
  refine ⟨?_, rep_keep h (by omega)⟩
  show (if (t.length : Int) = k then x else g (t.length : Int)) = x
  rw [if_pos hk.symm]
theorem rep_bin {g : Int → Int} {a b y k : Int} {t : List Int} (h : rep g (b :: a :: t)) (hk : k = (t.length : Int)) : rep (fun z => if z = k then y else g z) (y :: t) := rep_push h.2.2 hk
theorem rep_b {g : Int → Int} {a b k : Int} {t : List Int} (h : rep g (b :: a :: t)) (hk : k = (t.length : Int) + 1) : g k = b := by
  have h1 := h.1
  have hl : ((a :: t).length : Int) = (t.length : Int) + 1 := by simp
  rw [hk, ← hl]
  exact h1
theorem rep_a {g : Int → Int} {a b k : Int} {t : List Int} (h : rep g (b :: a :: t)) (hk : k = (t.length : Int)) : g k = a := by rw [hk]; exact h.2.1
theorem rep_last {g : Int → Int} : ∀ {t : List Int}, rep g t → t ≠ [] → g 0 = t.getLastD 0
  | [], _, h => absurd rfl h
  | [x], h, _ => h.1
  | x :: y :: t, h, _ => by
    have := rep_last h.2 (by simp)
    simpa using this
def firstN (p : Int → Bool) : Nat → Int
  | 0 => -1
  | n + 1 => if firstN p n ≠ -1 then firstN p n else if p (n : Int) = true then (n : Int) else -1
theorem firstN_s (p : Int → Bool) (n : Nat) : firstN p (n + 1) = if firstN p n ≠ -1 then firstN p n else if p (n : Int) = true then (n : Int) else -1 := rfl
theorem firstN_hit {p : Int → Bool} {j n : Nat} (h0 : firstN p j = -1) (h : p (j : Int) = true) (hn : j < n) : firstN p n = (j : Int) := by
  induction n with
  | zero => omega
  | succ n ih =>
    rw [firstN_s]
    rcases Nat.lt_or_ge j n with q | q
    · rw [ih q, if_pos (by omega)]
    · obtain rfl : n = j := by omega
      rw [h0, if_neg (by omega), if_pos h]
theorem firstN_miss {p : Int → Bool} {j : Nat} (h0 : firstN p j = -1) (h : p (j : Int) = false) : firstN p (j + 1) = -1 := by
  rw [firstN_s, h0, if_neg (by omega), h]
  rfl
theorem firstN_in {p : Int → Bool} : ∀ n : Nat, -1 ≤ firstN p n ∧ firstN p n < n
  | 0 => ⟨by simp [firstN], by simp [firstN]⟩
  | n + 1 => by
    have := firstN_in (p := p) n
    rw [firstN_s]
    repeat' split
    all_goals omega
/-! THE CLASS'S CODE: kind in the low five bits, value above -/
def kdI (c : Int) : Int := (iz c &&& iz 31).toInt
def vlI (c : Int) : Int := (iz c >>> (iz 5 &&& 31)).toInt
def andI (a b : Int) : Int := (iz a &&& iz b).toInt
def orI (a b : Int) : Int := (iz a ||| iz b).toInt
theorem kdI_in (c : Int) : 0 ≤ kdI c ∧ kdI c < 32 := by
  unfold kdI
  rw [pk_and (iz c) (m := iz 31) 5 (by decide), nI_toInt (by omega)]
  omega
def joinC (k a b : Int) : Int := if k = 16 then wrp (a + b) else if k = 17 then wrp (a - b) else if k = 18 then wrp (a * b) else if k = 19 then (if a = b then 1 else 0) else if k = 20 then (if a ≠ b then 1 else 0) else if k = 21 then (if a < b then 1 else 0) else if k = 22 then (if a ≤ b then 1 else 0) else if k = 5 then andI a b else orI a b
theorem joinC_in {k a b : Int} : inR (joinC k a b) := by
  unfold joinC
  have h1 := wrp_in (a + b)
  have h2 := wrp_in (a - b)
  have h3 := wrp_in (a * b)
  have h4 := iz_rng (iz a &&& iz b)
  have h5 := iz_rng (iz a ||| iz b)
  unfold andI orI
  repeat' split
  all_goals first | assumption | exact ⟨by decide, by decide⟩
def bin (f : Int → Int → Int) : List Int → List Int
  | b :: a :: t => f a b :: t
  | t => t
def cStep (v : Int → Int) (st : List Int) (c : Int) : List Int :=
  if kdI c = 25 ∧ (st.length : Int) < 32 then vlI c :: st
  else if 6 ≤ kdI c ∧ kdI c < 15 ∧ (st.length : Int) < 32 then v (kdI c - 6) :: st
  else bin (joinC (kdI c)) st
def cRun (code v : Int → Int) (f : Int) : Nat → List Int
  | 0 => []
  | n + 1 => cStep v (cRun code v f n) (code (f + (n : Int)))
theorem cRun_s (code v : Int → Int) (f : Int) (n : Nat) : cRun code v f (n + 1) = cStep v (cRun code v f n) (code (f + (n : Int))) := rfl
def cVal (code v : Int → Int) (f t : Int) : Int := (cRun code v f (t - f).toNat).getLastD 0
theorem two_of {st : List Int} (h : 2 ≤ (st.length : Int)) : ∃ b a t, st = b :: a :: t := by
  match st, h with
  | b :: a :: t, _ => exact ⟨b, a, t, rfl⟩
  | [x], h => simp at h
  | [], h => simp at h
theorem short_of {st : List Int} (h : ¬ 2 ≤ (st.length : Int)) {f : Int → Int → Int} : bin f st = st := by
  match st, h with
  | b :: a :: t, h => simp at h; omega
  | [x], _ => rfl
  | [], _ => rfl

-- join
set_option maxHeartbeats 4000000 in
set_option maxRecDepth 100000 in
theorem c_X10_join (l : Launch) (D : va_G) (cy : Nat → ClassId) {N : Nat} {sh : MS} {ad : Nat → Nat} {M L : MI} {R : MR} (k : Int) (a : Int) (b : Int) (hk : inR k) (ha : inR a) (hb : inR b) : Ctr l D cy yX10_join wsX10_join ({ frames := 0, cells := 0, slots := 0, locals := 0 } : Room) N sh ad M L R [.int (iz k), .int (iz a), .int (iz b)] (pI N sh ad M L R (fun r => r = joinC k a b)) := by
  refine Ctr.ofI (by decide) rfl (Nat.le_of_ble_eq_true rfl) ?_
  intro K hKl hKd hRm hnm X hret
  have X : VX K cX10_join 3 wsX10_join RX10 := X
  show V K 3 0 0 N sh ad M L R [(0, .int (iz k)), (1, .int (iz a)), (2, .int (iz b))] [] 0
  refine v_iload_n X 0 dX10_join_0 rfl rfl ?_
  by_cases u1 : k = 5
  · skip
    refine v_tabIn X 144 dX10_join_1 ⟨by omega, by omega⟩ (by omega) (by omega) (by rw [u1]; rfl) (by decide) ?_
    refine v_iload_n X 1 dX10_join_144 rfl rfl ?_
    refine v_iload_n X 2 dX10_join_145 rfl rfl ?_
    refine v_iand X (andI a b) dX10_join_146 (iz_self _).symm ?_
    have hw9 := iz_rng (iz a &&& iz b)
    have hw8 : inR (andI a b) := hw9
    refine hret _ _ _ _ _ _ _ _ _ _ _ (some (.int (iz (andI a b)))) dX10_join_147 ⟨rfl, _, rfl⟩ (by decide) (by decide) (fun hmok => ?_)
    refine ⟨rfl, rfl, rfl, rfl, rfl, rfl, (andI a b), rfl, ⟨by omega, by omega⟩, ?_⟩
    try dsimp only
    unfold joinC
    repeat (first | rw [if_pos (by omega)] | rw [if_neg (by omega)])
  by_cases u2 : k = 6
  · skip
    refine v_tabIn X 148 dX10_join_1 ⟨by omega, by omega⟩ (by omega) (by omega) (by rw [u2]; rfl) (by decide) ?_
    refine v_iload_n X 1 dX10_join_148 rfl rfl ?_
    refine v_iload_n X 2 dX10_join_149 rfl rfl ?_
    refine v_ior X (orI a b) dX10_join_150 (iz_self _).symm ?_
    have hw9 := iz_rng (iz a ||| iz b)
    have hw8 : inR (orI a b) := hw9
    refine hret _ _ _ _ _ _ _ _ _ _ _ (some (.int (iz (orI a b)))) dX10_join_151 ⟨rfl, _, rfl⟩ (by decide) (by decide) (fun hmok => ?_)
    refine ⟨rfl, rfl, rfl, rfl, rfl, rfl, (orI a b), rfl, ⟨by omega, by omega⟩, ?_⟩
    try dsimp only
    unfold joinC
    repeat (first | rw [if_pos (by omega)] | rw [if_neg (by omega)])
  by_cases u3 : k = 7
  · skip
    refine v_tabIn X 148 dX10_join_1 ⟨by omega, by omega⟩ (by omega) (by omega) (by rw [u3]; rfl) (by decide) ?_
    refine v_iload_n X 1 dX10_join_148 rfl rfl ?_
    refine v_iload_n X 2 dX10_join_149 rfl rfl ?_
    refine v_ior X (orI a b) dX10_join_150 (iz_self _).symm ?_
    have hw9 := iz_rng (iz a ||| iz b)
    have hw8 : inR (orI a b) := hw9
    refine hret _ _ _ _ _ _ _ _ _ _ _ (some (.int (iz (orI a b)))) dX10_join_151 ⟨rfl, _, rfl⟩ (by decide) (by decide) (fun hmok => ?_)
    refine ⟨rfl, rfl, rfl, rfl, rfl, rfl, (orI a b), rfl, ⟨by omega, by omega⟩, ?_⟩
    try dsimp only
    unfold joinC
    repeat (first | rw [if_pos (by omega)] | rw [if_neg (by omega)])
  by_cases u4 : k = 8
  · skip
    refine v_tabIn X 148 dX10_join_1 ⟨by omega, by omega⟩ (by omega) (by omega) (by rw [u4]; rfl) (by decide) ?_
    refine v_iload_n X 1 dX10_join_148 rfl rfl ?_
    refine v_iload_n X 2 dX10_join_149 rfl rfl ?_
    refine v_ior X (orI a b) dX10_join_150 (iz_self _).symm ?_
    have hw9 := iz_rng (iz a ||| iz b)
    have hw8 : inR (orI a b) := hw9
    refine hret _ _ _ _ _ _ _ _ _ _ _ (some (.int (iz (orI a b)))) dX10_join_151 ⟨rfl, _, rfl⟩ (by decide) (by decide) (fun hmok => ?_)
    refine ⟨rfl, rfl, rfl, rfl, rfl, rfl, (orI a b), rfl, ⟨by omega, by omega⟩, ?_⟩
    try dsimp only
    unfold joinC
    repeat (first | rw [if_pos (by omega)] | rw [if_neg (by omega)])
  by_cases u5 : k = 9
  · skip
    refine v_tabIn X 148 dX10_join_1 ⟨by omega, by omega⟩ (by omega) (by omega) (by rw [u5]; rfl) (by decide) ?_
    refine v_iload_n X 1 dX10_join_148 rfl rfl ?_
    refine v_iload_n X 2 dX10_join_149 rfl rfl ?_
    refine v_ior X (orI a b) dX10_join_150 (iz_self _).symm ?_
    have hw9 := iz_rng (iz a ||| iz b)
    have hw8 : inR (orI a b) := hw9
    refine hret _ _ _ _ _ _ _ _ _ _ _ (some (.int (iz (orI a b)))) dX10_join_151 ⟨rfl, _, rfl⟩ (by decide) (by decide) (fun hmok => ?_)
    refine ⟨rfl, rfl, rfl, rfl, rfl, rfl, (orI a b), rfl, ⟨by omega, by omega⟩, ?_⟩
    try dsimp only
    unfold joinC
    repeat (first | rw [if_pos (by omega)] | rw [if_neg (by omega)])
  by_cases u6 : k = 10
  · skip
    refine v_tabIn X 148 dX10_join_1 ⟨by omega, by omega⟩ (by omega) (by omega) (by rw [u6]; rfl) (by decide) ?_
    refine v_iload_n X 1 dX10_join_148 rfl rfl ?_
    refine v_iload_n X 2 dX10_join_149 rfl rfl ?_
    refine v_ior X (orI a b) dX10_join_150 (iz_self _).symm ?_
    have hw9 := iz_rng (iz a ||| iz b)
    have hw8 : inR (orI a b) := hw9
    refine hret _ _ _ _ _ _ _ _ _ _ _ (some (.int (iz (orI a b)))) dX10_join_151 ⟨rfl, _, rfl⟩ (by decide) (by decide) (fun hmok => ?_)
    refine ⟨rfl, rfl, rfl, rfl, rfl, rfl, (orI a b), rfl, ⟨by omega, by omega⟩, ?_⟩
    try dsimp only
    unfold joinC
    repeat (first | rw [if_pos (by omega)] | rw [if_neg (by omega)])
  by_cases u7 : k = 11
  · skip
    refine v_tabIn X 148 dX10_join_1 ⟨by omega, by omega⟩ (by omega) (by omega) (by rw [u7]; rfl) (by decide) ?_
    refine v_iload_n X 1 dX10_join_148 rfl rfl ?_
    refine v_iload_n X 2 dX10_join_149 rfl rfl ?_
    refine v_ior X (orI a b) dX10_join_150 (iz_self _).symm ?_
    have hw9 := iz_rng (iz a ||| iz b)
    have hw8 : inR (orI a b) := hw9
    refine hret _ _ _ _ _ _ _ _ _ _ _ (some (.int (iz (orI a b)))) dX10_join_151 ⟨rfl, _, rfl⟩ (by decide) (by decide) (fun hmok => ?_)
    refine ⟨rfl, rfl, rfl, rfl, rfl, rfl, (orI a b), rfl, ⟨by omega, by omega⟩, ?_⟩
    try dsimp only
    unfold joinC
    repeat (first | rw [if_pos (by omega)] | rw [if_neg (by omega)])
  by_cases u8 : k = 12
  · skip
    refine v_tabIn X 148 dX10_join_1 ⟨by omega, by omega⟩ (by omega) (by omega) (by rw [u8]; rfl) (by decide) ?_
    refine v_iload_n X 1 dX10_join_148 rfl rfl ?_
    refine v_iload_n X 2 dX10_join_149 rfl rfl ?_
    refine v_ior X (orI a b) dX10_join_150 (iz_self _).symm ?_
    have hw9 := iz_rng (iz a ||| iz b)
    have hw8 : inR (orI a b) := hw9
    refine hret _ _ _ _ _ _ _ _ _ _ _ (some (.int (iz (orI a b)))) dX10_join_151 ⟨rfl, _, rfl⟩ (by decide) (by decide) (fun hmok => ?_)
    refine ⟨rfl, rfl, rfl, rfl, rfl, rfl, (orI a b), rfl, ⟨by omega, by omega⟩, ?_⟩
    try dsimp only
    unfold joinC
    repeat (first | rw [if_pos (by omega)] | rw [if_neg (by omega)])
  by_cases u9 : k = 13
  · skip
    refine v_tabIn X 148 dX10_join_1 ⟨by omega, by omega⟩ (by omega) (by omega) (by rw [u9]; rfl) (by decide) ?_
    refine v_iload_n X 1 dX10_join_148 rfl rfl ?_
    refine v_iload_n X 2 dX10_join_149 rfl rfl ?_
    refine v_ior X (orI a b) dX10_join_150 (iz_self _).symm ?_
    have hw9 := iz_rng (iz a ||| iz b)
    have hw8 : inR (orI a b) := hw9
    refine hret _ _ _ _ _ _ _ _ _ _ _ (some (.int (iz (orI a b)))) dX10_join_151 ⟨rfl, _, rfl⟩ (by decide) (by decide) (fun hmok => ?_)
    refine ⟨rfl, rfl, rfl, rfl, rfl, rfl, (orI a b), rfl, ⟨by omega, by omega⟩, ?_⟩
    try dsimp only
    unfold joinC
    repeat (first | rw [if_pos (by omega)] | rw [if_neg (by omega)])
  by_cases u10 : k = 14
  · skip
    refine v_tabIn X 148 dX10_join_1 ⟨by omega, by omega⟩ (by omega) (by omega) (by rw [u10]; rfl) (by decide) ?_
    refine v_iload_n X 1 dX10_join_148 rfl rfl ?_
    refine v_iload_n X 2 dX10_join_149 rfl rfl ?_
    refine v_ior X (orI a b) dX10_join_150 (iz_self _).symm ?_
    have hw9 := iz_rng (iz a ||| iz b)
    have hw8 : inR (orI a b) := hw9
    refine hret _ _ _ _ _ _ _ _ _ _ _ (some (.int (iz (orI a b)))) dX10_join_151 ⟨rfl, _, rfl⟩ (by decide) (by decide) (fun hmok => ?_)
    refine ⟨rfl, rfl, rfl, rfl, rfl, rfl, (orI a b), rfl, ⟨by omega, by omega⟩, ?_⟩
    try dsimp only
    unfold joinC
    repeat (first | rw [if_pos (by omega)] | rw [if_neg (by omega)])
  by_cases u11 : k = 15
  · skip
    refine v_tabIn X 148 dX10_join_1 ⟨by omega, by omega⟩ (by omega) (by omega) (by rw [u11]; rfl) (by decide) ?_
    refine v_iload_n X 1 dX10_join_148 rfl rfl ?_
    refine v_iload_n X 2 dX10_join_149 rfl rfl ?_
    refine v_ior X (orI a b) dX10_join_150 (iz_self _).symm ?_
    have hw9 := iz_rng (iz a ||| iz b)
    have hw8 : inR (orI a b) := hw9
    refine hret _ _ _ _ _ _ _ _ _ _ _ (some (.int (iz (orI a b)))) dX10_join_151 ⟨rfl, _, rfl⟩ (by decide) (by decide) (fun hmok => ?_)
    refine ⟨rfl, rfl, rfl, rfl, rfl, rfl, (orI a b), rfl, ⟨by omega, by omega⟩, ?_⟩
    try dsimp only
    unfold joinC
    repeat (first | rw [if_pos (by omega)] | rw [if_neg (by omega)])
  by_cases u12 : k = 16
  · skip
    refine v_tabIn X 88 dX10_join_1 ⟨by omega, by omega⟩ (by omega) (by omega) (by rw [u12]; rfl) (by decide) ?_
    refine v_iload_n X 1 dX10_join_88 rfl rfl ?_
    refine v_iload_n X 2 dX10_join_89 rfl rfl ?_
    refine v_iadd X dX10_join_90 ?_
    refine v_st (st' := [.int (iz (wrp (a + b)))]) (by rw [wrp_iz]) ?_
    have hw9 := wrp_in (a + b)
    refine hret _ _ _ _ _ _ _ _ _ _ _ (some (.int (iz (wrp (a + b))))) dX10_join_91 ⟨rfl, _, rfl⟩ (by decide) (by decide) (fun hmok => ?_)
    refine ⟨rfl, rfl, rfl, rfl, rfl, rfl, (wrp (a + b)), rfl, ⟨by omega, by omega⟩, ?_⟩
    try dsimp only
    unfold joinC
    repeat (first | rw [if_pos (by omega)] | rw [if_neg (by omega)])
  by_cases u13 : k = 17
  · skip
    refine v_tabIn X 92 dX10_join_1 ⟨by omega, by omega⟩ (by omega) (by omega) (by rw [u13]; rfl) (by decide) ?_
    refine v_iload_n X 1 dX10_join_92 rfl rfl ?_
    refine v_iload_n X 2 dX10_join_93 rfl rfl ?_
    refine v_isub X dX10_join_94 ?_
    refine v_st (st' := [.int (iz (wrp (a - b)))]) (by rw [wrp_iz]) ?_
    have hw9 := wrp_in (a - b)
    refine hret _ _ _ _ _ _ _ _ _ _ _ (some (.int (iz (wrp (a - b))))) dX10_join_95 ⟨rfl, _, rfl⟩ (by decide) (by decide) (fun hmok => ?_)
    refine ⟨rfl, rfl, rfl, rfl, rfl, rfl, (wrp (a - b)), rfl, ⟨by omega, by omega⟩, ?_⟩
    try dsimp only
    unfold joinC
    repeat (first | rw [if_pos (by omega)] | rw [if_neg (by omega)])
  by_cases u14 : k = 18
  · skip
    refine v_tabIn X 96 dX10_join_1 ⟨by omega, by omega⟩ (by omega) (by omega) (by rw [u14]; rfl) (by decide) ?_
    refine v_iload_n X 1 dX10_join_96 rfl rfl ?_
    refine v_iload_n X 2 dX10_join_97 rfl rfl ?_
    refine v_imul X dX10_join_98 ?_
    refine v_st (st' := [.int (iz (wrp (a * b)))]) (by rw [wrp_iz]) ?_
    have hw9 := wrp_in (a * b)
    refine hret _ _ _ _ _ _ _ _ _ _ _ (some (.int (iz (wrp (a * b))))) dX10_join_99 ⟨rfl, _, rfl⟩ (by decide) (by decide) (fun hmok => ?_)
    refine ⟨rfl, rfl, rfl, rfl, rfl, rfl, (wrp (a * b)), rfl, ⟨by omega, by omega⟩, ?_⟩
    try dsimp only
    unfold joinC
    repeat (first | rw [if_pos (by omega)] | rw [if_neg (by omega)])
  by_cases u15 : k = 19
  · skip
    refine v_tabIn X 100 dX10_join_1 ⟨by omega, by omega⟩ (by omega) (by omega) (by rw [u15]; rfl) (by decide) ?_
    refine v_iload_n X 1 dX10_join_100 rfl rfl ?_
    refine v_iload_n X 2 dX10_join_101 rfl rfl ?_
    refine v_icmp_ne X 109 dX10_join_102 (by decide) ⟨by omega, by omega⟩ ⟨by omega, by omega⟩ (fun u16 => ?_) (fun u16 => ?_)
    · skip
      refine v_iconst X dX10_join_109 ?_
      refine hret _ _ _ _ _ _ _ _ _ _ _ (some (.int (iz 0))) dX10_join_110 ⟨rfl, _, rfl⟩ (by decide) (by decide) (fun hmok => ?_)
      refine ⟨rfl, rfl, rfl, rfl, rfl, rfl, 0, rfl, ⟨by decide, by decide⟩, ?_⟩
      try dsimp only
      unfold joinC
      repeat (first | rw [if_pos (by omega)] | rw [if_neg (by omega)])
    · skip
      refine v_iconst X dX10_join_105 ?_
      refine v_goto X 110 dX10_join_106 (by decide) ?_
      refine hret _ _ _ _ _ _ _ _ _ _ _ (some (.int (iz 1))) dX10_join_110 ⟨rfl, _, rfl⟩ (by decide) (by decide) (fun hmok => ?_)
      refine ⟨rfl, rfl, rfl, rfl, rfl, rfl, 1, rfl, ⟨by decide, by decide⟩, ?_⟩
      try dsimp only
      unfold joinC
      repeat (first | rw [if_pos (by omega)] | rw [if_neg (by omega)])
  by_cases u17 : k = 20
  · skip
    refine v_tabIn X 111 dX10_join_1 ⟨by omega, by omega⟩ (by omega) (by omega) (by rw [u17]; rfl) (by decide) ?_
    refine v_iload_n X 1 dX10_join_111 rfl rfl ?_
    refine v_iload_n X 2 dX10_join_112 rfl rfl ?_
    refine v_icmp_eq X 120 dX10_join_113 (by decide) ⟨by omega, by omega⟩ ⟨by omega, by omega⟩ (fun u18 => ?_) (fun u18 => ?_)
    · skip
      refine v_iconst X dX10_join_120 ?_
      refine hret _ _ _ _ _ _ _ _ _ _ _ (some (.int (iz 0))) dX10_join_121 ⟨rfl, _, rfl⟩ (by decide) (by decide) (fun hmok => ?_)
      refine ⟨rfl, rfl, rfl, rfl, rfl, rfl, 0, rfl, ⟨by decide, by decide⟩, ?_⟩
      try dsimp only
      unfold joinC
      repeat (first | rw [if_pos (by omega)] | rw [if_neg (by omega)])
    · skip
      refine v_iconst X dX10_join_116 ?_
      refine v_goto X 121 dX10_join_117 (by decide) ?_
      refine hret _ _ _ _ _ _ _ _ _ _ _ (some (.int (iz 1))) dX10_join_121 ⟨rfl, _, rfl⟩ (by decide) (by decide) (fun hmok => ?_)
      refine ⟨rfl, rfl, rfl, rfl, rfl, rfl, 1, rfl, ⟨by decide, by decide⟩, ?_⟩
      try dsimp only
      unfold joinC
      repeat (first | rw [if_pos (by omega)] | rw [if_neg (by omega)])
  by_cases u19 : k = 21
  · skip
    refine v_tabIn X 122 dX10_join_1 ⟨by omega, by omega⟩ (by omega) (by omega) (by rw [u19]; rfl) (by decide) ?_
    refine v_iload_n X 1 dX10_join_122 rfl rfl ?_
    refine v_iload_n X 2 dX10_join_123 rfl rfl ?_
    refine v_icmp_ge X 131 dX10_join_124 (by decide) ⟨by omega, by omega⟩ ⟨by omega, by omega⟩ (fun u20 => ?_) (fun u20 => ?_)
    · skip
      refine v_iconst X dX10_join_131 ?_
      refine hret _ _ _ _ _ _ _ _ _ _ _ (some (.int (iz 0))) dX10_join_132 ⟨rfl, _, rfl⟩ (by decide) (by decide) (fun hmok => ?_)
      refine ⟨rfl, rfl, rfl, rfl, rfl, rfl, 0, rfl, ⟨by decide, by decide⟩, ?_⟩
      try dsimp only
      unfold joinC
      repeat (first | rw [if_pos (by omega)] | rw [if_neg (by omega)])
    · skip
      refine v_iconst X dX10_join_127 ?_
      refine v_goto X 132 dX10_join_128 (by decide) ?_
      refine hret _ _ _ _ _ _ _ _ _ _ _ (some (.int (iz 1))) dX10_join_132 ⟨rfl, _, rfl⟩ (by decide) (by decide) (fun hmok => ?_)
      refine ⟨rfl, rfl, rfl, rfl, rfl, rfl, 1, rfl, ⟨by decide, by decide⟩, ?_⟩
      try dsimp only
      unfold joinC
      repeat (first | rw [if_pos (by omega)] | rw [if_neg (by omega)])
  by_cases u21 : k = 22
  · skip
    refine v_tabIn X 133 dX10_join_1 ⟨by omega, by omega⟩ (by omega) (by omega) (by rw [u21]; rfl) (by decide) ?_
    refine v_iload_n X 1 dX10_join_133 rfl rfl ?_
    refine v_iload_n X 2 dX10_join_134 rfl rfl ?_
    refine v_icmp_gt X 142 dX10_join_135 (by decide) ⟨by omega, by omega⟩ ⟨by omega, by omega⟩ (fun u22 => ?_) (fun u22 => ?_)
    · skip
      refine v_iconst X dX10_join_142 ?_
      refine hret _ _ _ _ _ _ _ _ _ _ _ (some (.int (iz 0))) dX10_join_143 ⟨rfl, _, rfl⟩ (by decide) (by decide) (fun hmok => ?_)
      refine ⟨rfl, rfl, rfl, rfl, rfl, rfl, 0, rfl, ⟨by decide, by decide⟩, ?_⟩
      try dsimp only
      unfold joinC
      repeat (first | rw [if_pos (by omega)] | rw [if_neg (by omega)])
    · skip
      refine v_iconst X dX10_join_138 ?_
      refine v_goto X 143 dX10_join_139 (by decide) ?_
      refine hret _ _ _ _ _ _ _ _ _ _ _ (some (.int (iz 1))) dX10_join_143 ⟨rfl, _, rfl⟩ (by decide) (by decide) (fun hmok => ?_)
      refine ⟨rfl, rfl, rfl, rfl, rfl, rfl, 1, rfl, ⟨by decide, by decide⟩, ?_⟩
      try dsimp only
      unfold joinC
      repeat (first | rw [if_pos (by omega)] | rw [if_neg (by omega)])
  refine v_tabOut X 148 dX10_join_1 ⟨by omega, by omega⟩ (by omega) (by decide) ?_
  refine v_iload_n X 1 dX10_join_148 rfl rfl ?_
  refine v_iload_n X 2 dX10_join_149 rfl rfl ?_
  refine v_ior X (orI a b) dX10_join_150 (iz_self _).symm ?_
  have hw9 := iz_rng (iz a ||| iz b)
  have hw8 : inR (orI a b) := hw9
  refine hret _ _ _ _ _ _ _ _ _ _ _ (some (.int (iz (orI a b)))) dX10_join_151 ⟨rfl, _, rfl⟩ (by decide) (by decide) (fun hmok => ?_)
  refine ⟨rfl, rfl, rfl, rfl, rfl, rfl, (orI a b), rfl, ⟨by omega, by omega⟩, ?_⟩
  try dsimp only
  unfold joinC
  repeat (first | rw [if_pos (by omega)] | rw [if_neg (by omega)])

-- Text.work
set_option maxHeartbeats 4000000 in
set_option maxRecDepth 100000 in
theorem c_X10_work_17 (l : Launch) (D : va_G) (cy : Nat → ClassId) {N : Nat} {sh : MS} {ad : Nat → Nat} {M L : MI} {R : MR} (hS : Std N sh R) (f e : Int) (hf : 0 ≤ f ∧ f ≤ e) (he : e ≤ 400) : Ctr l D cy yX10_work wsX10_work ({ frames := 1, cells := 0, slots := 0, locals := 22 } : Room) N sh ad M L R [.ref (ad 17), .int (iz f), .int (iz e), .ref (ad 32)] (eI N sh ad L R (fun r M' => ∃ g : Int → Int, M' = mrow M 23 g ∧ rep g (cRun (M 22) (M 32) f (e - f).toNat) ∧ r = g 0)) := by
  refine Ctr.ofI (by decide) rfl (Nat.le_of_ble_eq_true rfl) ?_
  intro K hKl hKd hRm hnm X hret
  have X : VX K cX10_work 8 wsX10_work RX10 := X
  show V K 8 0 0 N sh ad M L R [(0, .ref (ad 17)), (1, .int (iz f)), (2, .int (iz e)), (3, .ref (ad 32))] [] 0
  refine v_iconst X dX10_work_0 ?_
  refine v_istore X [(4, .int (iz 0)), (0, .ref (ad 17)), (1, .int (iz f)), (2, .int (iz e)), (3, .ref (ad 32))] dX10_work_1 (by decide) rfl ?_
  refine v_iconst X dX10_work_3 ?_
  refine v_iload_n X 2 dX10_work_4 rfl rfl ?_
  obtain ⟨x1, u2⟩ : ∃ z : Int, z = max 0 f := ⟨_, rfl⟩
  refine v_max X x1 hRm (List.mem_cons_of_mem _ bw_37_16) (List.mem_cons_of_mem _ bw_18_7) (List.mem_cons_of_mem _ bw_18_8) (List.mem_cons_of_mem _ bw_18_9) ⟨Nat.le_of_ble_eq_true rfl, Nat.le_of_ble_eq_true rfl, Nat.le_of_ble_eq_true rfl, Nat.le_of_ble_eq_true rfl⟩ ⟨by decide, by decide⟩ ⟨by omega, by omega⟩ u2 dX10_work_5 ?_
  refine v_istore X [(5, .int (iz x1)), (4, .int (iz 0)), (0, .ref (ad 17)), (1, .int (iz f)), (2, .int (iz e)), (3, .ref (ad 32))] dX10_work_8 (by decide) rfl ?_
  have hl3 : ∀ (n5 : Nat) (tp : Int) (i : Int) (j : Nat) (g : Int → Int), (i = f + (j : Int)) → (i ≤ e) → (tp = ((cRun (M 22) (M 32) f j).length : Int)) → (0 ≤ tp ∧ tp ≤ 32) → (rep g (cRun (M 22) (M 32) f j)) → (e - i).toNat < n5 → V K 8 0 0 N sh ad (mrow M 23 g) L R [(0, .ref (ad 17)), (1, .int (iz f)), (2, .int (iz e)), (3, .ref (ad 32)), (4, .int (iz tp)), (5, .int (iz i))] [] 10 := by
    intro n5
    induction n5 with
    | zero => intro tp i j g ei hi ht ht2 hrep hn6; exact absurd hn6 (Nat.not_lt_zero _)
    | succ n5 ih4 =>
      intro tp i j g ei hi ht ht2 hrep hn6
      have hk := kdI_in (M 22 i)
      refine v_iload X 5 dX10_work_10 rfl ?_
      refine v_iload_n X 2 dX10_work_12 rfl rfl ?_
      refine v_icmp_ge X 167 dX10_work_13 (by decide) ⟨by omega, by omega⟩ ⟨by omega, by omega⟩ (fun u7 => ?_) (fun u7 => ?_)
      · skip
        refine v_aload_n X 0 dX10_work_167 rfl rfl ?_
        refine gt_X10_stack X iwX10 (Std.lt hS rfl) (Std.k hS rfl rfl) (List.mem_cons_of_mem _ bw_6_0) dX10_work_168 23 (Std.r hS 5 rfl) ?_
        refine v_iconst X dX10_work_171 ?_
        refine v_iald X (g 0) (Std.lt hS rfl) (Std.at hS rfl rfl) (by omega) (by omega) dX10_work_172 rfl (fun hr8 => ?_)
        refine hret _ _ _ _ _ _ _ _ _ _ _ (some (.int (iz (g 0)))) dX10_work_173 ⟨rfl, _, rfl⟩ (by decide) (by decide) (fun hmok => ?_)
        refine ⟨rfl, rfl, rfl, rfl, rfl, (g 0), rfl, ⟨by omega, by omega⟩, ?_⟩
        try dsimp only
        rw [show (e - f).toNat = j by omega]
        exact ⟨g, rfl, hrep, rfl⟩
      · skip
        refine v_iload X 5 dX10_work_16 rfl ?_
        refine v_sipush X dX10_work_18 (by decide) ?_
        refine v_icmp_ge X 167 dX10_work_21 (by decide) ⟨by omega, by omega⟩ ⟨by decide, by decide⟩ (fun q => absurd q (by omega)) (fun u9 => ?_)
        refine v_aload_n X 0 dX10_work_24 rfl rfl ?_
        refine gt_X10_code X iwX10 (Std.lt hS rfl) (Std.k hS rfl rfl) (List.mem_cons_of_mem _ bw_5_23) dX10_work_25 22 (Std.r hS 4 rfl) ?_
        refine v_iload X 5 dX10_work_28 rfl ?_
        refine v_iald X (M 22 i) (Std.lt hS rfl) (Std.at hS rfl rfl) (by omega) (by omega) dX10_work_30 rfl (fun hr10 => ?_)
        refine v_bipush X dX10_work_31 (by decide) ?_
        refine v_iand X (kdI (M 22 i)) dX10_work_33 (iz_self _).symm ?_
        refine v_istore X [(6, .int (iz (kdI (M 22 i)))), (0, .ref (ad 17)), (1, .int (iz f)), (2, .int (iz e)), (3, .ref (ad 32)), (4, .int (iz tp)), (5, .int (iz i))] dX10_work_34 (by decide) rfl ?_
        refine v_iload X 0 dX10_work_36 rfl ?_
        refine v_bipush X dX10_work_38 (by decide) ?_
        refine v_isub X dX10_work_40 ?_
        refine v_istore X [(7, .int (iz ((kdI (M 22 i)) - 6))), (6, .int (iz (kdI (M 22 i)))), (0, .ref (ad 17)), (1, .int (iz f)), (2, .int (iz e)), (3, .ref (ad 32)), (4, .int (iz tp)), (5, .int (iz i))] dX10_work_41 (by decide) rfl ?_
        refine v_iload X 1 dX10_work_43 rfl ?_
        refine v_bipush X dX10_work_45 (by decide) ?_
        refine v_icmp_ne X 79 dX10_work_47 (by decide) ⟨by omega, by omega⟩ ⟨by decide, by decide⟩ (fun u11 => ?_) (fun u11 => ?_)
        · skip
          refine v_iload X 0 dX10_work_79 rfl ?_
          refine v_if_lt X 122 dX10_work_81 (by decide) ⟨by omega, by omega⟩ (fun u12 => ?_) (fun u12 => ?_)
          · skip
            refine v_iload X 6 dX10_work_122 rfl ?_
            refine v_iconst X dX10_work_124 ?_
            refine v_icmp_lt X 161 dX10_work_125 (by decide) ⟨by omega, by omega⟩ ⟨by decide, by decide⟩ (fun u13 => ?_) (fun u13 => ?_)
            · skip
              refine v_iinc X 7 [(5, .int (iz (i + 1))), (7, .int (iz ((kdI (M 22 i)) - 6))), (6, .int (iz (kdI (M 22 i)))), (0, .ref (ad 17)), (1, .int (iz f)), (2, .int (iz e)), (3, .ref (ad 32)), (4, .int (iz tp))] dX10_work_161 rfl (by decide) rfl ?_
              refine v_goto X 10 dX10_work_164 (by decide) ?_
              refine v_lv [3, 4, 5, 6, 7, 0] rfl ?_
              refine v_mem (M' := (mrow M 23 g)) (by rfl) rfl rfl ?_
              exact ih4 tp (i + 1) (j + 1) g (by omega) (by omega) (by subst ei; rw [cRun_s]; unfold cStep; rw [if_neg (by omega), if_neg (by omega), short_of (by omega)]; exact ht) (by omega) (by subst ei; rw [cRun_s]; unfold cStep; rw [if_neg (by omega), if_neg (by omega), short_of (by omega)]; exact hrep) (by omega)
            · skip
              obtain ⟨b9, a9, t9, hst⟩ := two_of (st := (cRun (M 22) (M 32) f j)) (by omega)
              have hl9 : tp = (t9.length : Int) + 2 := by rw [hst] at ht; simp only [List.length_cons] at ht; omega
              have hb9 : g (tp + -1) = b9 := by rw [hst] at hrep; exact rep_b hrep (by omega)
              have ha9 : g (tp + -1 - 1) = a9 := by rw [hst] at hrep; exact rep_a hrep (by omega)
              refine v_iinc X 6 [(4, .int (iz (tp + (-1)))), (7, .int (iz ((kdI (M 22 i)) - 6))), (6, .int (iz (kdI (M 22 i)))), (0, .ref (ad 17)), (1, .int (iz f)), (2, .int (iz e)), (3, .ref (ad 32)), (5, .int (iz i))] dX10_work_128 rfl (by decide) rfl ?_
              refine v_aload_n X 3 dX10_work_131 rfl rfl ?_
              refine gt_X10_stack X iwX10 (Std.lt hS rfl) (Std.k hS rfl rfl) (List.mem_cons_of_mem _ bw_6_0) dX10_work_132 23 (Std.r hS 5 rfl) ?_
              refine v_iload X 0 dX10_work_135 rfl ?_
              refine v_iconst X dX10_work_137 ?_
              refine v_isub X dX10_work_138 ?_
              refine v_iload X 2 dX10_work_139 rfl ?_
              refine v_aload_n X 3 dX10_work_141 rfl rfl ?_
              refine gt_X10_stack X iwX10 (Std.lt hS rfl) (Std.k hS rfl rfl) (List.mem_cons_of_mem _ bw_6_0) dX10_work_142 23 (Std.r hS 5 rfl) ?_
              refine v_iload X 0 dX10_work_145 rfl ?_
              refine v_iconst X dX10_work_147 ?_
              refine v_isub X dX10_work_148 ?_
              refine v_iald X (g ((tp + (-1)) - 1)) (Std.lt hS rfl) (Std.at hS rfl rfl) (by omega) (by omega) dX10_work_149 rfl (fun hr14 => ?_)
              refine v_aload_n X 3 dX10_work_150 rfl rfl ?_
              refine gt_X10_stack X iwX10 (Std.lt hS rfl) (Std.k hS rfl rfl) (List.mem_cons_of_mem _ bw_6_0) dX10_work_151 23 (Std.r hS 5 rfl) ?_
              refine v_iload X 0 dX10_work_154 rfl ?_
              refine v_iald X (g (tp + (-1))) (Std.lt hS rfl) (Std.at hS rfl rfl) (by omega) (by omega) dX10_work_156 rfl (fun hr15 => ?_)
              refine v_callS X [.int (iz (kdI (M 22 i))), .int (iz (g ((tp + (-1)) - 1))), .int (iz (g (tp + (-1))))] hRm (c_X10_join _ _ _ (kdI (M 22 i)) (g ((tp + (-1)) - 1)) (g (tp + (-1))) ⟨by omega, by omega⟩ ⟨by omega, by omega⟩ ⟨by omega, by omega⟩) (gS bw_37_17 bw_37_18 bw_2_10 bw_37_19) rfl ddX10_join (by decide) (Nat.le_of_ble_eq_true rfl) dX10_work_157 (k_pI (fun r16 hr17 e18 => ?_))
              refine v_iast X (Std.lt hS rfl) (Std.at hS rfl rfl) (by omega) (by omega) ⟨by omega, by omega⟩ dX10_work_160 ?_
              refine v_iinc X 7 [(5, .int (iz (i + 1))), (4, .int (iz (tp + (-1)))), (7, .int (iz ((kdI (M 22 i)) - 6))), (6, .int (iz (kdI (M 22 i)))), (0, .ref (ad 17)), (1, .int (iz f)), (2, .int (iz e)), (3, .ref (ad 32))] dX10_work_161 rfl (by decide) rfl ?_
              refine v_goto X 10 dX10_work_164 (by decide) ?_
              refine v_lv [4, 5, 6, 7, 1, 0] rfl ?_
              refine v_mem (M' := (mrow M 23 (fun b => if b = ((tp + (-1)) - 1) then r16 else g b))) (by simp only [mu_mrow]) rfl rfl ?_
              exact ih4 (tp + (-1)) (i + 1) (j + 1) (fun b => if b = ((tp + (-1)) - 1) then r16 else g b) (by omega) (by omega) (by subst ei; rw [cRun_s, hst]; unfold cStep; rw [hst] at ht; rw [if_neg (by simp only [List.length_cons] at ht ⊢; omega), if_neg (by simp only [List.length_cons] at ht ⊢; omega)]; show _ = ((joinC _ _ _ :: t9).length : Int); simp only [List.length_cons] at ht ⊢; omega) (by omega) (by subst ei; rw [cRun_s, hst]; unfold cStep; rw [hst] at ht; rw [if_neg (by simp only [List.length_cons] at ht ⊢; omega), if_neg (by simp only [List.length_cons] at ht ⊢; omega)]; rw [hst] at hrep; rw [e18, hb9, ha9]; exact rep_bin hrep (by simp only [List.length_cons] at ht; omega)) (by omega)
          · skip
            refine v_iload X 0 dX10_work_84 rfl ?_
            refine v_bipush X dX10_work_86 (by decide) ?_
            refine v_icmp_ge X 122 dX10_work_88 (by decide) ⟨by omega, by omega⟩ ⟨by decide, by decide⟩ (fun u19 => ?_) (fun u19 => ?_)
            · skip
              refine v_iload X 6 dX10_work_122 rfl ?_
              refine v_iconst X dX10_work_124 ?_
              refine v_icmp_lt X 161 dX10_work_125 (by decide) ⟨by omega, by omega⟩ ⟨by decide, by decide⟩ (fun u20 => ?_) (fun u20 => ?_)
              · skip
                refine v_iinc X 7 [(5, .int (iz (i + 1))), (7, .int (iz ((kdI (M 22 i)) - 6))), (6, .int (iz (kdI (M 22 i)))), (0, .ref (ad 17)), (1, .int (iz f)), (2, .int (iz e)), (3, .ref (ad 32)), (4, .int (iz tp))] dX10_work_161 rfl (by decide) rfl ?_
                refine v_goto X 10 dX10_work_164 (by decide) ?_
                refine v_lv [3, 4, 5, 6, 7, 0] rfl ?_
                refine v_mem (M' := (mrow M 23 g)) (by rfl) rfl rfl ?_
                exact ih4 tp (i + 1) (j + 1) g (by omega) (by omega) (by subst ei; rw [cRun_s]; unfold cStep; rw [if_neg (by omega), if_neg (by omega), short_of (by omega)]; exact ht) (by omega) (by subst ei; rw [cRun_s]; unfold cStep; rw [if_neg (by omega), if_neg (by omega), short_of (by omega)]; exact hrep) (by omega)
              · skip
                obtain ⟨b9, a9, t9, hst⟩ := two_of (st := (cRun (M 22) (M 32) f j)) (by omega)
                have hl9 : tp = (t9.length : Int) + 2 := by rw [hst] at ht; simp only [List.length_cons] at ht; omega
                have hb9 : g (tp + -1) = b9 := by rw [hst] at hrep; exact rep_b hrep (by omega)
                have ha9 : g (tp + -1 - 1) = a9 := by rw [hst] at hrep; exact rep_a hrep (by omega)
                refine v_iinc X 6 [(4, .int (iz (tp + (-1)))), (7, .int (iz ((kdI (M 22 i)) - 6))), (6, .int (iz (kdI (M 22 i)))), (0, .ref (ad 17)), (1, .int (iz f)), (2, .int (iz e)), (3, .ref (ad 32)), (5, .int (iz i))] dX10_work_128 rfl (by decide) rfl ?_
                refine v_aload_n X 3 dX10_work_131 rfl rfl ?_
                refine gt_X10_stack X iwX10 (Std.lt hS rfl) (Std.k hS rfl rfl) (List.mem_cons_of_mem _ bw_6_0) dX10_work_132 23 (Std.r hS 5 rfl) ?_
                refine v_iload X 0 dX10_work_135 rfl ?_
                refine v_iconst X dX10_work_137 ?_
                refine v_isub X dX10_work_138 ?_
                refine v_iload X 2 dX10_work_139 rfl ?_
                refine v_aload_n X 3 dX10_work_141 rfl rfl ?_
                refine gt_X10_stack X iwX10 (Std.lt hS rfl) (Std.k hS rfl rfl) (List.mem_cons_of_mem _ bw_6_0) dX10_work_142 23 (Std.r hS 5 rfl) ?_
                refine v_iload X 0 dX10_work_145 rfl ?_
                refine v_iconst X dX10_work_147 ?_
                refine v_isub X dX10_work_148 ?_
                refine v_iald X (g ((tp + (-1)) - 1)) (Std.lt hS rfl) (Std.at hS rfl rfl) (by omega) (by omega) dX10_work_149 rfl (fun hr21 => ?_)
                refine v_aload_n X 3 dX10_work_150 rfl rfl ?_
                refine gt_X10_stack X iwX10 (Std.lt hS rfl) (Std.k hS rfl rfl) (List.mem_cons_of_mem _ bw_6_0) dX10_work_151 23 (Std.r hS 5 rfl) ?_
                refine v_iload X 0 dX10_work_154 rfl ?_
                refine v_iald X (g (tp + (-1))) (Std.lt hS rfl) (Std.at hS rfl rfl) (by omega) (by omega) dX10_work_156 rfl (fun hr22 => ?_)
                refine v_callS X [.int (iz (kdI (M 22 i))), .int (iz (g ((tp + (-1)) - 1))), .int (iz (g (tp + (-1))))] hRm (c_X10_join _ _ _ (kdI (M 22 i)) (g ((tp + (-1)) - 1)) (g (tp + (-1))) ⟨by omega, by omega⟩ ⟨by omega, by omega⟩ ⟨by omega, by omega⟩) (gS bw_37_17 bw_37_18 bw_2_10 bw_37_19) rfl ddX10_join (by decide) (Nat.le_of_ble_eq_true rfl) dX10_work_157 (k_pI (fun r23 hr24 e25 => ?_))
                refine v_iast X (Std.lt hS rfl) (Std.at hS rfl rfl) (by omega) (by omega) ⟨by omega, by omega⟩ dX10_work_160 ?_
                refine v_iinc X 7 [(5, .int (iz (i + 1))), (4, .int (iz (tp + (-1)))), (7, .int (iz ((kdI (M 22 i)) - 6))), (6, .int (iz (kdI (M 22 i)))), (0, .ref (ad 17)), (1, .int (iz f)), (2, .int (iz e)), (3, .ref (ad 32))] dX10_work_161 rfl (by decide) rfl ?_
                refine v_goto X 10 dX10_work_164 (by decide) ?_
                refine v_lv [4, 5, 6, 7, 1, 0] rfl ?_
                refine v_mem (M' := (mrow M 23 (fun b => if b = ((tp + (-1)) - 1) then r23 else g b))) (by simp only [mu_mrow]) rfl rfl ?_
                exact ih4 (tp + (-1)) (i + 1) (j + 1) (fun b => if b = ((tp + (-1)) - 1) then r23 else g b) (by omega) (by omega) (by subst ei; rw [cRun_s, hst]; unfold cStep; rw [hst] at ht; rw [if_neg (by simp only [List.length_cons] at ht ⊢; omega), if_neg (by simp only [List.length_cons] at ht ⊢; omega)]; show _ = ((joinC _ _ _ :: t9).length : Int); simp only [List.length_cons] at ht ⊢; omega) (by omega) (by subst ei; rw [cRun_s, hst]; unfold cStep; rw [hst] at ht; rw [if_neg (by simp only [List.length_cons] at ht ⊢; omega), if_neg (by simp only [List.length_cons] at ht ⊢; omega)]; rw [hst] at hrep; rw [e25, hb9, ha9]; exact rep_bin hrep (by simp only [List.length_cons] at ht; omega)) (by omega)
            · skip
              refine v_iload X 0 dX10_work_91 rfl ?_
              refine v_aload_n X 5 dX10_work_93 rfl rfl ?_
              refine v_alenI X (Std.lt hS rfl) (Std.at hS rfl rfl) dX10_work_94 ?_
              refine v_icmp_ge X 122 dX10_work_95 (by decide) ⟨by omega, by omega⟩ ⟨by decide, by decide⟩ (fun q => absurd q (by omega)) (fun u26 => ?_)
              refine v_iload X 6 dX10_work_98 rfl ?_
              refine v_bipush X dX10_work_100 (by decide) ?_
              refine v_icmp_ge X 122 dX10_work_102 (by decide) ⟨by omega, by omega⟩ ⟨by decide, by decide⟩ (fun u27 => ?_) (fun u27 => ?_)
              · skip
                refine v_iload X 6 dX10_work_122 rfl ?_
                refine v_iconst X dX10_work_124 ?_
                refine v_icmp_lt X 161 dX10_work_125 (by decide) ⟨by omega, by omega⟩ ⟨by decide, by decide⟩ (fun u28 => ?_) (fun u28 => ?_)
                · skip
                  refine v_iinc X 7 [(5, .int (iz (i + 1))), (7, .int (iz ((kdI (M 22 i)) - 6))), (6, .int (iz (kdI (M 22 i)))), (0, .ref (ad 17)), (1, .int (iz f)), (2, .int (iz e)), (3, .ref (ad 32)), (4, .int (iz tp))] dX10_work_161 rfl (by decide) rfl ?_
                  refine v_goto X 10 dX10_work_164 (by decide) ?_
                  refine v_lv [3, 4, 5, 6, 7, 0] rfl ?_
                  refine v_mem (M' := (mrow M 23 g)) (by rfl) rfl rfl ?_
                  exact ih4 tp (i + 1) (j + 1) g (by omega) (by omega) (by subst ei; rw [cRun_s]; unfold cStep; rw [if_neg (by omega), if_neg (by omega), short_of (by omega)]; exact ht) (by omega) (by subst ei; rw [cRun_s]; unfold cStep; rw [if_neg (by omega), if_neg (by omega), short_of (by omega)]; exact hrep) (by omega)
                · skip
                  obtain ⟨b9, a9, t9, hst⟩ := two_of (st := (cRun (M 22) (M 32) f j)) (by omega)
                  have hl9 : tp = (t9.length : Int) + 2 := by rw [hst] at ht; simp only [List.length_cons] at ht; omega
                  have hb9 : g (tp + -1) = b9 := by rw [hst] at hrep; exact rep_b hrep (by omega)
                  have ha9 : g (tp + -1 - 1) = a9 := by rw [hst] at hrep; exact rep_a hrep (by omega)
                  refine v_iinc X 6 [(4, .int (iz (tp + (-1)))), (7, .int (iz ((kdI (M 22 i)) - 6))), (6, .int (iz (kdI (M 22 i)))), (0, .ref (ad 17)), (1, .int (iz f)), (2, .int (iz e)), (3, .ref (ad 32)), (5, .int (iz i))] dX10_work_128 rfl (by decide) rfl ?_
                  refine v_aload_n X 3 dX10_work_131 rfl rfl ?_
                  refine gt_X10_stack X iwX10 (Std.lt hS rfl) (Std.k hS rfl rfl) (List.mem_cons_of_mem _ bw_6_0) dX10_work_132 23 (Std.r hS 5 rfl) ?_
                  refine v_iload X 0 dX10_work_135 rfl ?_
                  refine v_iconst X dX10_work_137 ?_
                  refine v_isub X dX10_work_138 ?_
                  refine v_iload X 2 dX10_work_139 rfl ?_
                  refine v_aload_n X 3 dX10_work_141 rfl rfl ?_
                  refine gt_X10_stack X iwX10 (Std.lt hS rfl) (Std.k hS rfl rfl) (List.mem_cons_of_mem _ bw_6_0) dX10_work_142 23 (Std.r hS 5 rfl) ?_
                  refine v_iload X 0 dX10_work_145 rfl ?_
                  refine v_iconst X dX10_work_147 ?_
                  refine v_isub X dX10_work_148 ?_
                  refine v_iald X (g ((tp + (-1)) - 1)) (Std.lt hS rfl) (Std.at hS rfl rfl) (by omega) (by omega) dX10_work_149 rfl (fun hr29 => ?_)
                  refine v_aload_n X 3 dX10_work_150 rfl rfl ?_
                  refine gt_X10_stack X iwX10 (Std.lt hS rfl) (Std.k hS rfl rfl) (List.mem_cons_of_mem _ bw_6_0) dX10_work_151 23 (Std.r hS 5 rfl) ?_
                  refine v_iload X 0 dX10_work_154 rfl ?_
                  refine v_iald X (g (tp + (-1))) (Std.lt hS rfl) (Std.at hS rfl rfl) (by omega) (by omega) dX10_work_156 rfl (fun hr30 => ?_)
                  refine v_callS X [.int (iz (kdI (M 22 i))), .int (iz (g ((tp + (-1)) - 1))), .int (iz (g (tp + (-1))))] hRm (c_X10_join _ _ _ (kdI (M 22 i)) (g ((tp + (-1)) - 1)) (g (tp + (-1))) ⟨by omega, by omega⟩ ⟨by omega, by omega⟩ ⟨by omega, by omega⟩) (gS bw_37_17 bw_37_18 bw_2_10 bw_37_19) rfl ddX10_join (by decide) (Nat.le_of_ble_eq_true rfl) dX10_work_157 (k_pI (fun r31 hr32 e33 => ?_))
                  refine v_iast X (Std.lt hS rfl) (Std.at hS rfl rfl) (by omega) (by omega) ⟨by omega, by omega⟩ dX10_work_160 ?_
                  refine v_iinc X 7 [(5, .int (iz (i + 1))), (4, .int (iz (tp + (-1)))), (7, .int (iz ((kdI (M 22 i)) - 6))), (6, .int (iz (kdI (M 22 i)))), (0, .ref (ad 17)), (1, .int (iz f)), (2, .int (iz e)), (3, .ref (ad 32))] dX10_work_161 rfl (by decide) rfl ?_
                  refine v_goto X 10 dX10_work_164 (by decide) ?_
                  refine v_lv [4, 5, 6, 7, 1, 0] rfl ?_
                  refine v_mem (M' := (mrow M 23 (fun b => if b = ((tp + (-1)) - 1) then r31 else g b))) (by simp only [mu_mrow]) rfl rfl ?_
                  exact ih4 (tp + (-1)) (i + 1) (j + 1) (fun b => if b = ((tp + (-1)) - 1) then r31 else g b) (by omega) (by omega) (by subst ei; rw [cRun_s, hst]; unfold cStep; rw [hst] at ht; rw [if_neg (by simp only [List.length_cons] at ht ⊢; omega), if_neg (by simp only [List.length_cons] at ht ⊢; omega)]; show _ = ((joinC _ _ _ :: t9).length : Int); simp only [List.length_cons] at ht ⊢; omega) (by omega) (by subst ei; rw [cRun_s, hst]; unfold cStep; rw [hst] at ht; rw [if_neg (by simp only [List.length_cons] at ht ⊢; omega), if_neg (by simp only [List.length_cons] at ht ⊢; omega)]; rw [hst] at hrep; rw [e33, hb9, ha9]; exact rep_bin hrep (by simp only [List.length_cons] at ht; omega)) (by omega)
              · skip
                refine v_aload_n X 2 dX10_work_105 rfl rfl ?_
                refine gt_X10_stack X iwX10 (Std.lt hS rfl) (Std.k hS rfl rfl) (List.mem_cons_of_mem _ bw_6_0) dX10_work_106 23 (Std.r hS 5 rfl) ?_
                refine v_iload X 6 dX10_work_109 rfl ?_
                refine v_aload_n X 5 dX10_work_111 rfl rfl ?_
                refine v_iload X 0 dX10_work_112 rfl ?_
                refine v_iald X (M 32 ((kdI (M 22 i)) - 6)) (Std.lt hS rfl) (Std.at hS rfl rfl) (by omega) (by omega) dX10_work_114 rfl (fun hr34 => ?_)
                refine v_iast X (Std.lt hS rfl) (Std.at hS rfl rfl) (by omega) (by omega) ⟨by omega, by omega⟩ dX10_work_115 ?_
                refine v_iinc X 6 [(4, .int (iz (tp + 1))), (7, .int (iz ((kdI (M 22 i)) - 6))), (6, .int (iz (kdI (M 22 i)))), (0, .ref (ad 17)), (1, .int (iz f)), (2, .int (iz e)), (3, .ref (ad 32)), (5, .int (iz i))] dX10_work_116 rfl (by decide) rfl ?_
                refine v_goto X 161 dX10_work_119 (by decide) ?_
                refine v_iinc X 7 [(5, .int (iz (i + 1))), (4, .int (iz (tp + 1))), (7, .int (iz ((kdI (M 22 i)) - 6))), (6, .int (iz (kdI (M 22 i)))), (0, .ref (ad 17)), (1, .int (iz f)), (2, .int (iz e)), (3, .ref (ad 32))] dX10_work_161 rfl (by decide) rfl ?_
                refine v_goto X 10 dX10_work_164 (by decide) ?_
                refine v_lv [4, 5, 6, 7, 1, 0] rfl ?_
                refine v_mem (M' := (mrow M 23 (fun b => if b = tp then (M 32 ((kdI (M 22 i)) - 6)) else g b))) (by simp only [mu_mrow]) rfl rfl ?_
                exact ih4 (tp + 1) (i + 1) (j + 1) (fun b => if b = tp then (M 32 ((kdI (M 22 i)) - 6)) else g b) (by omega) (by omega) (by subst ei; rw [cRun_s]; unfold cStep; rw [if_neg (by omega), if_pos (by omega)]; simp only [List.length_cons]; omega) (by omega) (by subst ei; rw [cRun_s]; unfold cStep; rw [if_neg (by omega), if_pos (by omega)]; exact rep_push hrep ht) (by omega)
        · skip
          refine v_iload X 6 dX10_work_50 rfl ?_
          refine v_bipush X dX10_work_52 (by decide) ?_
          refine v_icmp_ge X 79 dX10_work_54 (by decide) ⟨by omega, by omega⟩ ⟨by decide, by decide⟩ (fun u35 => ?_) (fun u35 => ?_)
          · skip
            refine v_iload X 0 dX10_work_79 rfl ?_
            refine v_if_lt X 122 dX10_work_81 (by decide) ⟨by omega, by omega⟩ (fun u36 => ?_) (fun u36 => ?_)
            · skip
              refine v_iload X 6 dX10_work_122 rfl ?_
              refine v_iconst X dX10_work_124 ?_
              refine v_icmp_lt X 161 dX10_work_125 (by decide) ⟨by omega, by omega⟩ ⟨by decide, by decide⟩ (fun u37 => ?_) (fun u37 => ?_)
              · skip
                refine v_iinc X 7 [(5, .int (iz (i + 1))), (7, .int (iz ((kdI (M 22 i)) - 6))), (6, .int (iz (kdI (M 22 i)))), (0, .ref (ad 17)), (1, .int (iz f)), (2, .int (iz e)), (3, .ref (ad 32)), (4, .int (iz tp))] dX10_work_161 rfl (by decide) rfl ?_
                refine v_goto X 10 dX10_work_164 (by decide) ?_
                refine v_lv [3, 4, 5, 6, 7, 0] rfl ?_
                refine v_mem (M' := (mrow M 23 g)) (by rfl) rfl rfl ?_
                exact ih4 tp (i + 1) (j + 1) g (by omega) (by omega) (by subst ei; rw [cRun_s]; unfold cStep; rw [if_neg (by omega), if_neg (by omega), short_of (by omega)]; exact ht) (by omega) (by subst ei; rw [cRun_s]; unfold cStep; rw [if_neg (by omega), if_neg (by omega), short_of (by omega)]; exact hrep) (by omega)
              · skip
                obtain ⟨b9, a9, t9, hst⟩ := two_of (st := (cRun (M 22) (M 32) f j)) (by omega)
                have hl9 : tp = (t9.length : Int) + 2 := by rw [hst] at ht; simp only [List.length_cons] at ht; omega
                have hb9 : g (tp + -1) = b9 := by rw [hst] at hrep; exact rep_b hrep (by omega)
                have ha9 : g (tp + -1 - 1) = a9 := by rw [hst] at hrep; exact rep_a hrep (by omega)
                refine v_iinc X 6 [(4, .int (iz (tp + (-1)))), (7, .int (iz ((kdI (M 22 i)) - 6))), (6, .int (iz (kdI (M 22 i)))), (0, .ref (ad 17)), (1, .int (iz f)), (2, .int (iz e)), (3, .ref (ad 32)), (5, .int (iz i))] dX10_work_128 rfl (by decide) rfl ?_
                refine v_aload_n X 3 dX10_work_131 rfl rfl ?_
                refine gt_X10_stack X iwX10 (Std.lt hS rfl) (Std.k hS rfl rfl) (List.mem_cons_of_mem _ bw_6_0) dX10_work_132 23 (Std.r hS 5 rfl) ?_
                refine v_iload X 0 dX10_work_135 rfl ?_
                refine v_iconst X dX10_work_137 ?_
                refine v_isub X dX10_work_138 ?_
                refine v_iload X 2 dX10_work_139 rfl ?_
                refine v_aload_n X 3 dX10_work_141 rfl rfl ?_
                refine gt_X10_stack X iwX10 (Std.lt hS rfl) (Std.k hS rfl rfl) (List.mem_cons_of_mem _ bw_6_0) dX10_work_142 23 (Std.r hS 5 rfl) ?_
                refine v_iload X 0 dX10_work_145 rfl ?_
                refine v_iconst X dX10_work_147 ?_
                refine v_isub X dX10_work_148 ?_
                refine v_iald X (g ((tp + (-1)) - 1)) (Std.lt hS rfl) (Std.at hS rfl rfl) (by omega) (by omega) dX10_work_149 rfl (fun hr38 => ?_)
                refine v_aload_n X 3 dX10_work_150 rfl rfl ?_
                refine gt_X10_stack X iwX10 (Std.lt hS rfl) (Std.k hS rfl rfl) (List.mem_cons_of_mem _ bw_6_0) dX10_work_151 23 (Std.r hS 5 rfl) ?_
                refine v_iload X 0 dX10_work_154 rfl ?_
                refine v_iald X (g (tp + (-1))) (Std.lt hS rfl) (Std.at hS rfl rfl) (by omega) (by omega) dX10_work_156 rfl (fun hr39 => ?_)
                refine v_callS X [.int (iz (kdI (M 22 i))), .int (iz (g ((tp + (-1)) - 1))), .int (iz (g (tp + (-1))))] hRm (c_X10_join _ _ _ (kdI (M 22 i)) (g ((tp + (-1)) - 1)) (g (tp + (-1))) ⟨by omega, by omega⟩ ⟨by omega, by omega⟩ ⟨by omega, by omega⟩) (gS bw_37_17 bw_37_18 bw_2_10 bw_37_19) rfl ddX10_join (by decide) (Nat.le_of_ble_eq_true rfl) dX10_work_157 (k_pI (fun r40 hr41 e42 => ?_))
                refine v_iast X (Std.lt hS rfl) (Std.at hS rfl rfl) (by omega) (by omega) ⟨by omega, by omega⟩ dX10_work_160 ?_
                refine v_iinc X 7 [(5, .int (iz (i + 1))), (4, .int (iz (tp + (-1)))), (7, .int (iz ((kdI (M 22 i)) - 6))), (6, .int (iz (kdI (M 22 i)))), (0, .ref (ad 17)), (1, .int (iz f)), (2, .int (iz e)), (3, .ref (ad 32))] dX10_work_161 rfl (by decide) rfl ?_
                refine v_goto X 10 dX10_work_164 (by decide) ?_
                refine v_lv [4, 5, 6, 7, 1, 0] rfl ?_
                refine v_mem (M' := (mrow M 23 (fun b => if b = ((tp + (-1)) - 1) then r40 else g b))) (by simp only [mu_mrow]) rfl rfl ?_
                exact ih4 (tp + (-1)) (i + 1) (j + 1) (fun b => if b = ((tp + (-1)) - 1) then r40 else g b) (by omega) (by omega) (by subst ei; rw [cRun_s, hst]; unfold cStep; rw [hst] at ht; rw [if_neg (by simp only [List.length_cons] at ht ⊢; omega), if_neg (by simp only [List.length_cons] at ht ⊢; omega)]; show _ = ((joinC _ _ _ :: t9).length : Int); simp only [List.length_cons] at ht ⊢; omega) (by omega) (by subst ei; rw [cRun_s, hst]; unfold cStep; rw [hst] at ht; rw [if_neg (by simp only [List.length_cons] at ht ⊢; omega), if_neg (by simp only [List.length_cons] at ht ⊢; omega)]; rw [hst] at hrep; rw [e42, hb9, ha9]; exact rep_bin hrep (by simp only [List.length_cons] at ht; omega)) (by omega)
            · skip
              refine v_iload X 0 dX10_work_84 rfl ?_
              refine v_bipush X dX10_work_86 (by decide) ?_
              refine v_icmp_ge X 122 dX10_work_88 (by decide) ⟨by omega, by omega⟩ ⟨by decide, by decide⟩ (fun u43 => ?_) (fun u43 => ?_)
              · skip
                refine v_iload X 6 dX10_work_122 rfl ?_
                refine v_iconst X dX10_work_124 ?_
                refine v_icmp_lt X 161 dX10_work_125 (by decide) ⟨by omega, by omega⟩ ⟨by decide, by decide⟩ (fun u44 => ?_) (fun u44 => ?_)
                · skip
                  refine v_iinc X 7 [(5, .int (iz (i + 1))), (7, .int (iz ((kdI (M 22 i)) - 6))), (6, .int (iz (kdI (M 22 i)))), (0, .ref (ad 17)), (1, .int (iz f)), (2, .int (iz e)), (3, .ref (ad 32)), (4, .int (iz tp))] dX10_work_161 rfl (by decide) rfl ?_
                  refine v_goto X 10 dX10_work_164 (by decide) ?_
                  refine v_lv [3, 4, 5, 6, 7, 0] rfl ?_
                  refine v_mem (M' := (mrow M 23 g)) (by rfl) rfl rfl ?_
                  exact ih4 tp (i + 1) (j + 1) g (by omega) (by omega) (by subst ei; rw [cRun_s]; unfold cStep; rw [if_neg (by omega), if_neg (by omega), short_of (by omega)]; exact ht) (by omega) (by subst ei; rw [cRun_s]; unfold cStep; rw [if_neg (by omega), if_neg (by omega), short_of (by omega)]; exact hrep) (by omega)
                · skip
                  obtain ⟨b9, a9, t9, hst⟩ := two_of (st := (cRun (M 22) (M 32) f j)) (by omega)
                  have hl9 : tp = (t9.length : Int) + 2 := by rw [hst] at ht; simp only [List.length_cons] at ht; omega
                  have hb9 : g (tp + -1) = b9 := by rw [hst] at hrep; exact rep_b hrep (by omega)
                  have ha9 : g (tp + -1 - 1) = a9 := by rw [hst] at hrep; exact rep_a hrep (by omega)
                  refine v_iinc X 6 [(4, .int (iz (tp + (-1)))), (7, .int (iz ((kdI (M 22 i)) - 6))), (6, .int (iz (kdI (M 22 i)))), (0, .ref (ad 17)), (1, .int (iz f)), (2, .int (iz e)), (3, .ref (ad 32)), (5, .int (iz i))] dX10_work_128 rfl (by decide) rfl ?_
                  refine v_aload_n X 3 dX10_work_131 rfl rfl ?_
                  refine gt_X10_stack X iwX10 (Std.lt hS rfl) (Std.k hS rfl rfl) (List.mem_cons_of_mem _ bw_6_0) dX10_work_132 23 (Std.r hS 5 rfl) ?_
                  refine v_iload X 0 dX10_work_135 rfl ?_
                  refine v_iconst X dX10_work_137 ?_
                  refine v_isub X dX10_work_138 ?_
                  refine v_iload X 2 dX10_work_139 rfl ?_
                  refine v_aload_n X 3 dX10_work_141 rfl rfl ?_
                  refine gt_X10_stack X iwX10 (Std.lt hS rfl) (Std.k hS rfl rfl) (List.mem_cons_of_mem _ bw_6_0) dX10_work_142 23 (Std.r hS 5 rfl) ?_
                  refine v_iload X 0 dX10_work_145 rfl ?_
                  refine v_iconst X dX10_work_147 ?_
                  refine v_isub X dX10_work_148 ?_
                  refine v_iald X (g ((tp + (-1)) - 1)) (Std.lt hS rfl) (Std.at hS rfl rfl) (by omega) (by omega) dX10_work_149 rfl (fun hr45 => ?_)
                  refine v_aload_n X 3 dX10_work_150 rfl rfl ?_
                  refine gt_X10_stack X iwX10 (Std.lt hS rfl) (Std.k hS rfl rfl) (List.mem_cons_of_mem _ bw_6_0) dX10_work_151 23 (Std.r hS 5 rfl) ?_
                  refine v_iload X 0 dX10_work_154 rfl ?_
                  refine v_iald X (g (tp + (-1))) (Std.lt hS rfl) (Std.at hS rfl rfl) (by omega) (by omega) dX10_work_156 rfl (fun hr46 => ?_)
                  refine v_callS X [.int (iz (kdI (M 22 i))), .int (iz (g ((tp + (-1)) - 1))), .int (iz (g (tp + (-1))))] hRm (c_X10_join _ _ _ (kdI (M 22 i)) (g ((tp + (-1)) - 1)) (g (tp + (-1))) ⟨by omega, by omega⟩ ⟨by omega, by omega⟩ ⟨by omega, by omega⟩) (gS bw_37_17 bw_37_18 bw_2_10 bw_37_19) rfl ddX10_join (by decide) (Nat.le_of_ble_eq_true rfl) dX10_work_157 (k_pI (fun r47 hr48 e49 => ?_))
                  refine v_iast X (Std.lt hS rfl) (Std.at hS rfl rfl) (by omega) (by omega) ⟨by omega, by omega⟩ dX10_work_160 ?_
                  refine v_iinc X 7 [(5, .int (iz (i + 1))), (4, .int (iz (tp + (-1)))), (7, .int (iz ((kdI (M 22 i)) - 6))), (6, .int (iz (kdI (M 22 i)))), (0, .ref (ad 17)), (1, .int (iz f)), (2, .int (iz e)), (3, .ref (ad 32))] dX10_work_161 rfl (by decide) rfl ?_
                  refine v_goto X 10 dX10_work_164 (by decide) ?_
                  refine v_lv [4, 5, 6, 7, 1, 0] rfl ?_
                  refine v_mem (M' := (mrow M 23 (fun b => if b = ((tp + (-1)) - 1) then r47 else g b))) (by simp only [mu_mrow]) rfl rfl ?_
                  exact ih4 (tp + (-1)) (i + 1) (j + 1) (fun b => if b = ((tp + (-1)) - 1) then r47 else g b) (by omega) (by omega) (by subst ei; rw [cRun_s, hst]; unfold cStep; rw [hst] at ht; rw [if_neg (by simp only [List.length_cons] at ht ⊢; omega), if_neg (by simp only [List.length_cons] at ht ⊢; omega)]; show _ = ((joinC _ _ _ :: t9).length : Int); simp only [List.length_cons] at ht ⊢; omega) (by omega) (by subst ei; rw [cRun_s, hst]; unfold cStep; rw [hst] at ht; rw [if_neg (by simp only [List.length_cons] at ht ⊢; omega), if_neg (by simp only [List.length_cons] at ht ⊢; omega)]; rw [hst] at hrep; rw [e49, hb9, ha9]; exact rep_bin hrep (by simp only [List.length_cons] at ht; omega)) (by omega)
              · skip
                refine v_iload X 0 dX10_work_91 rfl ?_
                refine v_aload_n X 5 dX10_work_93 rfl rfl ?_
                refine v_alenI X (Std.lt hS rfl) (Std.at hS rfl rfl) dX10_work_94 ?_
                refine v_icmp_ge X 122 dX10_work_95 (by decide) ⟨by omega, by omega⟩ ⟨by decide, by decide⟩ (fun q => absurd q (by omega)) (fun u50 => ?_)
                refine v_iload X 6 dX10_work_98 rfl ?_
                refine v_bipush X dX10_work_100 (by decide) ?_
                refine v_icmp_ge X 122 dX10_work_102 (by decide) ⟨by omega, by omega⟩ ⟨by decide, by decide⟩ (fun u51 => ?_) (fun u51 => ?_)
                · skip
                  refine v_iload X 6 dX10_work_122 rfl ?_
                  refine v_iconst X dX10_work_124 ?_
                  refine v_icmp_lt X 161 dX10_work_125 (by decide) ⟨by omega, by omega⟩ ⟨by decide, by decide⟩ (fun u52 => ?_) (fun u52 => ?_)
                  · skip
                    refine v_iinc X 7 [(5, .int (iz (i + 1))), (7, .int (iz ((kdI (M 22 i)) - 6))), (6, .int (iz (kdI (M 22 i)))), (0, .ref (ad 17)), (1, .int (iz f)), (2, .int (iz e)), (3, .ref (ad 32)), (4, .int (iz tp))] dX10_work_161 rfl (by decide) rfl ?_
                    refine v_goto X 10 dX10_work_164 (by decide) ?_
                    refine v_lv [3, 4, 5, 6, 7, 0] rfl ?_
                    refine v_mem (M' := (mrow M 23 g)) (by rfl) rfl rfl ?_
                    exact ih4 tp (i + 1) (j + 1) g (by omega) (by omega) (by subst ei; rw [cRun_s]; unfold cStep; rw [if_neg (by omega), if_neg (by omega), short_of (by omega)]; exact ht) (by omega) (by subst ei; rw [cRun_s]; unfold cStep; rw [if_neg (by omega), if_neg (by omega), short_of (by omega)]; exact hrep) (by omega)
                  · skip
                    obtain ⟨b9, a9, t9, hst⟩ := two_of (st := (cRun (M 22) (M 32) f j)) (by omega)
                    have hl9 : tp = (t9.length : Int) + 2 := by rw [hst] at ht; simp only [List.length_cons] at ht; omega
                    have hb9 : g (tp + -1) = b9 := by rw [hst] at hrep; exact rep_b hrep (by omega)
                    have ha9 : g (tp + -1 - 1) = a9 := by rw [hst] at hrep; exact rep_a hrep (by omega)
                    refine v_iinc X 6 [(4, .int (iz (tp + (-1)))), (7, .int (iz ((kdI (M 22 i)) - 6))), (6, .int (iz (kdI (M 22 i)))), (0, .ref (ad 17)), (1, .int (iz f)), (2, .int (iz e)), (3, .ref (ad 32)), (5, .int (iz i))] dX10_work_128 rfl (by decide) rfl ?_
                    refine v_aload_n X 3 dX10_work_131 rfl rfl ?_
                    refine gt_X10_stack X iwX10 (Std.lt hS rfl) (Std.k hS rfl rfl) (List.mem_cons_of_mem _ bw_6_0) dX10_work_132 23 (Std.r hS 5 rfl) ?_
                    refine v_iload X 0 dX10_work_135 rfl ?_
                    refine v_iconst X dX10_work_137 ?_
                    refine v_isub X dX10_work_138 ?_
                    refine v_iload X 2 dX10_work_139 rfl ?_
                    refine v_aload_n X 3 dX10_work_141 rfl rfl ?_
                    refine gt_X10_stack X iwX10 (Std.lt hS rfl) (Std.k hS rfl rfl) (List.mem_cons_of_mem _ bw_6_0) dX10_work_142 23 (Std.r hS 5 rfl) ?_
                    refine v_iload X 0 dX10_work_145 rfl ?_
                    refine v_iconst X dX10_work_147 ?_
                    refine v_isub X dX10_work_148 ?_
                    refine v_iald X (g ((tp + (-1)) - 1)) (Std.lt hS rfl) (Std.at hS rfl rfl) (by omega) (by omega) dX10_work_149 rfl (fun hr53 => ?_)
                    refine v_aload_n X 3 dX10_work_150 rfl rfl ?_
                    refine gt_X10_stack X iwX10 (Std.lt hS rfl) (Std.k hS rfl rfl) (List.mem_cons_of_mem _ bw_6_0) dX10_work_151 23 (Std.r hS 5 rfl) ?_
                    refine v_iload X 0 dX10_work_154 rfl ?_
                    refine v_iald X (g (tp + (-1))) (Std.lt hS rfl) (Std.at hS rfl rfl) (by omega) (by omega) dX10_work_156 rfl (fun hr54 => ?_)
                    refine v_callS X [.int (iz (kdI (M 22 i))), .int (iz (g ((tp + (-1)) - 1))), .int (iz (g (tp + (-1))))] hRm (c_X10_join _ _ _ (kdI (M 22 i)) (g ((tp + (-1)) - 1)) (g (tp + (-1))) ⟨by omega, by omega⟩ ⟨by omega, by omega⟩ ⟨by omega, by omega⟩) (gS bw_37_17 bw_37_18 bw_2_10 bw_37_19) rfl ddX10_join (by decide) (Nat.le_of_ble_eq_true rfl) dX10_work_157 (k_pI (fun r55 hr56 e57 => ?_))
                    refine v_iast X (Std.lt hS rfl) (Std.at hS rfl rfl) (by omega) (by omega) ⟨by omega, by omega⟩ dX10_work_160 ?_
                    refine v_iinc X 7 [(5, .int (iz (i + 1))), (4, .int (iz (tp + (-1)))), (7, .int (iz ((kdI (M 22 i)) - 6))), (6, .int (iz (kdI (M 22 i)))), (0, .ref (ad 17)), (1, .int (iz f)), (2, .int (iz e)), (3, .ref (ad 32))] dX10_work_161 rfl (by decide) rfl ?_
                    refine v_goto X 10 dX10_work_164 (by decide) ?_
                    refine v_lv [4, 5, 6, 7, 1, 0] rfl ?_
                    refine v_mem (M' := (mrow M 23 (fun b => if b = ((tp + (-1)) - 1) then r55 else g b))) (by simp only [mu_mrow]) rfl rfl ?_
                    exact ih4 (tp + (-1)) (i + 1) (j + 1) (fun b => if b = ((tp + (-1)) - 1) then r55 else g b) (by omega) (by omega) (by subst ei; rw [cRun_s, hst]; unfold cStep; rw [hst] at ht; rw [if_neg (by simp only [List.length_cons] at ht ⊢; omega), if_neg (by simp only [List.length_cons] at ht ⊢; omega)]; show _ = ((joinC _ _ _ :: t9).length : Int); simp only [List.length_cons] at ht ⊢; omega) (by omega) (by subst ei; rw [cRun_s, hst]; unfold cStep; rw [hst] at ht; rw [if_neg (by simp only [List.length_cons] at ht ⊢; omega), if_neg (by simp only [List.length_cons] at ht ⊢; omega)]; rw [hst] at hrep; rw [e57, hb9, ha9]; exact rep_bin hrep (by simp only [List.length_cons] at ht; omega)) (by omega)
                · skip
                  refine v_aload_n X 2 dX10_work_105 rfl rfl ?_
                  refine gt_X10_stack X iwX10 (Std.lt hS rfl) (Std.k hS rfl rfl) (List.mem_cons_of_mem _ bw_6_0) dX10_work_106 23 (Std.r hS 5 rfl) ?_
                  refine v_iload X 6 dX10_work_109 rfl ?_
                  refine v_aload_n X 5 dX10_work_111 rfl rfl ?_
                  refine v_iload X 0 dX10_work_112 rfl ?_
                  refine v_iald X (M 32 ((kdI (M 22 i)) - 6)) (Std.lt hS rfl) (Std.at hS rfl rfl) (by omega) (by omega) dX10_work_114 rfl (fun hr58 => ?_)
                  refine v_iast X (Std.lt hS rfl) (Std.at hS rfl rfl) (by omega) (by omega) ⟨by omega, by omega⟩ dX10_work_115 ?_
                  refine v_iinc X 6 [(4, .int (iz (tp + 1))), (7, .int (iz ((kdI (M 22 i)) - 6))), (6, .int (iz (kdI (M 22 i)))), (0, .ref (ad 17)), (1, .int (iz f)), (2, .int (iz e)), (3, .ref (ad 32)), (5, .int (iz i))] dX10_work_116 rfl (by decide) rfl ?_
                  refine v_goto X 161 dX10_work_119 (by decide) ?_
                  refine v_iinc X 7 [(5, .int (iz (i + 1))), (4, .int (iz (tp + 1))), (7, .int (iz ((kdI (M 22 i)) - 6))), (6, .int (iz (kdI (M 22 i)))), (0, .ref (ad 17)), (1, .int (iz f)), (2, .int (iz e)), (3, .ref (ad 32))] dX10_work_161 rfl (by decide) rfl ?_
                  refine v_goto X 10 dX10_work_164 (by decide) ?_
                  refine v_lv [4, 5, 6, 7, 1, 0] rfl ?_
                  refine v_mem (M' := (mrow M 23 (fun b => if b = tp then (M 32 ((kdI (M 22 i)) - 6)) else g b))) (by simp only [mu_mrow]) rfl rfl ?_
                  exact ih4 (tp + 1) (i + 1) (j + 1) (fun b => if b = tp then (M 32 ((kdI (M 22 i)) - 6)) else g b) (by omega) (by omega) (by subst ei; rw [cRun_s]; unfold cStep; rw [if_neg (by omega), if_pos (by omega)]; simp only [List.length_cons]; omega) (by omega) (by subst ei; rw [cRun_s]; unfold cStep; rw [if_neg (by omega), if_pos (by omega)]; exact rep_push hrep ht) (by omega)
          · skip
            refine v_aload_n X 2 dX10_work_57 rfl rfl ?_
            refine gt_X10_stack X iwX10 (Std.lt hS rfl) (Std.k hS rfl rfl) (List.mem_cons_of_mem _ bw_6_0) dX10_work_58 23 (Std.r hS 5 rfl) ?_
            refine v_iload X 6 dX10_work_61 rfl ?_
            refine v_aload_n X 2 dX10_work_63 rfl rfl ?_
            refine gt_X10_code X iwX10 (Std.lt hS rfl) (Std.k hS rfl rfl) (List.mem_cons_of_mem _ bw_5_23) dX10_work_64 22 (Std.r hS 4 rfl) ?_
            refine v_iload X 7 dX10_work_67 rfl ?_
            refine v_iald X (M 22 i) (Std.lt hS rfl) (Std.at hS rfl rfl) (by omega) (by omega) dX10_work_69 rfl (fun hr59 => ?_)
            refine v_iconst X dX10_work_70 ?_
            refine v_ishr X (vlI (M 22 i)) dX10_work_71 (iz_self _).symm ?_
            have hv9 : inR (vlI (M 22 i)) := iz_rng _
            refine v_iast X (Std.lt hS rfl) (Std.at hS rfl rfl) (by omega) (by omega) ⟨by omega, by omega⟩ dX10_work_72 ?_
            refine v_iinc X 6 [(4, .int (iz (tp + 1))), (7, .int (iz ((kdI (M 22 i)) - 6))), (6, .int (iz (kdI (M 22 i)))), (0, .ref (ad 17)), (1, .int (iz f)), (2, .int (iz e)), (3, .ref (ad 32)), (5, .int (iz i))] dX10_work_73 rfl (by decide) rfl ?_
            refine v_goto X 161 dX10_work_76 (by decide) ?_
            refine v_iinc X 7 [(5, .int (iz (i + 1))), (4, .int (iz (tp + 1))), (7, .int (iz ((kdI (M 22 i)) - 6))), (6, .int (iz (kdI (M 22 i)))), (0, .ref (ad 17)), (1, .int (iz f)), (2, .int (iz e)), (3, .ref (ad 32))] dX10_work_161 rfl (by decide) rfl ?_
            refine v_goto X 10 dX10_work_164 (by decide) ?_
            refine v_lv [4, 5, 6, 7, 1, 0] rfl ?_
            refine v_mem (M' := (mrow M 23 (fun b => if b = tp then (vlI (M 22 i)) else g b))) (by simp only [mu_mrow]) rfl rfl ?_
            exact ih4 (tp + 1) (i + 1) (j + 1) (fun b => if b = tp then (vlI (M 22 i)) else g b) (by omega) (by omega) (by subst ei; rw [cRun_s]; unfold cStep; rw [if_pos (by omega)]; simp only [List.length_cons]; omega) (by omega) (by subst ei; rw [cRun_s]; unfold cStep; rw [if_pos (by omega)]; exact rep_push hrep ht) (by omega)
  refine v_lv [2, 3, 4, 5, 1, 0] rfl ?_
  refine v_mem (M' := (mrow M 23 (M 23))) (by exact (mrow_self M 23).symm) rfl rfl ?_
  exact hl3 _ 0 x1 0 (M 23) (by omega) (by omega) (rfl) (by omega) (trivial) (Nat.lt_succ_self _)

-- Text.firstThatHolds
set_option maxHeartbeats 4000000 in
set_option maxRecDepth 100000 in
theorem c_X10_firstThatHolds_17 (l : Launch) (D : va_G) (cy : Nat → ClassId) {N : Nat} {sh : MS} {ad : Nat → Nat} {M L : MI} {R : MR} (hS : Std N sh R) (k : Int) (hk : inR k) (hz : 0 ≤ M 17 7 ∧ M 17 7 ≤ 16) (hW : ∀ r : Int, 0 ≤ r → r < M 17 7 → (0 ≤ M 19 r ∧ M 19 r ≤ M 20 r ∧ M 20 r ≤ M 21 r ∧ M 21 r ≤ 400) ∧ (M 20 r ≠ M 21 r → cRun (M 22) (M 32) (M 20 r) (M 21 r - M 20 r).toNat ≠ []) ∧ (M 18 r ≠ 0 → cRun (M 22) (M 32) (M 19 r) (M 20 r - M 19 r).toNat ≠ [])) : Ctr l D cy yX10_firstThatHolds wsX10_firstThatHolds ({ frames := 2, cells := 0, slots := 0, locals := 49 } : Room) N sh ad M L R [.ref (ad 17), .int (iz k), .ref (ad 32)] (eI N sh ad L R (fun r M' => r = firstN (fun r => decide (M 18 r = k) && (decide (M 20 r = M 21 r) || decide (cVal (M 22) (M 32) (M 20 r) (M 21 r) ≠ 0))) (M 17 7).toNat ∧ ∃ g : Int → Int, M' = mrow M 23 g)) := by
  refine Ctr.ofI (by decide) rfl (Nat.le_of_ble_eq_true rfl) ?_
  intro K hKl hKd hRm hnm X hret
  have X : VX K cX10_firstThatHolds 5 wsX10_firstThatHolds RX10 := X
  show V K 5 0 0 N sh ad M L R [(0, .ref (ad 17)), (1, .int (iz k)), (2, .ref (ad 32))] [] 0
  refine v_iconst X dX10_firstThatHolds_0 ?_
  refine v_istore_n X [(3, .int (iz 0)), (0, .ref (ad 17)), (1, .int (iz k)), (2, .ref (ad 32))] dX10_firstThatHolds_1 rfl (by decide) rfl ?_
  have hl1 : ∀ (n3 : Nat) (i : Int) (j : Nat) (g : Int → Int), (i = (j : Int)) → (i ≤ M 17 7) → (firstN (fun r => decide (M 18 r = k) && (decide (M 20 r = M 21 r) || decide (cVal (M 22) (M 32) (M 20 r) (M 21 r) ≠ 0))) j = -1) → (16 - i).toNat < n3 → V K 5 0 0 N sh ad (mrow M 23 g) L R [(0, .ref (ad 17)), (1, .int (iz k)), (2, .ref (ad 32)), (3, .int (iz i))] [] 2 := by
    intro n3
    induction n3 with
    | zero => intro i j g ei hi hno hn4; exact absurd hn4 (Nat.not_lt_zero _)
    | succ n3 ih2 =>
      intro i j g ei hi hno hn4
      refine v_iload_n X 3 dX10_firstThatHolds_2 rfl rfl ?_
      refine v_aload_n X 0 dX10_firstThatHolds_3 rfl rfl ?_
      refine gt_X10_size X iwX10 (Std.lt hS rfl) (Std.k hS rfl rfl) (List.mem_cons_of_mem _ bw_6_2) dX10_firstThatHolds_4 (M 17 7) rfl (fun hr5 => ?_)
      refine v_icmp_ge X 81 dX10_firstThatHolds_7 (by decide) ⟨by omega, by omega⟩ ⟨by omega, by omega⟩ (fun u6 => ?_) (fun u6 => ?_)
      · skip
        refine v_iconst X dX10_firstThatHolds_81 ?_
        refine hret _ _ _ _ _ _ _ _ _ _ _ (some (.int (iz (-1)))) dX10_firstThatHolds_82 ⟨rfl, _, rfl⟩ (by decide) (by decide) (fun hmok => ?_)
        refine ⟨rfl, rfl, rfl, rfl, rfl, (-1), rfl, ⟨by decide, by decide⟩, ?_⟩
        try dsimp only
        refine ⟨?_, ⟨_, rfl⟩⟩
        rw [show (M 17 7).toNat = j by omega, hno]
      · skip
        refine v_iload_n X 3 dX10_firstThatHolds_10 rfl rfl ?_
        refine v_bipush X dX10_firstThatHolds_11 (by decide) ?_
        refine v_icmp_ge X 81 dX10_firstThatHolds_13 (by decide) ⟨by omega, by omega⟩ ⟨by decide, by decide⟩ (fun q => absurd q (by omega)) (fun u7 => ?_)
        refine v_aload_n X 0 dX10_firstThatHolds_16 rfl rfl ?_
        refine gt_X10_kinds X iwX10 (Std.lt hS rfl) (Std.k hS rfl rfl) (List.mem_cons_of_mem _ bw_5_19) dX10_firstThatHolds_17 18 (Std.r hS 0 rfl) ?_
        refine v_iload_n X 3 dX10_firstThatHolds_20 rfl rfl ?_
        refine v_iald X (M 18 i) (Std.lt hS rfl) (Std.at hS rfl rfl) (by omega) (by omega) dX10_firstThatHolds_21 rfl (fun hr8 => ?_)
        refine v_iload_n X 1 dX10_firstThatHolds_22 rfl rfl ?_
        refine v_icmp_ne X 75 dX10_firstThatHolds_23 (by decide) ⟨by omega, by omega⟩ ⟨by omega, by omega⟩ (fun u9 => ?_) (fun u9 => ?_)
        · skip
          refine v_iinc X 3 [(3, .int (iz (i + 1))), (0, .ref (ad 17)), (1, .int (iz k)), (2, .ref (ad 32))] dX10_firstThatHolds_75 rfl (by decide) rfl ?_
          refine v_goto X 2 dX10_firstThatHolds_78 (by decide) ?_
          refine v_lv [1, 2, 3, 0] rfl ?_
          refine v_mem (M' := (mrow M 23 g)) (by rfl) rfl rfl ?_
          exact ih2 (i + 1) (j + 1) g (by omega) (by omega) (by subst ei; exact firstN_miss hno (by simp only [Bool.and_eq_false_iff, Bool.or_eq_false_iff, decide_eq_false_iff_not]; exact Or.inl (by omega))) (by omega)
        · skip
          refine v_aload_n X 0 dX10_firstThatHolds_26 rfl rfl ?_
          refine gt_X10_conditions X iwX10 (Std.lt hS rfl) (Std.k hS rfl rfl) (List.mem_cons_of_mem _ bw_5_21) dX10_firstThatHolds_27 20 (Std.r hS 2 rfl) ?_
          refine v_iload_n X 3 dX10_firstThatHolds_30 rfl rfl ?_
          refine v_iald X (M 20 i) (Std.lt hS rfl) (Std.at hS rfl rfl) (by omega) (by omega) dX10_firstThatHolds_31 rfl (fun hr10 => ?_)
          refine v_aload_n X 0 dX10_firstThatHolds_32 rfl rfl ?_
          refine gt_X10_ends X iwX10 (Std.lt hS rfl) (Std.k hS rfl rfl) (List.mem_cons_of_mem _ bw_5_22) dX10_firstThatHolds_33 21 (Std.r hS 3 rfl) ?_
          refine v_iload_n X 3 dX10_firstThatHolds_36 rfl rfl ?_
          refine v_iald X (M 21 i) (Std.lt hS rfl) (Std.at hS rfl rfl) (by omega) (by omega) dX10_firstThatHolds_37 rfl (fun hr11 => ?_)
          refine v_icmp_ne X 45 dX10_firstThatHolds_38 (by decide) ⟨by omega, by omega⟩ ⟨by omega, by omega⟩ (fun u12 => ?_) (fun u12 => ?_)
          · skip
            refine v_iconst X dX10_firstThatHolds_45 ?_
            refine v_istore X [(4, .int (iz 0)), (0, .ref (ad 17)), (1, .int (iz k)), (2, .ref (ad 32)), (3, .int (iz i))] dX10_firstThatHolds_46 (by decide) rfl ?_
            refine v_iload X 0 dX10_firstThatHolds_48 rfl ?_
            refine v_if_ne X 73 dX10_firstThatHolds_50 (by decide) ⟨by decide, by decide⟩ (fun q => absurd q (by decide)) (fun _ => ?_)
            have hW9 := (hW i (by omega) (by omega)).1
            refine v_aload_n X 1 dX10_firstThatHolds_53 rfl rfl ?_
            refine v_aload_n X 1 dX10_firstThatHolds_54 rfl rfl ?_
            refine gt_X10_conditions X iwX10 (Std.lt hS rfl) (Std.k hS rfl rfl) (List.mem_cons_of_mem _ bw_5_21) dX10_firstThatHolds_55 20 (Std.r hS 2 rfl) ?_
            refine v_iload_n X 4 dX10_firstThatHolds_58 rfl rfl ?_
            refine v_iald X (M 20 i) (Std.lt hS rfl) (Std.at hS rfl rfl) (by omega) (by omega) dX10_firstThatHolds_59 rfl (fun hr13 => ?_)
            refine v_aload_n X 1 dX10_firstThatHolds_60 rfl rfl ?_
            refine gt_X10_ends X iwX10 (Std.lt hS rfl) (Std.k hS rfl rfl) (List.mem_cons_of_mem _ bw_5_22) dX10_firstThatHolds_61 21 (Std.r hS 3 rfl) ?_
            refine v_iload_n X 4 dX10_firstThatHolds_64 rfl rfl ?_
            refine v_iald X (M 21 i) (Std.lt hS rfl) (Std.at hS rfl rfl) (by omega) (by omega) dX10_firstThatHolds_65 rfl (fun hr14 => ?_)
            refine v_aload_n X 3 dX10_firstThatHolds_66 rfl rfl ?_
            refine v_callV X [.int (iz (M 20 i)), .int (iz (M 21 i)), .ref (ad 32)] hRm (c_X10_work_17 _ _ _ hS (M 20 i) (M 21 i) (by omega) (by omega)) (gV bw_37_12 bw_37_13 bw_37_14 bw_2_10 bw_37_15) rfl ddX10_work (by decide) (Std.lt hS rfl) (Std.k hS rfl rfl) ⟨rfl, by decide⟩ (Nat.le_of_ble_eq_true rfl) dX10_firstThatHolds_67 (k_eI (fun r15 M16 hr17 e18 => ?_))
            obtain ⟨g19, e18m, e18p, e18q⟩ := e18
            replace e18m : M16 = (mrow M 23 g19) := e18m.trans (by first | rfl | exact mrow_mrow _ _ _ _)
            subst e18m
            replace e18p : rep g19 (cRun (M 22) (M 32) (M 20 i) ((M 21 i) - (M 20 i)).toNat) := e18p
            refine v_if_eq X 75 dX10_firstThatHolds_70 (by decide) ⟨by omega, by omega⟩ (fun u20 => ?_) (fun u20 => ?_)
            · skip
              refine v_iinc X 4 [(3, .int (iz (i + 1))), (4, .int (iz 0)), (0, .ref (ad 17)), (1, .int (iz k)), (2, .ref (ad 32))] dX10_firstThatHolds_75 rfl (by decide) rfl ?_
              refine v_goto X 2 dX10_firstThatHolds_78 (by decide) ?_
              refine v_lv [2, 3, 4, 0] rfl ?_
              refine v_mem (M' := (mrow M 23 g19)) (by rfl) rfl rfl ?_
              exact ih2 (i + 1) (j + 1) g19 (by omega) (by omega) (by subst ei; exact firstN_miss hno (by simp only [Bool.and_eq_false_iff, Bool.or_eq_false_iff, decide_eq_false_iff_not]; exact Or.inr ⟨by omega, by unfold cVal; rw [← rep_last e18p ((hW (j : Int) (by omega) (by omega)).2.1 (by omega)), ← e18q]; omega⟩)) (by omega)
            · skip
              refine v_iload_n X 4 dX10_firstThatHolds_73 rfl rfl ?_
              refine hret _ _ _ _ _ _ _ _ _ _ _ (some (.int (iz i))) dX10_firstThatHolds_74 ⟨rfl, _, rfl⟩ (by decide) (by decide) (fun hmok => ?_)
              refine ⟨rfl, rfl, rfl, rfl, rfl, i, rfl, ⟨by omega, by omega⟩, ?_⟩
              try dsimp only
              refine ⟨?_, ⟨_, rfl⟩⟩
              subst ei
              rw [firstN_hit hno (by simp only [Bool.and_eq_true, Bool.or_eq_true, decide_eq_true_eq]; exact ⟨by omega, Or.inr (by unfold cVal; rw [← rep_last e18p ((hW (j : Int) (by omega) (by omega)).2.1 (by omega)), ← e18q]; omega)⟩) (by omega)]
          · skip
            refine v_iconst X dX10_firstThatHolds_41 ?_
            refine v_goto X 46 dX10_firstThatHolds_42 (by decide) ?_
            refine v_istore X [(4, .int (iz 1)), (0, .ref (ad 17)), (1, .int (iz k)), (2, .ref (ad 32)), (3, .int (iz i))] dX10_firstThatHolds_46 (by decide) rfl ?_
            refine v_iload X 0 dX10_firstThatHolds_48 rfl ?_
            refine v_if_ne X 73 dX10_firstThatHolds_50 (by decide) ⟨by decide, by decide⟩ (fun _ => ?_) (fun q => absurd (by decide) q)
            refine v_iload_n X 4 dX10_firstThatHolds_73 rfl rfl ?_
            refine hret _ _ _ _ _ _ _ _ _ _ _ (some (.int (iz i))) dX10_firstThatHolds_74 ⟨rfl, _, rfl⟩ (by decide) (by decide) (fun hmok => ?_)
            refine ⟨rfl, rfl, rfl, rfl, rfl, i, rfl, ⟨by omega, by omega⟩, ?_⟩
            try dsimp only
            refine ⟨?_, ⟨_, rfl⟩⟩
            subst ei
            rw [firstN_hit hno (by simp only [Bool.and_eq_true, Bool.or_eq_true, decide_eq_true_eq]; exact ⟨by omega, Or.inl (by omega)⟩) (by omega)]
  refine v_lv [1, 2, 3, 0] rfl ?_
  refine v_mem (M' := (mrow M 23 (M 23))) (by exact (mrow_self M 23).symm) rfl rfl ?_
  exact hl1 _ 0 0 (M 23) (by omega) (by omega) (rfl) (Nat.lt_succ_self _)

-- Text.amountOf
set_option maxHeartbeats 4000000 in
set_option maxRecDepth 100000 in
theorem c_X10_amountOf_17 (l : Launch) (D : va_G) (cy : Nat → ClassId) {N : Nat} {sh : MS} {ad : Nat → Nat} {M L : MI} {R : MR} (hS : Std N sh R) (q : Int) (hq : inR q) (hz : 0 ≤ M 17 7 ∧ M 17 7 ≤ 16) (hk0 : 0 ≤ q → q < M 17 7 → M 18 q ≠ 0) (hW : ∀ r : Int, 0 ≤ r → r < M 17 7 → (0 ≤ M 19 r ∧ M 19 r ≤ M 20 r ∧ M 20 r ≤ M 21 r ∧ M 21 r ≤ 400) ∧ (M 20 r ≠ M 21 r → cRun (M 22) (M 32) (M 20 r) (M 21 r - M 20 r).toNat ≠ []) ∧ (M 18 r ≠ 0 → cRun (M 22) (M 32) (M 19 r) (M 20 r - M 19 r).toNat ≠ [])) : Ctr l D cy yX10_amountOf wsX10_amountOf ({ frames := 2, cells := 0, slots := 0, locals := 49 } : Room) N sh ad M L R [.ref (ad 17), .int (iz q), .ref (ad 32)] (eI N sh ad L R (fun r M' => r = (if 0 ≤ q ∧ q < M 17 7 then max 0 (min 30 (cVal (M 22) (M 32) (M 19 q) (M 20 q))) else 0) ∧ ∃ g : Int → Int, M' = mrow M 23 g)) := by
  refine Ctr.ofI (by decide) rfl (Nat.le_of_ble_eq_true rfl) ?_
  intro K hKl hKd hRm hnm X hret
  have X : VX K cX10_amountOf 3 wsX10_amountOf RX10 := X
  show V K 3 0 0 N sh ad M L R [(0, .ref (ad 17)), (1, .int (iz q)), (2, .ref (ad 32))] [] 0
  refine v_iload_n X 1 dX10_amountOf_0 rfl rfl ?_
  refine v_if_lt X 18 dX10_amountOf_1 (by decide) ⟨by omega, by omega⟩ (fun u1 => ?_) (fun u1 => ?_)
  · skip
    refine v_iconst X dX10_amountOf_18 ?_
    refine hret _ _ _ _ _ _ _ _ _ _ _ (some (.int (iz 0))) dX10_amountOf_19 ⟨rfl, _, rfl⟩ (by decide) (by decide) (fun hmok => ?_)
    refine ⟨rfl, rfl, rfl, rfl, rfl, 0, rfl, ⟨by decide, by decide⟩, ?_⟩
    try dsimp only
    rw [if_neg (by omega)]
    exact ⟨rfl, M 23, (mrow_self M 23).symm⟩
  · skip
    refine v_iload_n X 1 dX10_amountOf_4 rfl rfl ?_
    refine v_aload_n X 0 dX10_amountOf_5 rfl rfl ?_
    refine gt_X10_size X iwX10 (Std.lt hS rfl) (Std.k hS rfl rfl) (List.mem_cons_of_mem _ bw_6_2) dX10_amountOf_6 (M 17 7) rfl (fun hr2 => ?_)
    refine v_icmp_ge X 18 dX10_amountOf_9 (by decide) ⟨by omega, by omega⟩ ⟨by omega, by omega⟩ (fun u3 => ?_) (fun u3 => ?_)
    · skip
      refine v_iconst X dX10_amountOf_18 ?_
      refine hret _ _ _ _ _ _ _ _ _ _ _ (some (.int (iz 0))) dX10_amountOf_19 ⟨rfl, _, rfl⟩ (by decide) (by decide) (fun hmok => ?_)
      refine ⟨rfl, rfl, rfl, rfl, rfl, 0, rfl, ⟨by decide, by decide⟩, ?_⟩
      try dsimp only
      rw [if_neg (by omega)]
      exact ⟨rfl, M 23, (mrow_self M 23).symm⟩
    · skip
      refine v_iload_n X 1 dX10_amountOf_12 rfl rfl ?_
      refine v_bipush X dX10_amountOf_13 (by decide) ?_
      refine v_icmp_lt X 20 dX10_amountOf_15 (by decide) ⟨by omega, by omega⟩ ⟨by decide, by decide⟩ (fun u4 => ?_) (fun u4 => ?_)
      · skip
        have hW9 := (hW q (by omega) (by omega)).1
        refine v_iconst X dX10_amountOf_20 ?_
        refine v_bipush X dX10_amountOf_21 (by decide) ?_
        refine v_aload_n X 0 dX10_amountOf_23 rfl rfl ?_
        refine v_aload_n X 0 dX10_amountOf_24 rfl rfl ?_
        refine gt_X10_starts X iwX10 (Std.lt hS rfl) (Std.k hS rfl rfl) (List.mem_cons_of_mem _ bw_5_20) dX10_amountOf_25 19 (Std.r hS 1 rfl) ?_
        refine v_iload_n X 1 dX10_amountOf_28 rfl rfl ?_
        refine v_iald X (M 19 q) (Std.lt hS rfl) (Std.at hS rfl rfl) (by omega) (by omega) dX10_amountOf_29 rfl (fun hr5 => ?_)
        refine v_aload_n X 0 dX10_amountOf_30 rfl rfl ?_
        refine gt_X10_conditions X iwX10 (Std.lt hS rfl) (Std.k hS rfl rfl) (List.mem_cons_of_mem _ bw_5_21) dX10_amountOf_31 20 (Std.r hS 2 rfl) ?_
        refine v_iload_n X 1 dX10_amountOf_34 rfl rfl ?_
        refine v_iald X (M 20 q) (Std.lt hS rfl) (Std.at hS rfl rfl) (by omega) (by omega) dX10_amountOf_35 rfl (fun hr6 => ?_)
        refine v_aload_n X 2 dX10_amountOf_36 rfl rfl ?_
        refine v_callV X [.int (iz (M 19 q)), .int (iz (M 20 q)), .ref (ad 32)] hRm (c_X10_work_17 _ _ _ hS (M 19 q) (M 20 q) (by omega) (by omega)) (gV bw_37_12 bw_37_13 bw_37_14 bw_2_10 bw_37_15) rfl ddX10_work (by decide) (Std.lt hS rfl) (Std.k hS rfl rfl) ⟨rfl, by decide⟩ (Nat.le_of_ble_eq_true rfl) dX10_amountOf_37 (k_eI (fun r7 M8 hr9 e10 => ?_))
        obtain ⟨g11, e10m, e10p, e10q⟩ := e10
        replace e10m : M8 = (mrow M 23 g11) := e10m.trans (by first | rfl | exact mrow_mrow _ _ _ _)
        subst e10m
        replace e10p : rep g11 (cRun (M 22) (M 32) (M 19 q) ((M 20 q) - (M 19 q)).toNat) := e10p
        obtain ⟨x12, u13⟩ : ∃ z : Int, z = min 30 r7 := ⟨_, rfl⟩
        refine v_min X x12 hRm (List.mem_cons_of_mem _ bw_38_0) (List.mem_cons_of_mem _ bw_32_4) (List.mem_cons_of_mem _ bw_18_8) (List.mem_cons_of_mem _ bw_32_5) ⟨Nat.le_of_ble_eq_true rfl, Nat.le_of_ble_eq_true rfl, Nat.le_of_ble_eq_true rfl, Nat.le_of_ble_eq_true rfl⟩ ⟨by decide, by decide⟩ ⟨by omega, by omega⟩ u13 dX10_amountOf_40 ?_
        obtain ⟨x14, u15⟩ : ∃ z : Int, z = max 0 x12 := ⟨_, rfl⟩
        refine v_max X x14 hRm (List.mem_cons_of_mem _ bw_37_16) (List.mem_cons_of_mem _ bw_18_7) (List.mem_cons_of_mem _ bw_18_8) (List.mem_cons_of_mem _ bw_18_9) ⟨Nat.le_of_ble_eq_true rfl, Nat.le_of_ble_eq_true rfl, Nat.le_of_ble_eq_true rfl, Nat.le_of_ble_eq_true rfl⟩ ⟨by decide, by decide⟩ ⟨by omega, by omega⟩ u15 dX10_amountOf_43 ?_
        refine hret _ _ _ _ _ _ _ _ _ _ _ (some (.int (iz x14))) dX10_amountOf_46 ⟨rfl, _, rfl⟩ (by decide) (by decide) (fun hmok => ?_)
        refine ⟨rfl, rfl, rfl, rfl, rfl, x14, rfl, ⟨by omega, by omega⟩, ?_⟩
        try dsimp only
        rw [if_pos (by omega)]
        refine ⟨?_, ⟨_, rfl⟩⟩
        have hL := rep_last e10p ((hW q (by omega) (by omega)).2.2 (hk0 (by omega) (by omega)))
        unfold cVal
        rw [← hL, ← e10q]
        omega
      · skip
        refine v_iconst X dX10_amountOf_18 ?_
        refine hret _ _ _ _ _ _ _ _ _ _ _ (some (.int (iz 0))) dX10_amountOf_19 ⟨rfl, _, rfl⟩ (by decide) (by decide) (fun hmok => ?_)
        refine ⟨rfl, rfl, rfl, rfl, rfl, 0, rfl, ⟨by decide, by decide⟩, ?_⟩
        try dsimp only
        rw [if_neg (by omega)]
        exact ⟨rfl, M 23, (mrow_self M 23).symm⟩

-- Text.work
set_option maxHeartbeats 4000000 in
set_option maxRecDepth 100000 in
theorem c_X10_work_24 (l : Launch) (D : va_G) (cy : Nat → ClassId) {N : Nat} {sh : MS} {ad : Nat → Nat} {M L : MI} {R : MR} (hS : Std N sh R) (f e : Int) (hf : 0 ≤ f ∧ f ≤ e) (he : e ≤ 400) : Ctr l D cy yX10_work wsX10_work ({ frames := 1, cells := 0, slots := 0, locals := 22 } : Room) N sh ad M L R [.ref (ad 24), .int (iz f), .int (iz e), .ref (ad 32)] (eI N sh ad L R (fun r M' => ∃ g : Int → Int, M' = mrow M 30 g ∧ rep g (cRun (M 29) (M 32) f (e - f).toNat) ∧ r = g 0)) := by
  refine Ctr.ofI (by decide) rfl (Nat.le_of_ble_eq_true rfl) ?_
  intro K hKl hKd hRm hnm X hret
  have X : VX K cX10_work 8 wsX10_work RX10 := X
  show V K 8 0 0 N sh ad M L R [(0, .ref (ad 24)), (1, .int (iz f)), (2, .int (iz e)), (3, .ref (ad 32))] [] 0
  refine v_iconst X dX10_work_0 ?_
  refine v_istore X [(4, .int (iz 0)), (0, .ref (ad 24)), (1, .int (iz f)), (2, .int (iz e)), (3, .ref (ad 32))] dX10_work_1 (by decide) rfl ?_
  refine v_iconst X dX10_work_3 ?_
  refine v_iload_n X 2 dX10_work_4 rfl rfl ?_
  obtain ⟨x1, u2⟩ : ∃ z : Int, z = max 0 f := ⟨_, rfl⟩
  refine v_max X x1 hRm (List.mem_cons_of_mem _ bw_37_16) (List.mem_cons_of_mem _ bw_18_7) (List.mem_cons_of_mem _ bw_18_8) (List.mem_cons_of_mem _ bw_18_9) ⟨Nat.le_of_ble_eq_true rfl, Nat.le_of_ble_eq_true rfl, Nat.le_of_ble_eq_true rfl, Nat.le_of_ble_eq_true rfl⟩ ⟨by decide, by decide⟩ ⟨by omega, by omega⟩ u2 dX10_work_5 ?_
  refine v_istore X [(5, .int (iz x1)), (4, .int (iz 0)), (0, .ref (ad 24)), (1, .int (iz f)), (2, .int (iz e)), (3, .ref (ad 32))] dX10_work_8 (by decide) rfl ?_
  have hl3 : ∀ (n5 : Nat) (tp : Int) (i : Int) (j : Nat) (g : Int → Int), (i = f + (j : Int)) → (i ≤ e) → (tp = ((cRun (M 29) (M 32) f j).length : Int)) → (0 ≤ tp ∧ tp ≤ 32) → (rep g (cRun (M 29) (M 32) f j)) → (e - i).toNat < n5 → V K 8 0 0 N sh ad (mrow M 30 g) L R [(0, .ref (ad 24)), (1, .int (iz f)), (2, .int (iz e)), (3, .ref (ad 32)), (4, .int (iz tp)), (5, .int (iz i))] [] 10 := by
    intro n5
    induction n5 with
    | zero => intro tp i j g ei hi ht ht2 hrep hn6; exact absurd hn6 (Nat.not_lt_zero _)
    | succ n5 ih4 =>
      intro tp i j g ei hi ht ht2 hrep hn6
      have hk := kdI_in (M 29 i)
      refine v_iload X 5 dX10_work_10 rfl ?_
      refine v_iload_n X 2 dX10_work_12 rfl rfl ?_
      refine v_icmp_ge X 167 dX10_work_13 (by decide) ⟨by omega, by omega⟩ ⟨by omega, by omega⟩ (fun u7 => ?_) (fun u7 => ?_)
      · skip
        refine v_aload_n X 0 dX10_work_167 rfl rfl ?_
        refine gt_X10_stack X iwX10 (Std.lt hS rfl) (Std.k hS rfl rfl) (List.mem_cons_of_mem _ bw_6_0) dX10_work_168 30 (Std.r hS 5 rfl) ?_
        refine v_iconst X dX10_work_171 ?_
        refine v_iald X (g 0) (Std.lt hS rfl) (Std.at hS rfl rfl) (by omega) (by omega) dX10_work_172 rfl (fun hr8 => ?_)
        refine hret _ _ _ _ _ _ _ _ _ _ _ (some (.int (iz (g 0)))) dX10_work_173 ⟨rfl, _, rfl⟩ (by decide) (by decide) (fun hmok => ?_)
        refine ⟨rfl, rfl, rfl, rfl, rfl, (g 0), rfl, ⟨by omega, by omega⟩, ?_⟩
        try dsimp only
        rw [show (e - f).toNat = j by omega]
        exact ⟨g, rfl, hrep, rfl⟩
      · skip
        refine v_iload X 5 dX10_work_16 rfl ?_
        refine v_sipush X dX10_work_18 (by decide) ?_
        refine v_icmp_ge X 167 dX10_work_21 (by decide) ⟨by omega, by omega⟩ ⟨by decide, by decide⟩ (fun q => absurd q (by omega)) (fun u9 => ?_)
        refine v_aload_n X 0 dX10_work_24 rfl rfl ?_
        refine gt_X10_code X iwX10 (Std.lt hS rfl) (Std.k hS rfl rfl) (List.mem_cons_of_mem _ bw_5_23) dX10_work_25 29 (Std.r hS 4 rfl) ?_
        refine v_iload X 5 dX10_work_28 rfl ?_
        refine v_iald X (M 29 i) (Std.lt hS rfl) (Std.at hS rfl rfl) (by omega) (by omega) dX10_work_30 rfl (fun hr10 => ?_)
        refine v_bipush X dX10_work_31 (by decide) ?_
        refine v_iand X (kdI (M 29 i)) dX10_work_33 (iz_self _).symm ?_
        refine v_istore X [(6, .int (iz (kdI (M 29 i)))), (0, .ref (ad 24)), (1, .int (iz f)), (2, .int (iz e)), (3, .ref (ad 32)), (4, .int (iz tp)), (5, .int (iz i))] dX10_work_34 (by decide) rfl ?_
        refine v_iload X 0 dX10_work_36 rfl ?_
        refine v_bipush X dX10_work_38 (by decide) ?_
        refine v_isub X dX10_work_40 ?_
        refine v_istore X [(7, .int (iz ((kdI (M 29 i)) - 6))), (6, .int (iz (kdI (M 29 i)))), (0, .ref (ad 24)), (1, .int (iz f)), (2, .int (iz e)), (3, .ref (ad 32)), (4, .int (iz tp)), (5, .int (iz i))] dX10_work_41 (by decide) rfl ?_
        refine v_iload X 1 dX10_work_43 rfl ?_
        refine v_bipush X dX10_work_45 (by decide) ?_
        refine v_icmp_ne X 79 dX10_work_47 (by decide) ⟨by omega, by omega⟩ ⟨by decide, by decide⟩ (fun u11 => ?_) (fun u11 => ?_)
        · skip
          refine v_iload X 0 dX10_work_79 rfl ?_
          refine v_if_lt X 122 dX10_work_81 (by decide) ⟨by omega, by omega⟩ (fun u12 => ?_) (fun u12 => ?_)
          · skip
            refine v_iload X 6 dX10_work_122 rfl ?_
            refine v_iconst X dX10_work_124 ?_
            refine v_icmp_lt X 161 dX10_work_125 (by decide) ⟨by omega, by omega⟩ ⟨by decide, by decide⟩ (fun u13 => ?_) (fun u13 => ?_)
            · skip
              refine v_iinc X 7 [(5, .int (iz (i + 1))), (7, .int (iz ((kdI (M 29 i)) - 6))), (6, .int (iz (kdI (M 29 i)))), (0, .ref (ad 24)), (1, .int (iz f)), (2, .int (iz e)), (3, .ref (ad 32)), (4, .int (iz tp))] dX10_work_161 rfl (by decide) rfl ?_
              refine v_goto X 10 dX10_work_164 (by decide) ?_
              refine v_lv [3, 4, 5, 6, 7, 0] rfl ?_
              refine v_mem (M' := (mrow M 30 g)) (by rfl) rfl rfl ?_
              exact ih4 tp (i + 1) (j + 1) g (by omega) (by omega) (by subst ei; rw [cRun_s]; unfold cStep; rw [if_neg (by omega), if_neg (by omega), short_of (by omega)]; exact ht) (by omega) (by subst ei; rw [cRun_s]; unfold cStep; rw [if_neg (by omega), if_neg (by omega), short_of (by omega)]; exact hrep) (by omega)
            · skip
              obtain ⟨b9, a9, t9, hst⟩ := two_of (st := (cRun (M 29) (M 32) f j)) (by omega)
              have hl9 : tp = (t9.length : Int) + 2 := by rw [hst] at ht; simp only [List.length_cons] at ht; omega
              have hb9 : g (tp + -1) = b9 := by rw [hst] at hrep; exact rep_b hrep (by omega)
              have ha9 : g (tp + -1 - 1) = a9 := by rw [hst] at hrep; exact rep_a hrep (by omega)
              refine v_iinc X 6 [(4, .int (iz (tp + (-1)))), (7, .int (iz ((kdI (M 29 i)) - 6))), (6, .int (iz (kdI (M 29 i)))), (0, .ref (ad 24)), (1, .int (iz f)), (2, .int (iz e)), (3, .ref (ad 32)), (5, .int (iz i))] dX10_work_128 rfl (by decide) rfl ?_
              refine v_aload_n X 3 dX10_work_131 rfl rfl ?_
              refine gt_X10_stack X iwX10 (Std.lt hS rfl) (Std.k hS rfl rfl) (List.mem_cons_of_mem _ bw_6_0) dX10_work_132 30 (Std.r hS 5 rfl) ?_
              refine v_iload X 0 dX10_work_135 rfl ?_
              refine v_iconst X dX10_work_137 ?_
              refine v_isub X dX10_work_138 ?_
              refine v_iload X 2 dX10_work_139 rfl ?_
              refine v_aload_n X 3 dX10_work_141 rfl rfl ?_
              refine gt_X10_stack X iwX10 (Std.lt hS rfl) (Std.k hS rfl rfl) (List.mem_cons_of_mem _ bw_6_0) dX10_work_142 30 (Std.r hS 5 rfl) ?_
              refine v_iload X 0 dX10_work_145 rfl ?_
              refine v_iconst X dX10_work_147 ?_
              refine v_isub X dX10_work_148 ?_
              refine v_iald X (g ((tp + (-1)) - 1)) (Std.lt hS rfl) (Std.at hS rfl rfl) (by omega) (by omega) dX10_work_149 rfl (fun hr14 => ?_)
              refine v_aload_n X 3 dX10_work_150 rfl rfl ?_
              refine gt_X10_stack X iwX10 (Std.lt hS rfl) (Std.k hS rfl rfl) (List.mem_cons_of_mem _ bw_6_0) dX10_work_151 30 (Std.r hS 5 rfl) ?_
              refine v_iload X 0 dX10_work_154 rfl ?_
              refine v_iald X (g (tp + (-1))) (Std.lt hS rfl) (Std.at hS rfl rfl) (by omega) (by omega) dX10_work_156 rfl (fun hr15 => ?_)
              refine v_callS X [.int (iz (kdI (M 29 i))), .int (iz (g ((tp + (-1)) - 1))), .int (iz (g (tp + (-1))))] hRm (c_X10_join _ _ _ (kdI (M 29 i)) (g ((tp + (-1)) - 1)) (g (tp + (-1))) ⟨by omega, by omega⟩ ⟨by omega, by omega⟩ ⟨by omega, by omega⟩) (gS bw_37_17 bw_37_18 bw_2_10 bw_37_19) rfl ddX10_join (by decide) (Nat.le_of_ble_eq_true rfl) dX10_work_157 (k_pI (fun r16 hr17 e18 => ?_))
              refine v_iast X (Std.lt hS rfl) (Std.at hS rfl rfl) (by omega) (by omega) ⟨by omega, by omega⟩ dX10_work_160 ?_
              refine v_iinc X 7 [(5, .int (iz (i + 1))), (4, .int (iz (tp + (-1)))), (7, .int (iz ((kdI (M 29 i)) - 6))), (6, .int (iz (kdI (M 29 i)))), (0, .ref (ad 24)), (1, .int (iz f)), (2, .int (iz e)), (3, .ref (ad 32))] dX10_work_161 rfl (by decide) rfl ?_
              refine v_goto X 10 dX10_work_164 (by decide) ?_
              refine v_lv [4, 5, 6, 7, 1, 0] rfl ?_
              refine v_mem (M' := (mrow M 30 (fun b => if b = ((tp + (-1)) - 1) then r16 else g b))) (by simp only [mu_mrow]) rfl rfl ?_
              exact ih4 (tp + (-1)) (i + 1) (j + 1) (fun b => if b = ((tp + (-1)) - 1) then r16 else g b) (by omega) (by omega) (by subst ei; rw [cRun_s, hst]; unfold cStep; rw [hst] at ht; rw [if_neg (by simp only [List.length_cons] at ht ⊢; omega), if_neg (by simp only [List.length_cons] at ht ⊢; omega)]; show _ = ((joinC _ _ _ :: t9).length : Int); simp only [List.length_cons] at ht ⊢; omega) (by omega) (by subst ei; rw [cRun_s, hst]; unfold cStep; rw [hst] at ht; rw [if_neg (by simp only [List.length_cons] at ht ⊢; omega), if_neg (by simp only [List.length_cons] at ht ⊢; omega)]; rw [hst] at hrep; rw [e18, hb9, ha9]; exact rep_bin hrep (by simp only [List.length_cons] at ht; omega)) (by omega)
          · skip
            refine v_iload X 0 dX10_work_84 rfl ?_
            refine v_bipush X dX10_work_86 (by decide) ?_
            refine v_icmp_ge X 122 dX10_work_88 (by decide) ⟨by omega, by omega⟩ ⟨by decide, by decide⟩ (fun u19 => ?_) (fun u19 => ?_)
            · skip
              refine v_iload X 6 dX10_work_122 rfl ?_
              refine v_iconst X dX10_work_124 ?_
              refine v_icmp_lt X 161 dX10_work_125 (by decide) ⟨by omega, by omega⟩ ⟨by decide, by decide⟩ (fun u20 => ?_) (fun u20 => ?_)
              · skip
                refine v_iinc X 7 [(5, .int (iz (i + 1))), (7, .int (iz ((kdI (M 29 i)) - 6))), (6, .int (iz (kdI (M 29 i)))), (0, .ref (ad 24)), (1, .int (iz f)), (2, .int (iz e)), (3, .ref (ad 32)), (4, .int (iz tp))] dX10_work_161 rfl (by decide) rfl ?_
                refine v_goto X 10 dX10_work_164 (by decide) ?_
                refine v_lv [3, 4, 5, 6, 7, 0] rfl ?_
                refine v_mem (M' := (mrow M 30 g)) (by rfl) rfl rfl ?_
                exact ih4 tp (i + 1) (j + 1) g (by omega) (by omega) (by subst ei; rw [cRun_s]; unfold cStep; rw [if_neg (by omega), if_neg (by omega), short_of (by omega)]; exact ht) (by omega) (by subst ei; rw [cRun_s]; unfold cStep; rw [if_neg (by omega), if_neg (by omega), short_of (by omega)]; exact hrep) (by omega)
              · skip
                obtain ⟨b9, a9, t9, hst⟩ := two_of (st := (cRun (M 29) (M 32) f j)) (by omega)
                have hl9 : tp = (t9.length : Int) + 2 := by rw [hst] at ht; simp only [List.length_cons] at ht; omega
                have hb9 : g (tp + -1) = b9 := by rw [hst] at hrep; exact rep_b hrep (by omega)
                have ha9 : g (tp + -1 - 1) = a9 := by rw [hst] at hrep; exact rep_a hrep (by omega)
                refine v_iinc X 6 [(4, .int (iz (tp + (-1)))), (7, .int (iz ((kdI (M 29 i)) - 6))), (6, .int (iz (kdI (M 29 i)))), (0, .ref (ad 24)), (1, .int (iz f)), (2, .int (iz e)), (3, .ref (ad 32)), (5, .int (iz i))] dX10_work_128 rfl (by decide) rfl ?_
                refine v_aload_n X 3 dX10_work_131 rfl rfl ?_
                refine gt_X10_stack X iwX10 (Std.lt hS rfl) (Std.k hS rfl rfl) (List.mem_cons_of_mem _ bw_6_0) dX10_work_132 30 (Std.r hS 5 rfl) ?_
                refine v_iload X 0 dX10_work_135 rfl ?_
                refine v_iconst X dX10_work_137 ?_
                refine v_isub X dX10_work_138 ?_
                refine v_iload X 2 dX10_work_139 rfl ?_
                refine v_aload_n X 3 dX10_work_141 rfl rfl ?_
                refine gt_X10_stack X iwX10 (Std.lt hS rfl) (Std.k hS rfl rfl) (List.mem_cons_of_mem _ bw_6_0) dX10_work_142 30 (Std.r hS 5 rfl) ?_
                refine v_iload X 0 dX10_work_145 rfl ?_
                refine v_iconst X dX10_work_147 ?_
                refine v_isub X dX10_work_148 ?_
                refine v_iald X (g ((tp + (-1)) - 1)) (Std.lt hS rfl) (Std.at hS rfl rfl) (by omega) (by omega) dX10_work_149 rfl (fun hr21 => ?_)
                refine v_aload_n X 3 dX10_work_150 rfl rfl ?_
                refine gt_X10_stack X iwX10 (Std.lt hS rfl) (Std.k hS rfl rfl) (List.mem_cons_of_mem _ bw_6_0) dX10_work_151 30 (Std.r hS 5 rfl) ?_
                refine v_iload X 0 dX10_work_154 rfl ?_
                refine v_iald X (g (tp + (-1))) (Std.lt hS rfl) (Std.at hS rfl rfl) (by omega) (by omega) dX10_work_156 rfl (fun hr22 => ?_)
                refine v_callS X [.int (iz (kdI (M 29 i))), .int (iz (g ((tp + (-1)) - 1))), .int (iz (g (tp + (-1))))] hRm (c_X10_join _ _ _ (kdI (M 29 i)) (g ((tp + (-1)) - 1)) (g (tp + (-1))) ⟨by omega, by omega⟩ ⟨by omega, by omega⟩ ⟨by omega, by omega⟩) (gS bw_37_17 bw_37_18 bw_2_10 bw_37_19) rfl ddX10_join (by decide) (Nat.le_of_ble_eq_true rfl) dX10_work_157 (k_pI (fun r23 hr24 e25 => ?_))
                refine v_iast X (Std.lt hS rfl) (Std.at hS rfl rfl) (by omega) (by omega) ⟨by omega, by omega⟩ dX10_work_160 ?_
                refine v_iinc X 7 [(5, .int (iz (i + 1))), (4, .int (iz (tp + (-1)))), (7, .int (iz ((kdI (M 29 i)) - 6))), (6, .int (iz (kdI (M 29 i)))), (0, .ref (ad 24)), (1, .int (iz f)), (2, .int (iz e)), (3, .ref (ad 32))] dX10_work_161 rfl (by decide) rfl ?_
                refine v_goto X 10 dX10_work_164 (by decide) ?_
                refine v_lv [4, 5, 6, 7, 1, 0] rfl ?_
                refine v_mem (M' := (mrow M 30 (fun b => if b = ((tp + (-1)) - 1) then r23 else g b))) (by simp only [mu_mrow]) rfl rfl ?_
                exact ih4 (tp + (-1)) (i + 1) (j + 1) (fun b => if b = ((tp + (-1)) - 1) then r23 else g b) (by omega) (by omega) (by subst ei; rw [cRun_s, hst]; unfold cStep; rw [hst] at ht; rw [if_neg (by simp only [List.length_cons] at ht ⊢; omega), if_neg (by simp only [List.length_cons] at ht ⊢; omega)]; show _ = ((joinC _ _ _ :: t9).length : Int); simp only [List.length_cons] at ht ⊢; omega) (by omega) (by subst ei; rw [cRun_s, hst]; unfold cStep; rw [hst] at ht; rw [if_neg (by simp only [List.length_cons] at ht ⊢; omega), if_neg (by simp only [List.length_cons] at ht ⊢; omega)]; rw [hst] at hrep; rw [e25, hb9, ha9]; exact rep_bin hrep (by simp only [List.length_cons] at ht; omega)) (by omega)
            · skip
              refine v_iload X 0 dX10_work_91 rfl ?_
              refine v_aload_n X 5 dX10_work_93 rfl rfl ?_
              refine v_alenI X (Std.lt hS rfl) (Std.at hS rfl rfl) dX10_work_94 ?_
              refine v_icmp_ge X 122 dX10_work_95 (by decide) ⟨by omega, by omega⟩ ⟨by decide, by decide⟩ (fun q => absurd q (by omega)) (fun u26 => ?_)
              refine v_iload X 6 dX10_work_98 rfl ?_
              refine v_bipush X dX10_work_100 (by decide) ?_
              refine v_icmp_ge X 122 dX10_work_102 (by decide) ⟨by omega, by omega⟩ ⟨by decide, by decide⟩ (fun u27 => ?_) (fun u27 => ?_)
              · skip
                refine v_iload X 6 dX10_work_122 rfl ?_
                refine v_iconst X dX10_work_124 ?_
                refine v_icmp_lt X 161 dX10_work_125 (by decide) ⟨by omega, by omega⟩ ⟨by decide, by decide⟩ (fun u28 => ?_) (fun u28 => ?_)
                · skip
                  refine v_iinc X 7 [(5, .int (iz (i + 1))), (7, .int (iz ((kdI (M 29 i)) - 6))), (6, .int (iz (kdI (M 29 i)))), (0, .ref (ad 24)), (1, .int (iz f)), (2, .int (iz e)), (3, .ref (ad 32)), (4, .int (iz tp))] dX10_work_161 rfl (by decide) rfl ?_
                  refine v_goto X 10 dX10_work_164 (by decide) ?_
                  refine v_lv [3, 4, 5, 6, 7, 0] rfl ?_
                  refine v_mem (M' := (mrow M 30 g)) (by rfl) rfl rfl ?_
                  exact ih4 tp (i + 1) (j + 1) g (by omega) (by omega) (by subst ei; rw [cRun_s]; unfold cStep; rw [if_neg (by omega), if_neg (by omega), short_of (by omega)]; exact ht) (by omega) (by subst ei; rw [cRun_s]; unfold cStep; rw [if_neg (by omega), if_neg (by omega), short_of (by omega)]; exact hrep) (by omega)
                · skip
                  obtain ⟨b9, a9, t9, hst⟩ := two_of (st := (cRun (M 29) (M 32) f j)) (by omega)
                  have hl9 : tp = (t9.length : Int) + 2 := by rw [hst] at ht; simp only [List.length_cons] at ht; omega
                  have hb9 : g (tp + -1) = b9 := by rw [hst] at hrep; exact rep_b hrep (by omega)
                  have ha9 : g (tp + -1 - 1) = a9 := by rw [hst] at hrep; exact rep_a hrep (by omega)
                  refine v_iinc X 6 [(4, .int (iz (tp + (-1)))), (7, .int (iz ((kdI (M 29 i)) - 6))), (6, .int (iz (kdI (M 29 i)))), (0, .ref (ad 24)), (1, .int (iz f)), (2, .int (iz e)), (3, .ref (ad 32)), (5, .int (iz i))] dX10_work_128 rfl (by decide) rfl ?_
                  refine v_aload_n X 3 dX10_work_131 rfl rfl ?_
                  refine gt_X10_stack X iwX10 (Std.lt hS rfl) (Std.k hS rfl rfl) (List.mem_cons_of_mem _ bw_6_0) dX10_work_132 30 (Std.r hS 5 rfl) ?_
                  refine v_iload X 0 dX10_work_135 rfl ?_
                  refine v_iconst X dX10_work_137 ?_
                  refine v_isub X dX10_work_138 ?_
                  refine v_iload X 2 dX10_work_139 rfl ?_
                  refine v_aload_n X 3 dX10_work_141 rfl rfl ?_
                  refine gt_X10_stack X iwX10 (Std.lt hS rfl) (Std.k hS rfl rfl) (List.mem_cons_of_mem _ bw_6_0) dX10_work_142 30 (Std.r hS 5 rfl) ?_
                  refine v_iload X 0 dX10_work_145 rfl ?_
                  refine v_iconst X dX10_work_147 ?_
                  refine v_isub X dX10_work_148 ?_
                  refine v_iald X (g ((tp + (-1)) - 1)) (Std.lt hS rfl) (Std.at hS rfl rfl) (by omega) (by omega) dX10_work_149 rfl (fun hr29 => ?_)
                  refine v_aload_n X 3 dX10_work_150 rfl rfl ?_
                  refine gt_X10_stack X iwX10 (Std.lt hS rfl) (Std.k hS rfl rfl) (List.mem_cons_of_mem _ bw_6_0) dX10_work_151 30 (Std.r hS 5 rfl) ?_
                  refine v_iload X 0 dX10_work_154 rfl ?_
                  refine v_iald X (g (tp + (-1))) (Std.lt hS rfl) (Std.at hS rfl rfl) (by omega) (by omega) dX10_work_156 rfl (fun hr30 => ?_)
                  refine v_callS X [.int (iz (kdI (M 29 i))), .int (iz (g ((tp + (-1)) - 1))), .int (iz (g (tp + (-1))))] hRm (c_X10_join _ _ _ (kdI (M 29 i)) (g ((tp + (-1)) - 1)) (g (tp + (-1))) ⟨by omega, by omega⟩ ⟨by omega, by omega⟩ ⟨by omega, by omega⟩) (gS bw_37_17 bw_37_18 bw_2_10 bw_37_19) rfl ddX10_join (by decide) (Nat.le_of_ble_eq_true rfl) dX10_work_157 (k_pI (fun r31 hr32 e33 => ?_))
                  refine v_iast X (Std.lt hS rfl) (Std.at hS rfl rfl) (by omega) (by omega) ⟨by omega, by omega⟩ dX10_work_160 ?_
                  refine v_iinc X 7 [(5, .int (iz (i + 1))), (4, .int (iz (tp + (-1)))), (7, .int (iz ((kdI (M 29 i)) - 6))), (6, .int (iz (kdI (M 29 i)))), (0, .ref (ad 24)), (1, .int (iz f)), (2, .int (iz e)), (3, .ref (ad 32))] dX10_work_161 rfl (by decide) rfl ?_
                  refine v_goto X 10 dX10_work_164 (by decide) ?_
                  refine v_lv [4, 5, 6, 7, 1, 0] rfl ?_
                  refine v_mem (M' := (mrow M 30 (fun b => if b = ((tp + (-1)) - 1) then r31 else g b))) (by simp only [mu_mrow]) rfl rfl ?_
                  exact ih4 (tp + (-1)) (i + 1) (j + 1) (fun b => if b = ((tp + (-1)) - 1) then r31 else g b) (by omega) (by omega) (by subst ei; rw [cRun_s, hst]; unfold cStep; rw [hst] at ht; rw [if_neg (by simp only [List.length_cons] at ht ⊢; omega), if_neg (by simp only [List.length_cons] at ht ⊢; omega)]; show _ = ((joinC _ _ _ :: t9).length : Int); simp only [List.length_cons] at ht ⊢; omega) (by omega) (by subst ei; rw [cRun_s, hst]; unfold cStep; rw [hst] at ht; rw [if_neg (by simp only [List.length_cons] at ht ⊢; omega), if_neg (by simp only [List.length_cons] at ht ⊢; omega)]; rw [hst] at hrep; rw [e33, hb9, ha9]; exact rep_bin hrep (by simp only [List.length_cons] at ht; omega)) (by omega)
              · skip
                refine v_aload_n X 2 dX10_work_105 rfl rfl ?_
                refine gt_X10_stack X iwX10 (Std.lt hS rfl) (Std.k hS rfl rfl) (List.mem_cons_of_mem _ bw_6_0) dX10_work_106 30 (Std.r hS 5 rfl) ?_
                refine v_iload X 6 dX10_work_109 rfl ?_
                refine v_aload_n X 5 dX10_work_111 rfl rfl ?_
                refine v_iload X 0 dX10_work_112 rfl ?_
                refine v_iald X (M 32 ((kdI (M 29 i)) - 6)) (Std.lt hS rfl) (Std.at hS rfl rfl) (by omega) (by omega) dX10_work_114 rfl (fun hr34 => ?_)
                refine v_iast X (Std.lt hS rfl) (Std.at hS rfl rfl) (by omega) (by omega) ⟨by omega, by omega⟩ dX10_work_115 ?_
                refine v_iinc X 6 [(4, .int (iz (tp + 1))), (7, .int (iz ((kdI (M 29 i)) - 6))), (6, .int (iz (kdI (M 29 i)))), (0, .ref (ad 24)), (1, .int (iz f)), (2, .int (iz e)), (3, .ref (ad 32)), (5, .int (iz i))] dX10_work_116 rfl (by decide) rfl ?_
                refine v_goto X 161 dX10_work_119 (by decide) ?_
                refine v_iinc X 7 [(5, .int (iz (i + 1))), (4, .int (iz (tp + 1))), (7, .int (iz ((kdI (M 29 i)) - 6))), (6, .int (iz (kdI (M 29 i)))), (0, .ref (ad 24)), (1, .int (iz f)), (2, .int (iz e)), (3, .ref (ad 32))] dX10_work_161 rfl (by decide) rfl ?_
                refine v_goto X 10 dX10_work_164 (by decide) ?_
                refine v_lv [4, 5, 6, 7, 1, 0] rfl ?_
                refine v_mem (M' := (mrow M 30 (fun b => if b = tp then (M 32 ((kdI (M 29 i)) - 6)) else g b))) (by simp only [mu_mrow]) rfl rfl ?_
                exact ih4 (tp + 1) (i + 1) (j + 1) (fun b => if b = tp then (M 32 ((kdI (M 29 i)) - 6)) else g b) (by omega) (by omega) (by subst ei; rw [cRun_s]; unfold cStep; rw [if_neg (by omega), if_pos (by omega)]; simp only [List.length_cons]; omega) (by omega) (by subst ei; rw [cRun_s]; unfold cStep; rw [if_neg (by omega), if_pos (by omega)]; exact rep_push hrep ht) (by omega)
        · skip
          refine v_iload X 6 dX10_work_50 rfl ?_
          refine v_bipush X dX10_work_52 (by decide) ?_
          refine v_icmp_ge X 79 dX10_work_54 (by decide) ⟨by omega, by omega⟩ ⟨by decide, by decide⟩ (fun u35 => ?_) (fun u35 => ?_)
          · skip
            refine v_iload X 0 dX10_work_79 rfl ?_
            refine v_if_lt X 122 dX10_work_81 (by decide) ⟨by omega, by omega⟩ (fun u36 => ?_) (fun u36 => ?_)
            · skip
              refine v_iload X 6 dX10_work_122 rfl ?_
              refine v_iconst X dX10_work_124 ?_
              refine v_icmp_lt X 161 dX10_work_125 (by decide) ⟨by omega, by omega⟩ ⟨by decide, by decide⟩ (fun u37 => ?_) (fun u37 => ?_)
              · skip
                refine v_iinc X 7 [(5, .int (iz (i + 1))), (7, .int (iz ((kdI (M 29 i)) - 6))), (6, .int (iz (kdI (M 29 i)))), (0, .ref (ad 24)), (1, .int (iz f)), (2, .int (iz e)), (3, .ref (ad 32)), (4, .int (iz tp))] dX10_work_161 rfl (by decide) rfl ?_
                refine v_goto X 10 dX10_work_164 (by decide) ?_
                refine v_lv [3, 4, 5, 6, 7, 0] rfl ?_
                refine v_mem (M' := (mrow M 30 g)) (by rfl) rfl rfl ?_
                exact ih4 tp (i + 1) (j + 1) g (by omega) (by omega) (by subst ei; rw [cRun_s]; unfold cStep; rw [if_neg (by omega), if_neg (by omega), short_of (by omega)]; exact ht) (by omega) (by subst ei; rw [cRun_s]; unfold cStep; rw [if_neg (by omega), if_neg (by omega), short_of (by omega)]; exact hrep) (by omega)
              · skip
                obtain ⟨b9, a9, t9, hst⟩ := two_of (st := (cRun (M 29) (M 32) f j)) (by omega)
                have hl9 : tp = (t9.length : Int) + 2 := by rw [hst] at ht; simp only [List.length_cons] at ht; omega
                have hb9 : g (tp + -1) = b9 := by rw [hst] at hrep; exact rep_b hrep (by omega)
                have ha9 : g (tp + -1 - 1) = a9 := by rw [hst] at hrep; exact rep_a hrep (by omega)
                refine v_iinc X 6 [(4, .int (iz (tp + (-1)))), (7, .int (iz ((kdI (M 29 i)) - 6))), (6, .int (iz (kdI (M 29 i)))), (0, .ref (ad 24)), (1, .int (iz f)), (2, .int (iz e)), (3, .ref (ad 32)), (5, .int (iz i))] dX10_work_128 rfl (by decide) rfl ?_
                refine v_aload_n X 3 dX10_work_131 rfl rfl ?_
                refine gt_X10_stack X iwX10 (Std.lt hS rfl) (Std.k hS rfl rfl) (List.mem_cons_of_mem _ bw_6_0) dX10_work_132 30 (Std.r hS 5 rfl) ?_
                refine v_iload X 0 dX10_work_135 rfl ?_
                refine v_iconst X dX10_work_137 ?_
                refine v_isub X dX10_work_138 ?_
                refine v_iload X 2 dX10_work_139 rfl ?_
                refine v_aload_n X 3 dX10_work_141 rfl rfl ?_
                refine gt_X10_stack X iwX10 (Std.lt hS rfl) (Std.k hS rfl rfl) (List.mem_cons_of_mem _ bw_6_0) dX10_work_142 30 (Std.r hS 5 rfl) ?_
                refine v_iload X 0 dX10_work_145 rfl ?_
                refine v_iconst X dX10_work_147 ?_
                refine v_isub X dX10_work_148 ?_
                refine v_iald X (g ((tp + (-1)) - 1)) (Std.lt hS rfl) (Std.at hS rfl rfl) (by omega) (by omega) dX10_work_149 rfl (fun hr38 => ?_)
                refine v_aload_n X 3 dX10_work_150 rfl rfl ?_
                refine gt_X10_stack X iwX10 (Std.lt hS rfl) (Std.k hS rfl rfl) (List.mem_cons_of_mem _ bw_6_0) dX10_work_151 30 (Std.r hS 5 rfl) ?_
                refine v_iload X 0 dX10_work_154 rfl ?_
                refine v_iald X (g (tp + (-1))) (Std.lt hS rfl) (Std.at hS rfl rfl) (by omega) (by omega) dX10_work_156 rfl (fun hr39 => ?_)
                refine v_callS X [.int (iz (kdI (M 29 i))), .int (iz (g ((tp + (-1)) - 1))), .int (iz (g (tp + (-1))))] hRm (c_X10_join _ _ _ (kdI (M 29 i)) (g ((tp + (-1)) - 1)) (g (tp + (-1))) ⟨by omega, by omega⟩ ⟨by omega, by omega⟩ ⟨by omega, by omega⟩) (gS bw_37_17 bw_37_18 bw_2_10 bw_37_19) rfl ddX10_join (by decide) (Nat.le_of_ble_eq_true rfl) dX10_work_157 (k_pI (fun r40 hr41 e42 => ?_))
                refine v_iast X (Std.lt hS rfl) (Std.at hS rfl rfl) (by omega) (by omega) ⟨by omega, by omega⟩ dX10_work_160 ?_
                refine v_iinc X 7 [(5, .int (iz (i + 1))), (4, .int (iz (tp + (-1)))), (7, .int (iz ((kdI (M 29 i)) - 6))), (6, .int (iz (kdI (M 29 i)))), (0, .ref (ad 24)), (1, .int (iz f)), (2, .int (iz e)), (3, .ref (ad 32))] dX10_work_161 rfl (by decide) rfl ?_
                refine v_goto X 10 dX10_work_164 (by decide) ?_
                refine v_lv [4, 5, 6, 7, 1, 0] rfl ?_
                refine v_mem (M' := (mrow M 30 (fun b => if b = ((tp + (-1)) - 1) then r40 else g b))) (by simp only [mu_mrow]) rfl rfl ?_
                exact ih4 (tp + (-1)) (i + 1) (j + 1) (fun b => if b = ((tp + (-1)) - 1) then r40 else g b) (by omega) (by omega) (by subst ei; rw [cRun_s, hst]; unfold cStep; rw [hst] at ht; rw [if_neg (by simp only [List.length_cons] at ht ⊢; omega), if_neg (by simp only [List.length_cons] at ht ⊢; omega)]; show _ = ((joinC _ _ _ :: t9).length : Int); simp only [List.length_cons] at ht ⊢; omega) (by omega) (by subst ei; rw [cRun_s, hst]; unfold cStep; rw [hst] at ht; rw [if_neg (by simp only [List.length_cons] at ht ⊢; omega), if_neg (by simp only [List.length_cons] at ht ⊢; omega)]; rw [hst] at hrep; rw [e42, hb9, ha9]; exact rep_bin hrep (by simp only [List.length_cons] at ht; omega)) (by omega)
            · skip
              refine v_iload X 0 dX10_work_84 rfl ?_
              refine v_bipush X dX10_work_86 (by decide) ?_
              refine v_icmp_ge X 122 dX10_work_88 (by decide) ⟨by omega, by omega⟩ ⟨by decide, by decide⟩ (fun u43 => ?_) (fun u43 => ?_)
              · skip
                refine v_iload X 6 dX10_work_122 rfl ?_
                refine v_iconst X dX10_work_124 ?_
                refine v_icmp_lt X 161 dX10_work_125 (by decide) ⟨by omega, by omega⟩ ⟨by decide, by decide⟩ (fun u44 => ?_) (fun u44 => ?_)
                · skip
                  refine v_iinc X 7 [(5, .int (iz (i + 1))), (7, .int (iz ((kdI (M 29 i)) - 6))), (6, .int (iz (kdI (M 29 i)))), (0, .ref (ad 24)), (1, .int (iz f)), (2, .int (iz e)), (3, .ref (ad 32)), (4, .int (iz tp))] dX10_work_161 rfl (by decide) rfl ?_
                  refine v_goto X 10 dX10_work_164 (by decide) ?_
                  refine v_lv [3, 4, 5, 6, 7, 0] rfl ?_
                  refine v_mem (M' := (mrow M 30 g)) (by rfl) rfl rfl ?_
                  exact ih4 tp (i + 1) (j + 1) g (by omega) (by omega) (by subst ei; rw [cRun_s]; unfold cStep; rw [if_neg (by omega), if_neg (by omega), short_of (by omega)]; exact ht) (by omega) (by subst ei; rw [cRun_s]; unfold cStep; rw [if_neg (by omega), if_neg (by omega), short_of (by omega)]; exact hrep) (by omega)
                · skip
                  obtain ⟨b9, a9, t9, hst⟩ := two_of (st := (cRun (M 29) (M 32) f j)) (by omega)
                  have hl9 : tp = (t9.length : Int) + 2 := by rw [hst] at ht; simp only [List.length_cons] at ht; omega
                  have hb9 : g (tp + -1) = b9 := by rw [hst] at hrep; exact rep_b hrep (by omega)
                  have ha9 : g (tp + -1 - 1) = a9 := by rw [hst] at hrep; exact rep_a hrep (by omega)
                  refine v_iinc X 6 [(4, .int (iz (tp + (-1)))), (7, .int (iz ((kdI (M 29 i)) - 6))), (6, .int (iz (kdI (M 29 i)))), (0, .ref (ad 24)), (1, .int (iz f)), (2, .int (iz e)), (3, .ref (ad 32)), (5, .int (iz i))] dX10_work_128 rfl (by decide) rfl ?_
                  refine v_aload_n X 3 dX10_work_131 rfl rfl ?_
                  refine gt_X10_stack X iwX10 (Std.lt hS rfl) (Std.k hS rfl rfl) (List.mem_cons_of_mem _ bw_6_0) dX10_work_132 30 (Std.r hS 5 rfl) ?_
                  refine v_iload X 0 dX10_work_135 rfl ?_
                  refine v_iconst X dX10_work_137 ?_
                  refine v_isub X dX10_work_138 ?_
                  refine v_iload X 2 dX10_work_139 rfl ?_
                  refine v_aload_n X 3 dX10_work_141 rfl rfl ?_
                  refine gt_X10_stack X iwX10 (Std.lt hS rfl) (Std.k hS rfl rfl) (List.mem_cons_of_mem _ bw_6_0) dX10_work_142 30 (Std.r hS 5 rfl) ?_
                  refine v_iload X 0 dX10_work_145 rfl ?_
                  refine v_iconst X dX10_work_147 ?_
                  refine v_isub X dX10_work_148 ?_
                  refine v_iald X (g ((tp + (-1)) - 1)) (Std.lt hS rfl) (Std.at hS rfl rfl) (by omega) (by omega) dX10_work_149 rfl (fun hr45 => ?_)
                  refine v_aload_n X 3 dX10_work_150 rfl rfl ?_
                  refine gt_X10_stack X iwX10 (Std.lt hS rfl) (Std.k hS rfl rfl) (List.mem_cons_of_mem _ bw_6_0) dX10_work_151 30 (Std.r hS 5 rfl) ?_
                  refine v_iload X 0 dX10_work_154 rfl ?_
                  refine v_iald X (g (tp + (-1))) (Std.lt hS rfl) (Std.at hS rfl rfl) (by omega) (by omega) dX10_work_156 rfl (fun hr46 => ?_)
                  refine v_callS X [.int (iz (kdI (M 29 i))), .int (iz (g ((tp + (-1)) - 1))), .int (iz (g (tp + (-1))))] hRm (c_X10_join _ _ _ (kdI (M 29 i)) (g ((tp + (-1)) - 1)) (g (tp + (-1))) ⟨by omega, by omega⟩ ⟨by omega, by omega⟩ ⟨by omega, by omega⟩) (gS bw_37_17 bw_37_18 bw_2_10 bw_37_19) rfl ddX10_join (by decide) (Nat.le_of_ble_eq_true rfl) dX10_work_157 (k_pI (fun r47 hr48 e49 => ?_))
                  refine v_iast X (Std.lt hS rfl) (Std.at hS rfl rfl) (by omega) (by omega) ⟨by omega, by omega⟩ dX10_work_160 ?_
                  refine v_iinc X 7 [(5, .int (iz (i + 1))), (4, .int (iz (tp + (-1)))), (7, .int (iz ((kdI (M 29 i)) - 6))), (6, .int (iz (kdI (M 29 i)))), (0, .ref (ad 24)), (1, .int (iz f)), (2, .int (iz e)), (3, .ref (ad 32))] dX10_work_161 rfl (by decide) rfl ?_
                  refine v_goto X 10 dX10_work_164 (by decide) ?_
                  refine v_lv [4, 5, 6, 7, 1, 0] rfl ?_
                  refine v_mem (M' := (mrow M 30 (fun b => if b = ((tp + (-1)) - 1) then r47 else g b))) (by simp only [mu_mrow]) rfl rfl ?_
                  exact ih4 (tp + (-1)) (i + 1) (j + 1) (fun b => if b = ((tp + (-1)) - 1) then r47 else g b) (by omega) (by omega) (by subst ei; rw [cRun_s, hst]; unfold cStep; rw [hst] at ht; rw [if_neg (by simp only [List.length_cons] at ht ⊢; omega), if_neg (by simp only [List.length_cons] at ht ⊢; omega)]; show _ = ((joinC _ _ _ :: t9).length : Int); simp only [List.length_cons] at ht ⊢; omega) (by omega) (by subst ei; rw [cRun_s, hst]; unfold cStep; rw [hst] at ht; rw [if_neg (by simp only [List.length_cons] at ht ⊢; omega), if_neg (by simp only [List.length_cons] at ht ⊢; omega)]; rw [hst] at hrep; rw [e49, hb9, ha9]; exact rep_bin hrep (by simp only [List.length_cons] at ht; omega)) (by omega)
              · skip
                refine v_iload X 0 dX10_work_91 rfl ?_
                refine v_aload_n X 5 dX10_work_93 rfl rfl ?_
                refine v_alenI X (Std.lt hS rfl) (Std.at hS rfl rfl) dX10_work_94 ?_
                refine v_icmp_ge X 122 dX10_work_95 (by decide) ⟨by omega, by omega⟩ ⟨by decide, by decide⟩ (fun q => absurd q (by omega)) (fun u50 => ?_)
                refine v_iload X 6 dX10_work_98 rfl ?_
                refine v_bipush X dX10_work_100 (by decide) ?_
                refine v_icmp_ge X 122 dX10_work_102 (by decide) ⟨by omega, by omega⟩ ⟨by decide, by decide⟩ (fun u51 => ?_) (fun u51 => ?_)
                · skip
                  refine v_iload X 6 dX10_work_122 rfl ?_
                  refine v_iconst X dX10_work_124 ?_
                  refine v_icmp_lt X 161 dX10_work_125 (by decide) ⟨by omega, by omega⟩ ⟨by decide, by decide⟩ (fun u52 => ?_) (fun u52 => ?_)
                  · skip
                    refine v_iinc X 7 [(5, .int (iz (i + 1))), (7, .int (iz ((kdI (M 29 i)) - 6))), (6, .int (iz (kdI (M 29 i)))), (0, .ref (ad 24)), (1, .int (iz f)), (2, .int (iz e)), (3, .ref (ad 32)), (4, .int (iz tp))] dX10_work_161 rfl (by decide) rfl ?_
                    refine v_goto X 10 dX10_work_164 (by decide) ?_
                    refine v_lv [3, 4, 5, 6, 7, 0] rfl ?_
                    refine v_mem (M' := (mrow M 30 g)) (by rfl) rfl rfl ?_
                    exact ih4 tp (i + 1) (j + 1) g (by omega) (by omega) (by subst ei; rw [cRun_s]; unfold cStep; rw [if_neg (by omega), if_neg (by omega), short_of (by omega)]; exact ht) (by omega) (by subst ei; rw [cRun_s]; unfold cStep; rw [if_neg (by omega), if_neg (by omega), short_of (by omega)]; exact hrep) (by omega)
                  · skip
                    obtain ⟨b9, a9, t9, hst⟩ := two_of (st := (cRun (M 29) (M 32) f j)) (by omega)
                    have hl9 : tp = (t9.length : Int) + 2 := by rw [hst] at ht; simp only [List.length_cons] at ht; omega
                    have hb9 : g (tp + -1) = b9 := by rw [hst] at hrep; exact rep_b hrep (by omega)
                    have ha9 : g (tp + -1 - 1) = a9 := by rw [hst] at hrep; exact rep_a hrep (by omega)
                    refine v_iinc X 6 [(4, .int (iz (tp + (-1)))), (7, .int (iz ((kdI (M 29 i)) - 6))), (6, .int (iz (kdI (M 29 i)))), (0, .ref (ad 24)), (1, .int (iz f)), (2, .int (iz e)), (3, .ref (ad 32)), (5, .int (iz i))] dX10_work_128 rfl (by decide) rfl ?_
                    refine v_aload_n X 3 dX10_work_131 rfl rfl ?_
                    refine gt_X10_stack X iwX10 (Std.lt hS rfl) (Std.k hS rfl rfl) (List.mem_cons_of_mem _ bw_6_0) dX10_work_132 30 (Std.r hS 5 rfl) ?_
                    refine v_iload X 0 dX10_work_135 rfl ?_
                    refine v_iconst X dX10_work_137 ?_
                    refine v_isub X dX10_work_138 ?_
                    refine v_iload X 2 dX10_work_139 rfl ?_
                    refine v_aload_n X 3 dX10_work_141 rfl rfl ?_
                    refine gt_X10_stack X iwX10 (Std.lt hS rfl) (Std.k hS rfl rfl) (List.mem_cons_of_mem _ bw_6_0) dX10_work_142 30 (Std.r hS 5 rfl) ?_
                    refine v_iload X 0 dX10_work_145 rfl ?_
                    refine v_iconst X dX10_work_147 ?_
                    refine v_isub X dX10_work_148 ?_
                    refine v_iald X (g ((tp + (-1)) - 1)) (Std.lt hS rfl) (Std.at hS rfl rfl) (by omega) (by omega) dX10_work_149 rfl (fun hr53 => ?_)
                    refine v_aload_n X 3 dX10_work_150 rfl rfl ?_
                    refine gt_X10_stack X iwX10 (Std.lt hS rfl) (Std.k hS rfl rfl) (List.mem_cons_of_mem _ bw_6_0) dX10_work_151 30 (Std.r hS 5 rfl) ?_
                    refine v_iload X 0 dX10_work_154 rfl ?_
                    refine v_iald X (g (tp + (-1))) (Std.lt hS rfl) (Std.at hS rfl rfl) (by omega) (by omega) dX10_work_156 rfl (fun hr54 => ?_)
                    refine v_callS X [.int (iz (kdI (M 29 i))), .int (iz (g ((tp + (-1)) - 1))), .int (iz (g (tp + (-1))))] hRm (c_X10_join _ _ _ (kdI (M 29 i)) (g ((tp + (-1)) - 1)) (g (tp + (-1))) ⟨by omega, by omega⟩ ⟨by omega, by omega⟩ ⟨by omega, by omega⟩) (gS bw_37_17 bw_37_18 bw_2_10 bw_37_19) rfl ddX10_join (by decide) (Nat.le_of_ble_eq_true rfl) dX10_work_157 (k_pI (fun r55 hr56 e57 => ?_))
                    refine v_iast X (Std.lt hS rfl) (Std.at hS rfl rfl) (by omega) (by omega) ⟨by omega, by omega⟩ dX10_work_160 ?_
                    refine v_iinc X 7 [(5, .int (iz (i + 1))), (4, .int (iz (tp + (-1)))), (7, .int (iz ((kdI (M 29 i)) - 6))), (6, .int (iz (kdI (M 29 i)))), (0, .ref (ad 24)), (1, .int (iz f)), (2, .int (iz e)), (3, .ref (ad 32))] dX10_work_161 rfl (by decide) rfl ?_
                    refine v_goto X 10 dX10_work_164 (by decide) ?_
                    refine v_lv [4, 5, 6, 7, 1, 0] rfl ?_
                    refine v_mem (M' := (mrow M 30 (fun b => if b = ((tp + (-1)) - 1) then r55 else g b))) (by simp only [mu_mrow]) rfl rfl ?_
                    exact ih4 (tp + (-1)) (i + 1) (j + 1) (fun b => if b = ((tp + (-1)) - 1) then r55 else g b) (by omega) (by omega) (by subst ei; rw [cRun_s, hst]; unfold cStep; rw [hst] at ht; rw [if_neg (by simp only [List.length_cons] at ht ⊢; omega), if_neg (by simp only [List.length_cons] at ht ⊢; omega)]; show _ = ((joinC _ _ _ :: t9).length : Int); simp only [List.length_cons] at ht ⊢; omega) (by omega) (by subst ei; rw [cRun_s, hst]; unfold cStep; rw [hst] at ht; rw [if_neg (by simp only [List.length_cons] at ht ⊢; omega), if_neg (by simp only [List.length_cons] at ht ⊢; omega)]; rw [hst] at hrep; rw [e57, hb9, ha9]; exact rep_bin hrep (by simp only [List.length_cons] at ht; omega)) (by omega)
                · skip
                  refine v_aload_n X 2 dX10_work_105 rfl rfl ?_
                  refine gt_X10_stack X iwX10 (Std.lt hS rfl) (Std.k hS rfl rfl) (List.mem_cons_of_mem _ bw_6_0) dX10_work_106 30 (Std.r hS 5 rfl) ?_
                  refine v_iload X 6 dX10_work_109 rfl ?_
                  refine v_aload_n X 5 dX10_work_111 rfl rfl ?_
                  refine v_iload X 0 dX10_work_112 rfl ?_
                  refine v_iald X (M 32 ((kdI (M 29 i)) - 6)) (Std.lt hS rfl) (Std.at hS rfl rfl) (by omega) (by omega) dX10_work_114 rfl (fun hr58 => ?_)
                  refine v_iast X (Std.lt hS rfl) (Std.at hS rfl rfl) (by omega) (by omega) ⟨by omega, by omega⟩ dX10_work_115 ?_
                  refine v_iinc X 6 [(4, .int (iz (tp + 1))), (7, .int (iz ((kdI (M 29 i)) - 6))), (6, .int (iz (kdI (M 29 i)))), (0, .ref (ad 24)), (1, .int (iz f)), (2, .int (iz e)), (3, .ref (ad 32)), (5, .int (iz i))] dX10_work_116 rfl (by decide) rfl ?_
                  refine v_goto X 161 dX10_work_119 (by decide) ?_
                  refine v_iinc X 7 [(5, .int (iz (i + 1))), (4, .int (iz (tp + 1))), (7, .int (iz ((kdI (M 29 i)) - 6))), (6, .int (iz (kdI (M 29 i)))), (0, .ref (ad 24)), (1, .int (iz f)), (2, .int (iz e)), (3, .ref (ad 32))] dX10_work_161 rfl (by decide) rfl ?_
                  refine v_goto X 10 dX10_work_164 (by decide) ?_
                  refine v_lv [4, 5, 6, 7, 1, 0] rfl ?_
                  refine v_mem (M' := (mrow M 30 (fun b => if b = tp then (M 32 ((kdI (M 29 i)) - 6)) else g b))) (by simp only [mu_mrow]) rfl rfl ?_
                  exact ih4 (tp + 1) (i + 1) (j + 1) (fun b => if b = tp then (M 32 ((kdI (M 29 i)) - 6)) else g b) (by omega) (by omega) (by subst ei; rw [cRun_s]; unfold cStep; rw [if_neg (by omega), if_pos (by omega)]; simp only [List.length_cons]; omega) (by omega) (by subst ei; rw [cRun_s]; unfold cStep; rw [if_neg (by omega), if_pos (by omega)]; exact rep_push hrep ht) (by omega)
          · skip
            refine v_aload_n X 2 dX10_work_57 rfl rfl ?_
            refine gt_X10_stack X iwX10 (Std.lt hS rfl) (Std.k hS rfl rfl) (List.mem_cons_of_mem _ bw_6_0) dX10_work_58 30 (Std.r hS 5 rfl) ?_
            refine v_iload X 6 dX10_work_61 rfl ?_
            refine v_aload_n X 2 dX10_work_63 rfl rfl ?_
            refine gt_X10_code X iwX10 (Std.lt hS rfl) (Std.k hS rfl rfl) (List.mem_cons_of_mem _ bw_5_23) dX10_work_64 29 (Std.r hS 4 rfl) ?_
            refine v_iload X 7 dX10_work_67 rfl ?_
            refine v_iald X (M 29 i) (Std.lt hS rfl) (Std.at hS rfl rfl) (by omega) (by omega) dX10_work_69 rfl (fun hr59 => ?_)
            refine v_iconst X dX10_work_70 ?_
            refine v_ishr X (vlI (M 29 i)) dX10_work_71 (iz_self _).symm ?_
            have hv9 : inR (vlI (M 29 i)) := iz_rng _
            refine v_iast X (Std.lt hS rfl) (Std.at hS rfl rfl) (by omega) (by omega) ⟨by omega, by omega⟩ dX10_work_72 ?_
            refine v_iinc X 6 [(4, .int (iz (tp + 1))), (7, .int (iz ((kdI (M 29 i)) - 6))), (6, .int (iz (kdI (M 29 i)))), (0, .ref (ad 24)), (1, .int (iz f)), (2, .int (iz e)), (3, .ref (ad 32)), (5, .int (iz i))] dX10_work_73 rfl (by decide) rfl ?_
            refine v_goto X 161 dX10_work_76 (by decide) ?_
            refine v_iinc X 7 [(5, .int (iz (i + 1))), (4, .int (iz (tp + 1))), (7, .int (iz ((kdI (M 29 i)) - 6))), (6, .int (iz (kdI (M 29 i)))), (0, .ref (ad 24)), (1, .int (iz f)), (2, .int (iz e)), (3, .ref (ad 32))] dX10_work_161 rfl (by decide) rfl ?_
            refine v_goto X 10 dX10_work_164 (by decide) ?_
            refine v_lv [4, 5, 6, 7, 1, 0] rfl ?_
            refine v_mem (M' := (mrow M 30 (fun b => if b = tp then (vlI (M 29 i)) else g b))) (by simp only [mu_mrow]) rfl rfl ?_
            exact ih4 (tp + 1) (i + 1) (j + 1) (fun b => if b = tp then (vlI (M 29 i)) else g b) (by omega) (by omega) (by subst ei; rw [cRun_s]; unfold cStep; rw [if_pos (by omega)]; simp only [List.length_cons]; omega) (by omega) (by subst ei; rw [cRun_s]; unfold cStep; rw [if_pos (by omega)]; exact rep_push hrep ht) (by omega)
  refine v_lv [2, 3, 4, 5, 1, 0] rfl ?_
  refine v_mem (M' := (mrow M 30 (M 30))) (by exact (mrow_self M 30).symm) rfl rfl ?_
  exact hl3 _ 0 x1 0 (M 30) (by omega) (by omega) (rfl) (by omega) (trivial) (Nat.lt_succ_self _)

-- Text.firstThatHolds
set_option maxHeartbeats 4000000 in
set_option maxRecDepth 100000 in
theorem c_X10_firstThatHolds_24 (l : Launch) (D : va_G) (cy : Nat → ClassId) {N : Nat} {sh : MS} {ad : Nat → Nat} {M L : MI} {R : MR} (hS : Std N sh R) (k : Int) (hk : inR k) (hz : 0 ≤ M 24 7 ∧ M 24 7 ≤ 16) (hW : ∀ r : Int, 0 ≤ r → r < M 24 7 → (0 ≤ M 26 r ∧ M 26 r ≤ M 27 r ∧ M 27 r ≤ M 28 r ∧ M 28 r ≤ 400) ∧ (M 27 r ≠ M 28 r → cRun (M 29) (M 32) (M 27 r) (M 28 r - M 27 r).toNat ≠ []) ∧ (M 25 r ≠ 0 → cRun (M 29) (M 32) (M 26 r) (M 27 r - M 26 r).toNat ≠ [])) : Ctr l D cy yX10_firstThatHolds wsX10_firstThatHolds ({ frames := 2, cells := 0, slots := 0, locals := 49 } : Room) N sh ad M L R [.ref (ad 24), .int (iz k), .ref (ad 32)] (eI N sh ad L R (fun r M' => r = firstN (fun r => decide (M 25 r = k) && (decide (M 27 r = M 28 r) || decide (cVal (M 29) (M 32) (M 27 r) (M 28 r) ≠ 0))) (M 24 7).toNat ∧ ∃ g : Int → Int, M' = mrow M 30 g)) := by
  refine Ctr.ofI (by decide) rfl (Nat.le_of_ble_eq_true rfl) ?_
  intro K hKl hKd hRm hnm X hret
  have X : VX K cX10_firstThatHolds 5 wsX10_firstThatHolds RX10 := X
  show V K 5 0 0 N sh ad M L R [(0, .ref (ad 24)), (1, .int (iz k)), (2, .ref (ad 32))] [] 0
  refine v_iconst X dX10_firstThatHolds_0 ?_
  refine v_istore_n X [(3, .int (iz 0)), (0, .ref (ad 24)), (1, .int (iz k)), (2, .ref (ad 32))] dX10_firstThatHolds_1 rfl (by decide) rfl ?_
  have hl1 : ∀ (n3 : Nat) (i : Int) (j : Nat) (g : Int → Int), (i = (j : Int)) → (i ≤ M 24 7) → (firstN (fun r => decide (M 25 r = k) && (decide (M 27 r = M 28 r) || decide (cVal (M 29) (M 32) (M 27 r) (M 28 r) ≠ 0))) j = -1) → (16 - i).toNat < n3 → V K 5 0 0 N sh ad (mrow M 30 g) L R [(0, .ref (ad 24)), (1, .int (iz k)), (2, .ref (ad 32)), (3, .int (iz i))] [] 2 := by
    intro n3
    induction n3 with
    | zero => intro i j g ei hi hno hn4; exact absurd hn4 (Nat.not_lt_zero _)
    | succ n3 ih2 =>
      intro i j g ei hi hno hn4
      refine v_iload_n X 3 dX10_firstThatHolds_2 rfl rfl ?_
      refine v_aload_n X 0 dX10_firstThatHolds_3 rfl rfl ?_
      refine gt_X10_size X iwX10 (Std.lt hS rfl) (Std.k hS rfl rfl) (List.mem_cons_of_mem _ bw_6_2) dX10_firstThatHolds_4 (M 24 7) rfl (fun hr5 => ?_)
      refine v_icmp_ge X 81 dX10_firstThatHolds_7 (by decide) ⟨by omega, by omega⟩ ⟨by omega, by omega⟩ (fun u6 => ?_) (fun u6 => ?_)
      · skip
        refine v_iconst X dX10_firstThatHolds_81 ?_
        refine hret _ _ _ _ _ _ _ _ _ _ _ (some (.int (iz (-1)))) dX10_firstThatHolds_82 ⟨rfl, _, rfl⟩ (by decide) (by decide) (fun hmok => ?_)
        refine ⟨rfl, rfl, rfl, rfl, rfl, (-1), rfl, ⟨by decide, by decide⟩, ?_⟩
        try dsimp only
        refine ⟨?_, ⟨_, rfl⟩⟩
        rw [show (M 24 7).toNat = j by omega, hno]
      · skip
        refine v_iload_n X 3 dX10_firstThatHolds_10 rfl rfl ?_
        refine v_bipush X dX10_firstThatHolds_11 (by decide) ?_
        refine v_icmp_ge X 81 dX10_firstThatHolds_13 (by decide) ⟨by omega, by omega⟩ ⟨by decide, by decide⟩ (fun q => absurd q (by omega)) (fun u7 => ?_)
        refine v_aload_n X 0 dX10_firstThatHolds_16 rfl rfl ?_
        refine gt_X10_kinds X iwX10 (Std.lt hS rfl) (Std.k hS rfl rfl) (List.mem_cons_of_mem _ bw_5_19) dX10_firstThatHolds_17 25 (Std.r hS 0 rfl) ?_
        refine v_iload_n X 3 dX10_firstThatHolds_20 rfl rfl ?_
        refine v_iald X (M 25 i) (Std.lt hS rfl) (Std.at hS rfl rfl) (by omega) (by omega) dX10_firstThatHolds_21 rfl (fun hr8 => ?_)
        refine v_iload_n X 1 dX10_firstThatHolds_22 rfl rfl ?_
        refine v_icmp_ne X 75 dX10_firstThatHolds_23 (by decide) ⟨by omega, by omega⟩ ⟨by omega, by omega⟩ (fun u9 => ?_) (fun u9 => ?_)
        · skip
          refine v_iinc X 3 [(3, .int (iz (i + 1))), (0, .ref (ad 24)), (1, .int (iz k)), (2, .ref (ad 32))] dX10_firstThatHolds_75 rfl (by decide) rfl ?_
          refine v_goto X 2 dX10_firstThatHolds_78 (by decide) ?_
          refine v_lv [1, 2, 3, 0] rfl ?_
          refine v_mem (M' := (mrow M 30 g)) (by rfl) rfl rfl ?_
          exact ih2 (i + 1) (j + 1) g (by omega) (by omega) (by subst ei; exact firstN_miss hno (by simp only [Bool.and_eq_false_iff, Bool.or_eq_false_iff, decide_eq_false_iff_not]; exact Or.inl (by omega))) (by omega)
        · skip
          refine v_aload_n X 0 dX10_firstThatHolds_26 rfl rfl ?_
          refine gt_X10_conditions X iwX10 (Std.lt hS rfl) (Std.k hS rfl rfl) (List.mem_cons_of_mem _ bw_5_21) dX10_firstThatHolds_27 27 (Std.r hS 2 rfl) ?_
          refine v_iload_n X 3 dX10_firstThatHolds_30 rfl rfl ?_
          refine v_iald X (M 27 i) (Std.lt hS rfl) (Std.at hS rfl rfl) (by omega) (by omega) dX10_firstThatHolds_31 rfl (fun hr10 => ?_)
          refine v_aload_n X 0 dX10_firstThatHolds_32 rfl rfl ?_
          refine gt_X10_ends X iwX10 (Std.lt hS rfl) (Std.k hS rfl rfl) (List.mem_cons_of_mem _ bw_5_22) dX10_firstThatHolds_33 28 (Std.r hS 3 rfl) ?_
          refine v_iload_n X 3 dX10_firstThatHolds_36 rfl rfl ?_
          refine v_iald X (M 28 i) (Std.lt hS rfl) (Std.at hS rfl rfl) (by omega) (by omega) dX10_firstThatHolds_37 rfl (fun hr11 => ?_)
          refine v_icmp_ne X 45 dX10_firstThatHolds_38 (by decide) ⟨by omega, by omega⟩ ⟨by omega, by omega⟩ (fun u12 => ?_) (fun u12 => ?_)
          · skip
            refine v_iconst X dX10_firstThatHolds_45 ?_
            refine v_istore X [(4, .int (iz 0)), (0, .ref (ad 24)), (1, .int (iz k)), (2, .ref (ad 32)), (3, .int (iz i))] dX10_firstThatHolds_46 (by decide) rfl ?_
            refine v_iload X 0 dX10_firstThatHolds_48 rfl ?_
            refine v_if_ne X 73 dX10_firstThatHolds_50 (by decide) ⟨by decide, by decide⟩ (fun q => absurd q (by decide)) (fun _ => ?_)
            have hW9 := (hW i (by omega) (by omega)).1
            refine v_aload_n X 1 dX10_firstThatHolds_53 rfl rfl ?_
            refine v_aload_n X 1 dX10_firstThatHolds_54 rfl rfl ?_
            refine gt_X10_conditions X iwX10 (Std.lt hS rfl) (Std.k hS rfl rfl) (List.mem_cons_of_mem _ bw_5_21) dX10_firstThatHolds_55 27 (Std.r hS 2 rfl) ?_
            refine v_iload_n X 4 dX10_firstThatHolds_58 rfl rfl ?_
            refine v_iald X (M 27 i) (Std.lt hS rfl) (Std.at hS rfl rfl) (by omega) (by omega) dX10_firstThatHolds_59 rfl (fun hr13 => ?_)
            refine v_aload_n X 1 dX10_firstThatHolds_60 rfl rfl ?_
            refine gt_X10_ends X iwX10 (Std.lt hS rfl) (Std.k hS rfl rfl) (List.mem_cons_of_mem _ bw_5_22) dX10_firstThatHolds_61 28 (Std.r hS 3 rfl) ?_
            refine v_iload_n X 4 dX10_firstThatHolds_64 rfl rfl ?_
            refine v_iald X (M 28 i) (Std.lt hS rfl) (Std.at hS rfl rfl) (by omega) (by omega) dX10_firstThatHolds_65 rfl (fun hr14 => ?_)
            refine v_aload_n X 3 dX10_firstThatHolds_66 rfl rfl ?_
            refine v_callV X [.int (iz (M 27 i)), .int (iz (M 28 i)), .ref (ad 32)] hRm (c_X10_work_24 _ _ _ hS (M 27 i) (M 28 i) (by omega) (by omega)) (gV bw_37_12 bw_37_13 bw_37_14 bw_2_10 bw_37_15) rfl ddX10_work (by decide) (Std.lt hS rfl) (Std.k hS rfl rfl) ⟨rfl, by decide⟩ (Nat.le_of_ble_eq_true rfl) dX10_firstThatHolds_67 (k_eI (fun r15 M16 hr17 e18 => ?_))
            obtain ⟨g19, e18m, e18p, e18q⟩ := e18
            replace e18m : M16 = (mrow M 30 g19) := e18m.trans (by first | rfl | exact mrow_mrow _ _ _ _)
            subst e18m
            replace e18p : rep g19 (cRun (M 29) (M 32) (M 27 i) ((M 28 i) - (M 27 i)).toNat) := e18p
            refine v_if_eq X 75 dX10_firstThatHolds_70 (by decide) ⟨by omega, by omega⟩ (fun u20 => ?_) (fun u20 => ?_)
            · skip
              refine v_iinc X 4 [(3, .int (iz (i + 1))), (4, .int (iz 0)), (0, .ref (ad 24)), (1, .int (iz k)), (2, .ref (ad 32))] dX10_firstThatHolds_75 rfl (by decide) rfl ?_
              refine v_goto X 2 dX10_firstThatHolds_78 (by decide) ?_
              refine v_lv [2, 3, 4, 0] rfl ?_
              refine v_mem (M' := (mrow M 30 g19)) (by rfl) rfl rfl ?_
              exact ih2 (i + 1) (j + 1) g19 (by omega) (by omega) (by subst ei; exact firstN_miss hno (by simp only [Bool.and_eq_false_iff, Bool.or_eq_false_iff, decide_eq_false_iff_not]; exact Or.inr ⟨by omega, by unfold cVal; rw [← rep_last e18p ((hW (j : Int) (by omega) (by omega)).2.1 (by omega)), ← e18q]; omega⟩)) (by omega)
            · skip
              refine v_iload_n X 4 dX10_firstThatHolds_73 rfl rfl ?_
              refine hret _ _ _ _ _ _ _ _ _ _ _ (some (.int (iz i))) dX10_firstThatHolds_74 ⟨rfl, _, rfl⟩ (by decide) (by decide) (fun hmok => ?_)
              refine ⟨rfl, rfl, rfl, rfl, rfl, i, rfl, ⟨by omega, by omega⟩, ?_⟩
              try dsimp only
              refine ⟨?_, ⟨_, rfl⟩⟩
              subst ei
              rw [firstN_hit hno (by simp only [Bool.and_eq_true, Bool.or_eq_true, decide_eq_true_eq]; exact ⟨by omega, Or.inr (by unfold cVal; rw [← rep_last e18p ((hW (j : Int) (by omega) (by omega)).2.1 (by omega)), ← e18q]; omega)⟩) (by omega)]
          · skip
            refine v_iconst X dX10_firstThatHolds_41 ?_
            refine v_goto X 46 dX10_firstThatHolds_42 (by decide) ?_
            refine v_istore X [(4, .int (iz 1)), (0, .ref (ad 24)), (1, .int (iz k)), (2, .ref (ad 32)), (3, .int (iz i))] dX10_firstThatHolds_46 (by decide) rfl ?_
            refine v_iload X 0 dX10_firstThatHolds_48 rfl ?_
            refine v_if_ne X 73 dX10_firstThatHolds_50 (by decide) ⟨by decide, by decide⟩ (fun _ => ?_) (fun q => absurd (by decide) q)
            refine v_iload_n X 4 dX10_firstThatHolds_73 rfl rfl ?_
            refine hret _ _ _ _ _ _ _ _ _ _ _ (some (.int (iz i))) dX10_firstThatHolds_74 ⟨rfl, _, rfl⟩ (by decide) (by decide) (fun hmok => ?_)
            refine ⟨rfl, rfl, rfl, rfl, rfl, i, rfl, ⟨by omega, by omega⟩, ?_⟩
            try dsimp only
            refine ⟨?_, ⟨_, rfl⟩⟩
            subst ei
            rw [firstN_hit hno (by simp only [Bool.and_eq_true, Bool.or_eq_true, decide_eq_true_eq]; exact ⟨by omega, Or.inl (by omega)⟩) (by omega)]
  refine v_lv [1, 2, 3, 0] rfl ?_
  refine v_mem (M' := (mrow M 30 (M 30))) (by exact (mrow_self M 30).symm) rfl rfl ?_
  exact hl1 _ 0 0 (M 30) (by omega) (by omega) (rfl) (Nat.lt_succ_self _)

-- Text.amountOf
set_option maxHeartbeats 4000000 in
set_option maxRecDepth 100000 in
theorem c_X10_amountOf_24 (l : Launch) (D : va_G) (cy : Nat → ClassId) {N : Nat} {sh : MS} {ad : Nat → Nat} {M L : MI} {R : MR} (hS : Std N sh R) (q : Int) (hq : inR q) (hz : 0 ≤ M 24 7 ∧ M 24 7 ≤ 16) (hk0 : 0 ≤ q → q < M 24 7 → M 25 q ≠ 0) (hW : ∀ r : Int, 0 ≤ r → r < M 24 7 → (0 ≤ M 26 r ∧ M 26 r ≤ M 27 r ∧ M 27 r ≤ M 28 r ∧ M 28 r ≤ 400) ∧ (M 27 r ≠ M 28 r → cRun (M 29) (M 32) (M 27 r) (M 28 r - M 27 r).toNat ≠ []) ∧ (M 25 r ≠ 0 → cRun (M 29) (M 32) (M 26 r) (M 27 r - M 26 r).toNat ≠ [])) : Ctr l D cy yX10_amountOf wsX10_amountOf ({ frames := 2, cells := 0, slots := 0, locals := 49 } : Room) N sh ad M L R [.ref (ad 24), .int (iz q), .ref (ad 32)] (eI N sh ad L R (fun r M' => r = (if 0 ≤ q ∧ q < M 24 7 then max 0 (min 30 (cVal (M 29) (M 32) (M 26 q) (M 27 q))) else 0) ∧ ∃ g : Int → Int, M' = mrow M 30 g)) := by
  refine Ctr.ofI (by decide) rfl (Nat.le_of_ble_eq_true rfl) ?_
  intro K hKl hKd hRm hnm X hret
  have X : VX K cX10_amountOf 3 wsX10_amountOf RX10 := X
  show V K 3 0 0 N sh ad M L R [(0, .ref (ad 24)), (1, .int (iz q)), (2, .ref (ad 32))] [] 0
  refine v_iload_n X 1 dX10_amountOf_0 rfl rfl ?_
  refine v_if_lt X 18 dX10_amountOf_1 (by decide) ⟨by omega, by omega⟩ (fun u1 => ?_) (fun u1 => ?_)
  · skip
    refine v_iconst X dX10_amountOf_18 ?_
    refine hret _ _ _ _ _ _ _ _ _ _ _ (some (.int (iz 0))) dX10_amountOf_19 ⟨rfl, _, rfl⟩ (by decide) (by decide) (fun hmok => ?_)
    refine ⟨rfl, rfl, rfl, rfl, rfl, 0, rfl, ⟨by decide, by decide⟩, ?_⟩
    try dsimp only
    rw [if_neg (by omega)]
    exact ⟨rfl, M 30, (mrow_self M 30).symm⟩
  · skip
    refine v_iload_n X 1 dX10_amountOf_4 rfl rfl ?_
    refine v_aload_n X 0 dX10_amountOf_5 rfl rfl ?_
    refine gt_X10_size X iwX10 (Std.lt hS rfl) (Std.k hS rfl rfl) (List.mem_cons_of_mem _ bw_6_2) dX10_amountOf_6 (M 24 7) rfl (fun hr2 => ?_)
    refine v_icmp_ge X 18 dX10_amountOf_9 (by decide) ⟨by omega, by omega⟩ ⟨by omega, by omega⟩ (fun u3 => ?_) (fun u3 => ?_)
    · skip
      refine v_iconst X dX10_amountOf_18 ?_
      refine hret _ _ _ _ _ _ _ _ _ _ _ (some (.int (iz 0))) dX10_amountOf_19 ⟨rfl, _, rfl⟩ (by decide) (by decide) (fun hmok => ?_)
      refine ⟨rfl, rfl, rfl, rfl, rfl, 0, rfl, ⟨by decide, by decide⟩, ?_⟩
      try dsimp only
      rw [if_neg (by omega)]
      exact ⟨rfl, M 30, (mrow_self M 30).symm⟩
    · skip
      refine v_iload_n X 1 dX10_amountOf_12 rfl rfl ?_
      refine v_bipush X dX10_amountOf_13 (by decide) ?_
      refine v_icmp_lt X 20 dX10_amountOf_15 (by decide) ⟨by omega, by omega⟩ ⟨by decide, by decide⟩ (fun u4 => ?_) (fun u4 => ?_)
      · skip
        have hW9 := (hW q (by omega) (by omega)).1
        refine v_iconst X dX10_amountOf_20 ?_
        refine v_bipush X dX10_amountOf_21 (by decide) ?_
        refine v_aload_n X 0 dX10_amountOf_23 rfl rfl ?_
        refine v_aload_n X 0 dX10_amountOf_24 rfl rfl ?_
        refine gt_X10_starts X iwX10 (Std.lt hS rfl) (Std.k hS rfl rfl) (List.mem_cons_of_mem _ bw_5_20) dX10_amountOf_25 26 (Std.r hS 1 rfl) ?_
        refine v_iload_n X 1 dX10_amountOf_28 rfl rfl ?_
        refine v_iald X (M 26 q) (Std.lt hS rfl) (Std.at hS rfl rfl) (by omega) (by omega) dX10_amountOf_29 rfl (fun hr5 => ?_)
        refine v_aload_n X 0 dX10_amountOf_30 rfl rfl ?_
        refine gt_X10_conditions X iwX10 (Std.lt hS rfl) (Std.k hS rfl rfl) (List.mem_cons_of_mem _ bw_5_21) dX10_amountOf_31 27 (Std.r hS 2 rfl) ?_
        refine v_iload_n X 1 dX10_amountOf_34 rfl rfl ?_
        refine v_iald X (M 27 q) (Std.lt hS rfl) (Std.at hS rfl rfl) (by omega) (by omega) dX10_amountOf_35 rfl (fun hr6 => ?_)
        refine v_aload_n X 2 dX10_amountOf_36 rfl rfl ?_
        refine v_callV X [.int (iz (M 26 q)), .int (iz (M 27 q)), .ref (ad 32)] hRm (c_X10_work_24 _ _ _ hS (M 26 q) (M 27 q) (by omega) (by omega)) (gV bw_37_12 bw_37_13 bw_37_14 bw_2_10 bw_37_15) rfl ddX10_work (by decide) (Std.lt hS rfl) (Std.k hS rfl rfl) ⟨rfl, by decide⟩ (Nat.le_of_ble_eq_true rfl) dX10_amountOf_37 (k_eI (fun r7 M8 hr9 e10 => ?_))
        obtain ⟨g11, e10m, e10p, e10q⟩ := e10
        replace e10m : M8 = (mrow M 30 g11) := e10m.trans (by first | rfl | exact mrow_mrow _ _ _ _)
        subst e10m
        replace e10p : rep g11 (cRun (M 29) (M 32) (M 26 q) ((M 27 q) - (M 26 q)).toNat) := e10p
        obtain ⟨x12, u13⟩ : ∃ z : Int, z = min 30 r7 := ⟨_, rfl⟩
        refine v_min X x12 hRm (List.mem_cons_of_mem _ bw_38_0) (List.mem_cons_of_mem _ bw_32_4) (List.mem_cons_of_mem _ bw_18_8) (List.mem_cons_of_mem _ bw_32_5) ⟨Nat.le_of_ble_eq_true rfl, Nat.le_of_ble_eq_true rfl, Nat.le_of_ble_eq_true rfl, Nat.le_of_ble_eq_true rfl⟩ ⟨by decide, by decide⟩ ⟨by omega, by omega⟩ u13 dX10_amountOf_40 ?_
        obtain ⟨x14, u15⟩ : ∃ z : Int, z = max 0 x12 := ⟨_, rfl⟩
        refine v_max X x14 hRm (List.mem_cons_of_mem _ bw_37_16) (List.mem_cons_of_mem _ bw_18_7) (List.mem_cons_of_mem _ bw_18_8) (List.mem_cons_of_mem _ bw_18_9) ⟨Nat.le_of_ble_eq_true rfl, Nat.le_of_ble_eq_true rfl, Nat.le_of_ble_eq_true rfl, Nat.le_of_ble_eq_true rfl⟩ ⟨by decide, by decide⟩ ⟨by omega, by omega⟩ u15 dX10_amountOf_43 ?_
        refine hret _ _ _ _ _ _ _ _ _ _ _ (some (.int (iz x14))) dX10_amountOf_46 ⟨rfl, _, rfl⟩ (by decide) (by decide) (fun hmok => ?_)
        refine ⟨rfl, rfl, rfl, rfl, rfl, x14, rfl, ⟨by omega, by omega⟩, ?_⟩
        try dsimp only
        rw [if_pos (by omega)]
        refine ⟨?_, ⟨_, rfl⟩⟩
        have hL := rep_last e10p ((hW q (by omega) (by omega)).2.2 (hk0 (by omega) (by omega)))
        unfold cVal
        rw [← hL, ← e10q]
        omega
      · skip
        refine v_iconst X dX10_amountOf_18 ?_
        refine hret _ _ _ _ _ _ _ _ _ _ _ (some (.int (iz 0))) dX10_amountOf_19 ⟨rfl, _, rfl⟩ (by decide) (by decide) (fun hmok => ?_)
        refine ⟨rfl, rfl, rfl, rfl, rfl, 0, rfl, ⟨by decide, by decide⟩, ?_⟩
        try dsimp only
        rw [if_neg (by omega)]
        exact ⟨rfl, M 30, (mrow_self M 30).symm⟩

