/-! numbers and the JDK's rows -/
theorem iz_nI (n : Nat) : nI n = iz (n : Int) := iz_ofNat n
theorem iz_div {p : Int} {d : Nat} (h : 0 ≤ p) (h2 : p < 2147483648) (h0 : 0 < d) (hd : d < 2147483648) : iz p / iz (d : Int) = iz (p / (d : Int)) := by
  obtain ⟨n, rfl⟩ := Int.eq_ofNat_of_zero_le h
  rw [← iz_nI, ← iz_nI, pk_div (by omega) h0 (by omega), iz_nI]
  rfl
theorem iz_ne0 {d : Int} (h : inR d) (h0 : d ≠ 0) : ¬ iz d = 0 := fun e => h0 ((iz_eq h in0).mp (by rw [iz_0]; exact e))
section RowsJ
variable {K : VK} {cc : ByteArray} {nL cells slots N : Nat} {Ts : List Cond} {own : String} {sh : MS} {ad : Nat → Nat} {M L : MI} {R : MR} {lv : List (Nat × Value)} {rest : List Value} {pc : Nat}
theorem v_acopy (X : VX K cc nL Ts own) {rmC : Room} {index i j n0 n1 : Nat} (n : Nat) (hRm : K.1.2.2.2.1 = rmC) (hl : Cond.methodLink own index arraycopyName ∈ Ts) (hnat : Cond.native arraycopyName ∈ Ts) (hst : Cond.static arraycopyName ∈ Ts) (hini : Cond.initialized "java/lang/System" ∈ Ts) (hN : i < N) (hs : sh i = (14, n0)) (hN2 : j < N) (hs2 : sh j = (14, n1)) (hn : n ≤ n0 ∧ n ≤ n1 ∧ n ≤ 100000) (hroom : 1 ≤ rmC.frames ∧ (rest.map fun v => v.category).sum + 18 ≤ rmC.locals) (hd : decode cc pc = .ok (.invokestatic index, 3))
    (kk : V K nL cells slots N sh ad (mrow M j (fun z => if 0 ≤ z ∧ z < (n : Int) then M i z else M j z)) L R lv rest (pc + 3)) : V K nL cells slots N sh ad M L R lv (.int (iz (n : Int)) :: .int (iz 0) :: .ref (ad j) :: .int (iz 0) :: .ref (ad i) :: rest) pc := by
  subst hRm
  intro H locs ls hW hS hL
  have hr : inR (n : Int) := ⟨by omega, by omega⟩
  have z0 : (iz 0).toNatClampNeg = 0 := by rw [iz_nc in0]; rfl
  have zn : (iz (n : Int)).toNatClampNeg = n := by rw [iz_nc hr]; omega
  refine va_copyi (D := K.2.2.2.2.1) X.1 X.2.1 (by rw [X.2.2.1]; exact hL.1.symm) X.2.2.2.1 (X.2.2.2.2.1 _ hl) (X.2.2.2.2.1 _ hnat) (X.2.2.2.2.1 _ hst) (X.2.2.2.2.1 _ hini) X.2.2.2.2.2.1 hW.1 hW.2.1 hS i j 1 1 (c0 := K.2.2.2.2.2 14) (c1 := K.2.2.2.2.2 14) (n0 := n0) (n1 := n1) (f := fun k => iz (M i (k : Int))) (g := fun k => iz (M j (k : Int))) (ty := .int) ((wl_get hN).trans (by rw [cellE_int hs (by decide)])) ((wl_get hN2).trans (by rw [cellE_int hs2 (by decide)])) rfl rfl rfl (by decide) (by decide) (fun h => by have := (iz_lt hr in0).mp (by rw [iz_0]; exact h); omega) (by rw [z0, zn]; omega) (by rw [z0, zn]; omega) (fun _ _ => rfl) hroom.1 hroom.2 hd (fun H1 locs1 hP1 hD1 hS1 => ?_)
  rw [z0, zn] at hP1 hD1
  have e : (wl N ad (cellE K.2.2.2.2.2 sh ad M L R)).set j (ad j, .inl (K.2.2.2.2.2 14, n1, .inl (va_cpy (fun k : Nat => iz (M i (k : Int))) (fun k : Nat => iz (M j (k : Int))) 0 0 n))) = wl N ad (cellE K.2.2.2.2.2 sh ad (mrow M j (fun z => if 0 ≤ z ∧ z < (n : Int) then M i z else M j z)) L R) := wl_set (by
    rw [cellE_int hs2 (by decide), mrow_s]
    congr 4
    funext k
    unfold va_cpy
    by_cases e : k < n
    · rw [if_pos (by omega), if_pos (by omega)]
      simp
    · rw [if_neg (by omega), if_neg (by omega)]) (fun q hq => cellE_congr rfl (mrow_i _ _ hq) rfl (fun _ => rfl))
  rw [e] at hP1 hD1
  refine kk H1 locs1 ls ⟨hP1, hD1, ?_⟩ hS1 hL
  obtain ⟨a, b, c, d, f⟩ := hW.2.2
  refine ⟨fun q y => ?_, fun q y h => ?_, fun q y h => ?_, d, f⟩
  · by_cases hq : q = j
    · subst hq
      rw [mrow_s]
      show inR (if 0 ≤ y ∧ y < (n : Int) then M i y else M q y)
      split
      · exact a i y
      · exact a q y
    · rw [mrow_i _ _ hq]; exact a q y
  · by_cases hq : q = j
    · subst hq; rw [hs2] at h; cases h
    · rw [mrow_i _ _ hq]; exact b q y h
  · by_cases hq : q = j
    · subst hq; rw [hs2] at h; cases h
    · rw [mrow_i _ _ hq]; exact c q y h
end RowsJ
/-- a row filled up to i -/
def filz (f : Int → Int) (i v : Int) : Int → Int := fun k => if 0 ≤ k ∧ k < i then v else f k
theorem filz_0 (M : MI) (o : Nat) (v : Int) : M = mrow M o (filz (M o) 0 v) := by
  funext a b
  by_cases h : a = o
  · subst h
    simp only [mrow, filz, if_true]
    rw [if_neg (by omega)]
  · simp only [mrow, h, if_false]
theorem filz_s (M : MI) (o : Nat) (i v : Int) (f : Int → Int) (h0 : 0 ≤ i) : mu (mrow M o (filz f i v)) o i v = mrow M o (filz f (i + 1) v) := by
  funext a b
  by_cases h : a = o
  · subst h
    simp only [mu, mrow, filz, if_true]
    repeat' split
    all_goals first | rfl | omega
  · simp only [mu, mrow, h, if_false]

-- Arrays.fill
set_option maxHeartbeats 4000000 in
set_option maxRecDepth 100000 in
theorem c_J7_fill_53178 (l : Launch) (D : va_G) (cy : Nat → ClassId) {N : Nat} {sh : MS} {ad : Nat → Nat} {M L : MI} {R : MR} (o n : Nat) (v : Int) (ho : o < N) (hso : sh o = (14, n)) (hv : inR v) (hn : n ≤ 100000) : Ctr l D cy yJ7_fill_53178 wsJ7_fill_53178 ({ frames := 0, cells := 0, slots := 0, locals := 0 } : Room) N sh ad M L R [.ref (ad o), .int (iz v)] (eV N sh ad L R (fun M' => M' = mrow M o (filz (M o) (n : Int) v))) := by
  refine Ctr.ofV (by decide) rfl (Nat.le_of_ble_eq_true rfl) ?_
  intro K hKl hKd hRm hnm X hret
  have X : VX K cJ7_fill_53178 4 wsJ7_fill_53178 RJ7 := X
  show V K 4 0 0 N sh ad M L R [(0, .ref (ad o)), (1, .int (iz v))] [] 0
  refine v_iconst X dJ7_fill_53178_0 ?_
  refine v_istore_n X [(2, .int (iz 0)), (0, .ref (ad o)), (1, .int (iz v))] dJ7_fill_53178_1 rfl (by decide) rfl ?_
  refine v_aload_n X 1 dJ7_fill_53178_2 rfl rfl ?_
  refine v_alenI X ho hso dJ7_fill_53178_3 ?_
  refine v_istore_n X [(3, .int (iz (n : Int))), (2, .int (iz 0)), (0, .ref (ad o)), (1, .int (iz v))] dJ7_fill_53178_4 rfl (by decide) rfl ?_
  have hl1 : ∀ (n3 : Nat) (i : Int), (0 ≤ i ∧ i ≤ n) → ((n : Int) - i).toNat < n3 → V K 4 0 0 N sh ad (mrow M o (filz (M o) i v)) L R [(0, .ref (ad o)), (1, .int (iz v)), (2, .int (iz i)), (3, .int (iz (n : Int)))] [] 5 := by
    intro n3
    induction n3 with
    | zero => intro i hi hn4; exact absurd hn4 (Nat.not_lt_zero _)
    | succ n3 ih2 =>
      intro i hi hn4
      refine v_iload_n X 2 dJ7_fill_53178_5 rfl rfl ?_
      refine v_iload_n X 3 dJ7_fill_53178_6 rfl rfl ?_
      refine v_icmp_ge X 20 dJ7_fill_53178_7 (by decide) ⟨by omega, by omega⟩ ⟨by omega, by omega⟩ (fun u5 => ?_) (fun u5 => ?_)
      · skip
        refine hret _ _ _ _ _ _ _ _ _ _ _ none dJ7_fill_53178_20 ⟨rfl, rfl⟩ (by decide) (by decide) (fun hmok => ?_)
        refine ⟨rfl, rfl, rfl, rfl, rfl, rfl, ?_⟩
        try dsimp only
        have e : i = (n : Int) := by omega
        rw [e]
      · skip
        refine v_aload_n X 0 dJ7_fill_53178_10 rfl rfl ?_
        refine v_iload_n X 2 dJ7_fill_53178_11 rfl rfl ?_
        refine v_iload_n X 1 dJ7_fill_53178_12 rfl rfl ?_
        refine v_iast X ho hso (by omega) (by omega) ⟨by omega, by omega⟩ dJ7_fill_53178_13 ?_
        refine v_iinc X 2 [(2, .int (iz (i + 1))), (0, .ref (ad o)), (1, .int (iz v)), (3, .int (iz (n : Int)))] dJ7_fill_53178_14 rfl (by decide) rfl ?_
        refine v_goto X 5 dJ7_fill_53178_17 (by decide) ?_
        refine v_lv [1, 2, 0, 3] rfl ?_
        refine v_mem (M' := (mrow M o (filz (M o) (i + 1) v))) (by exact filz_s M o i v _ (by omega)) rfl rfl ?_
        exact ih2 (i + 1) (by omega) (by omega)
  refine v_lv [2, 3, 1, 0] rfl ?_
  refine v_mem (M' := (mrow M o (filz (M o) 0 v))) (by exact filz_0 M o v) rfl rfl ?_
  exact hl1 _ 0 (by omega) (Nat.lt_succ_self _)

