/-! THE START: what the tables' words and the Statement's premises give at the law's entry -/
theorem arr_of {args : Array Value} {s : State} {ty : FieldType} (h : (Cond.arrayClass ty).before args s = true) : ∃ cA : ClassId, ArrOfT s cA ty ∧ s.vm.findClass ("[" ++ ty.toString) = some cA := by
  obtain ⟨c, k, comp, h1, h2, h3⟩ := Cond.arrayClass_spec h
  exact ⟨c, fun n z => ⟨fun k h => (by cases h), k, h2, comp, h3⟩, h1⟩
theorem arq_of {args : Array Value} {s : State} {C : String} (h : (Cond.arrayOver (.object C)).before args s = true) : ∃ cA : ClassId, ArrOfT s cA (.object C) ∧ va_RA s cA (.object C) := by
  obtain ⟨comp, c, k, h1, h2, h3, h4, h5⟩ := Cond.arrayOver_spec h
  exact ⟨c, fun n z => ⟨fun k h => (by cases h), k, h3, comp, h4⟩, k, comp, h3, h4, h1, h5⟩
theorem cls_of {args : Array Value} {s : State} (hts : ∀ w ∈ wsL_law, w.before args s = true) : ∃ D : va_G, ∀ (c : Nat) (q : vw_C), vwCl[c]? = some q → u_Kn s q.1 q.2.1 q.2.2 (D.1 c) (D.2 c) := by
  have h : ∀ c : Nat, ∃ d : ClassId × (Nat → Nat), ∀ q : vw_C, vwCl[c]? = some q → u_Kn s q.1 q.2.1 q.2.2 d.1 d.2 := by
    intro c
    match c with
    | 0 =>
      obtain ⟨a, b, h⟩ := u_known (C := RX0) (T := TX0) (N := 8) (n := 8) hts inlX0 (hts _ bw_22_21)
      exact ⟨(a, b), fun q hq => by cases hq; exact h⟩
    | 1 =>
      obtain ⟨a, b, h⟩ := u_known (C := RX1) (T := TX1) (N := 4) (n := 4) hts inlX1 (hts _ bw_2_1)
      exact ⟨(a, b), fun q hq => by cases hq; exact h⟩
    | 2 =>
      obtain ⟨a, b, h⟩ := u_known (C := RX2) (T := TX2) (N := 4) (n := 4) hts inlX2 (hts _ bw_24_3)
      exact ⟨(a, b), fun q hq => by cases hq; exact h⟩
    | 3 =>
      obtain ⟨a, b, h⟩ := u_known (C := RX3) (T := TX3) (N := 7) (n := 7) hts inlX3 (hts _ bw_2_18)
      exact ⟨(a, b), fun q hq => by cases hq; exact h⟩
    | 4 =>
      obtain ⟨a, b, h⟩ := u_known (C := RX4) (T := TX4) (N := 8) (n := 8) hts inlX4 (hts _ bw_2_14)
      exact ⟨(a, b), fun q hq => by cases hq; exact h⟩
    | 5 =>
      obtain ⟨a, b, h⟩ := u_known (C := RX5) (T := TX5) (N := 6) (n := 6) hts inlX5 (hts _ bw_1_17)
      exact ⟨(a, b), fun q hq => by cases hq; exact h⟩
    | 6 =>
      obtain ⟨a, b, h⟩ := u_known (C := RX6) (T := TX6) (N := 5) (n := 5) hts inlX6 (hts _ bw_3_13)
      exact ⟨(a, b), fun q hq => by cases hq; exact h⟩
    | 7 =>
      obtain ⟨a, b, h⟩ := u_known (C := RX7) (T := TX7) (N := 6) (n := 6) hts inlX7 (hts _ bw_1_21)
      exact ⟨(a, b), fun q hq => by cases hq; exact h⟩
    | 8 =>
      obtain ⟨a, b, h⟩ := u_known (C := RX8) (T := TX8) (N := 3) (n := 3) hts inlX8 (hts _ bw_2_5)
      exact ⟨(a, b), fun q hq => by cases hq; exact h⟩
    | 9 =>
      obtain ⟨a, b, h⟩ := u_known (C := RX9) (T := TX9) (N := 2) (n := 2) hts inlX9 (hts _ bw_1_13)
      exact ⟨(a, b), fun q hq => by cases hq; exact h⟩
    | 10 =>
      obtain ⟨a, b, h⟩ := u_known (C := RX10) (T := TX10) (N := 8) (n := 8) hts inlX10 (hts _ bw_2_9)
      exact ⟨(a, b), fun q hq => by cases hq; exact h⟩
    | 11 =>
      obtain ⟨a, b, h⟩ := u_known (C := RX11) (T := TX11) (N := 11) (n := 11) hts inlX11 (hts _ bw_1_1)
      exact ⟨(a, b), fun q hq => by cases hq; exact h⟩
    | 12 =>
      obtain ⟨a, b, h⟩ := u_known (C := RX12) (T := TX12) (N := 85) (n := 85) hts inlX12 (hts _ bw_1_4)
      exact ⟨(a, b), fun q hq => by cases hq; exact h⟩
    | k + 13 => exact ⟨(0, fun _ => 0), fun q hq => by simp at hq⟩
  exact ⟨(fun c => (Classical.choose (h c)).1, fun c => (Classical.choose (h c)).2), fun c q hq => Classical.choose_spec (h c) q hq⟩
set_option maxRecDepth 20000 in
theorem byt_at : ∀ j : Fin 120, (flatC (Jvm.Cond.and given_1 narrow_1))[13 + j.val]? = some (Cond.eq (.elem (.field (.string RX6 61) "java/lang/String" "value" "[B") (.int (Int32.ofNat j.val))) (.int (bytW.getD j.val 0))) := by decide +kernel
set_option maxRecDepth 20000 in
theorem start_all {args : Array Value} {s : State} (hts : ∀ w ∈ lw_tbl, w.before args s = true) (hgv : (Jvm.Cond.and given_1 narrow_1).before args s = true) : ∃ (D : va_G) (cy : Nat → ClassId), va_K D vwCl (tysOf cy) s ∧ Zz cy (fun q : Nat => s.heap.size ≤ q) s := by
  have hs := flat_of_before _ hgv
  have hA : ∀ a : Nat, a < s.heap.size → ¬ (fun q : Nat => s.heap.size ≤ q) a := fun a h => Nat.not_le.mpr h
  obtain ⟨D, hD⟩ := cls_of (fun w hw => hts w (wsL_law_in w hw))
  obtain ⟨b1, b2, b3⟩ := arr_of (hts (Cond.arrayClass .byte) (wsL_law_in _ bw_3_3))
  obtain ⟨i1, i2, i3⟩ := arr_of (hts (Cond.arrayClass .int) (wsL_law_in _ bw_3_10))
  obtain ⟨l1, l2, l3⟩ := arr_of (hts (Cond.arrayClass .long) (wsL_law_in _ bw_7_19))
  obtain ⟨z1, z2, z3⟩ := arr_of (hts (Cond.arrayClass .boolean) (wsL_law_in _ bw_6_9))
  have ao0 := hts (Cond.arrayOver (.object RX0)) (tT1 (List.mem_of_getElem? (i := 107) (by decide +kernel)))
  have ao2 := hts (Cond.arrayOver (.object RX2)) (tT3 (List.mem_of_getElem? (i := 52) (by decide +kernel)))
  obtain ⟨p1, p2, p3⟩ := arq_of ao0
  obtain ⟨q1, q2, q3⟩ := arq_of ao2
  obtain ⟨adK, adV, hk, hev⟩ := vk_Sof (N := 1) (tm := fun _ => .string RX6 61) (len := [120]) (byt := [bytW]) (A := fun q : Nat => s.heap.size ≤ q) (args := args) (s := s)
    (fun i hi => by have : i = 0 := (by omega); subst this; decide)
    (fun i hi => hs _ (List.mem_of_getElem? (i := 9) (by decide +kernel)))
    (fun i hi => hs _ (List.mem_of_getElem? (i := 10) (by decide +kernel)))
    (fun i hi => hs _ (List.mem_of_getElem? (i := 11) (by decide +kernel)))
    (fun i hi => by have : i = 0 := (by omega); subst this; exact hs _ (List.mem_of_getElem? (i := 12) (by decide +kernel)))
    (fun i hi j hj => by have : i = 0 := (by omega); subst this; exact hs _ (List.mem_of_getElem? (byt_at ⟨j, hj⟩)))
    (fun i j hi hj hne => absurd (show i = j by omega) hne) hA
  have zc : va_Z "java/lang/String" "COMPACT_STRINGS" "Z" (.int 1) (fun q : Nat => s.heap.size ≤ q) s s.heap := va_Zof (hts (Cond.laysStatic "java/lang/String" "COMPACT_STRINGS" "Z") (tT2 (List.mem_of_getElem? (i := 153) (by decide +kernel)))) (hts (Cond.initialized "java/lang/String") (tT1 (List.mem_of_getElem? (i := 13) (by decide +kernel)))) (va_eqi (hs _ (List.mem_of_getElem? (i := 4) (by decide +kernel)))) hA
  have zs : va_Zq "jdk/internal/util/Preconditions" "SIOOBE_FORMATTER" "Ljava/util/function/BiFunction;" (fun q : Nat => s.heap.size ≤ q) s s.heap := va_Zqof (hts (Cond.laysStatic "jdk/internal/util/Preconditions" "SIOOBE_FORMATTER" "Ljava/util/function/BiFunction;") (tT2 (List.mem_of_getElem? (i := 169) (by decide +kernel)))) (hts (Cond.initialized "jdk/internal/util/Preconditions") (tT1 (List.mem_of_getElem? (i := 15) (by decide +kernel)))) (hs _ (List.mem_of_getElem? (i := 5) (by decide +kernel))) hA
  have sr : (Cond.stringRef RX6 61 txW).before args s = true := hts _ (tT2 (List.mem_of_getElem? (i := 143) (by decide +kernel)))
  obtain ⟨f1, f2, hf⟩ : ∃ f1 f2 : Nat, va_Z "jdk/internal/util/Preconditions" "SIOOBE_FORMATTER" "Ljava/util/function/BiFunction;" (va_rf (if f1 = 0 then none else some f2)) (fun q : Nat => s.heap.size ≤ q) s s.heap := by
    rcases zs with h | ⟨t, h⟩
    · exact ⟨0, 0, h⟩
    · exact ⟨1, t, h⟩
  refine ⟨D, fun n => if n = 13 then b1 else if n = 14 then i1 else if n = 15 then l1 else if n = 16 then z1 else if n = 17 then p1 else if n = 18 then q1 else if n = 100 then adK 0 else if n = 101 then adV 0 else if n = 102 then f1 else f2, ⟨hD, ?_⟩, ?_, ?_, zc, hf, va_AO.of ao0, va_AO.of ao2⟩
  · intro k q hq
    match k, hq with
    | 0, hq => cases hq; exact ⟨b2, b3⟩
    | 1, hq => cases hq; exact ⟨i2, i3⟩
    | 2, hq => cases hq; exact ⟨l2, l3⟩
    | 3, hq => cases hq; exact ⟨z2, z3⟩
    | 4, hq => cases hq; exact ⟨p2, p3⟩
    | 5, hq => cases hq; exact ⟨q2, q3⟩
    | k + 6, hq => simp at hq
  · exact ⟨fun i hi => by have : i = 0 := (by omega); subst this; exact hk.1 0 hi, fun i j hi hj _ => by omega⟩
  · exact vk_R.of sr (hev 0 (by decide))
