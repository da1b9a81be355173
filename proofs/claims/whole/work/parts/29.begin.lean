/-! PREPARING: the planner's text, its lengths -/
theorem Std_setT {N : Nat} {sh : MS} {R : MR} (h : Std N sh R) (t : Nat) : Std N sh (mu R 31 7 (some t)) := by
  refine ⟨h.1, h.2.1, fun i k j hr => ?_⟩
  by_cases hi : i = 31
  · subst hi
    by_cases hk : k = 7
    · subst hk; rw [show rr0 31 7 = none by decide] at hr; cases hr
    · rw [mu_z _ _ _ (by omega)]; exact h.2.2 _ _ _ hr
  · rw [mu_i _ _ _ hi]; exact h.2.2 _ _ _ hr
/-- what the acts and their lengths reach -/
def frB (M M' : MI) : Prop := ∀ i : Nat, i = 6 ∨ i = 8 ∨ 112 ≤ i → M' i = M i
def frR (R R' : MR) : Prop := ∀ i : Nat, i = 7 ∨ 112 ≤ i → R' i = R i
theorem frR_setT (R : MR) (t : Nat) : frR R (mu R 31 7 (some t)) := fun i hi => mu_i _ _ _ (by omega)
theorem frR_refl (R : MR) : frR R R := fun _ _ => rfl
theorem frB_refl (M : MI) : frB M M := fun _ _ => rfl
theorem frC.b {M M' : MI} (h : frC M M') : frB M M' := fun i hi => h.1 i (by omega)
theorem FigOk_frB {M M' : MI} (h : frB M M') {sh : MS} {N g : Nat} (o : FigOk M sh N g) : FigOk M' sh N g := by
  unfold FigOk at o ⊢
  rw [h g (by omega)]
  exact o
theorem ActOk_frB {M M' : MI} (h : frB M M') {R R' : MR} (hR : frR R R') {sh : MS} {N a : Nat} (o : ActOk M R sh N a) : ActOk M' R' sh N a := by
  obtain ⟨o1, o2, o3, o4, o5, f, o6, o7, o8, o9, o10⟩ := o
  unfold ActOk
  rw [h a (by omega), hR a (by omega)]
  exact ⟨o1, o2, o3, o4, o5, f, o6, o7, o8, o9, fun j j1 j2 => by obtain ⟨g, g1, g2⟩ := o10 j j1 j2; exact ⟨g, by rw [hR f (by omega)]; exact g1, FigOk_frB h g2⟩⟩
theorem ShowOk_frB {M M' : MI} (h : frB M M') {R R' : MR} (hR : frR R R') {sh : MS} {N : Nat} (o : ShowOk M R sh N) : ShowOk M' R' sh N := by
  unfold ShowOk at o ⊢
  rw [h 6 (by omega), h 8 (by omega), hR 7 (by omega)]
  exact ⟨o.1, o.2.1, o.2.2.1, o.2.2.2.1, o.2.2.2.2.1, fun k k1 k2 => by obtain ⟨a, a1, a2⟩ := o.2.2.2.2.2 k k1 k2; exact ⟨a, a1, ActOk_frB h hR a2⟩⟩
theorem fAll_congr {rf rf' : Int → Bool} {mn mn' : Int → Int} : ∀ {n : Nat}, (∀ k : Int, 0 ≤ k → k < (n : Int) → rf' k = rf k ∧ mn' k = mn k) → fAll rf' mn' n = fAll rf mn n
  | 0, _ => rfl
  | n + 1, h => by
    have z := h (n : Int) (by omega) (by omega)
    rw [fAll_s, fAll_s, fAll_congr (fun k q1 q2 => h k q1 (by omega)), z.1, z.2]
theorem fTop_congr {rf rf' : Int → Bool} {ht ht' : Int → Int} : ∀ {n : Nat}, (∀ k : Int, 0 ≤ k → k < (n : Int) → rf' k = rf k ∧ ht' k = ht k) → fTop rf' ht' n = fTop rf ht n
  | 0, _ => rfl
  | n + 1, h => by
    have z := h (n : Int) (by omega) (by omega)
    rw [fTop_s, fTop_s, fTop_congr (fun k q1 q2 => h k q1 (by omega)), z.1, z.2]
theorem lenF_congr {n : Nat} {rf rf' hi hi' : Int → Bool} {mn mn' ht ht' : Int → Int} {b : Int} (h : ∀ k : Int, 0 ≤ k → k < (n : Int) → rf' k = rf k ∧ hi' k = hi k ∧ mn' k = mn k ∧ ht' k = ht k) : lenF n rf' hi' mn' ht' b = lenF n rf hi mn ht b := by
  unfold lenF
  rw [fTop_congr (rf := rf) (ht := ht) (fun k q1 q2 => ⟨(h k q1 q2).1, (h k q1 q2).2.2.2⟩), fAll_congr (rf := rf) (mn := mn) (fun k q1 q2 => ⟨(h k q1 q2).1, (h k q1 q2).2.2.1⟩), fTop_congr (rf := fun k => rf k || hi k) (ht := ht) (fun k q1 q2 => ⟨by rw [(h k q1 q2).1, (h k q1 q2).2.1], (h k q1 q2).2.2.2⟩), fAll_congr (rf := fun k => rf k || hi k) (mn := mn) (fun k q1 q2 => ⟨by rw [(h k q1 q2).1, (h k q1 q2).2.1], (h k q1 q2).2.2.1⟩)]
theorem cLen_frB {M M' : MI} (h : frB M M') {R R' : MR} (hR : frR R R') {sh : MS} {N q : Nat} (o : ActOk M R sh N q) (b : Int) : cLen M' R' q b = cLen M R q b := by
  have e7 := h q (by have := o.1; omega)
  unfold cLen
  rw [e7]
  refine lenF_congr (fun k k1 k2 => ?_)
  have hk : k < M q 7 := by have := o.2.2.2.1; omega
  have hf := cFig o k1 hk
  have hg : cG R' q k = cG R q k := by
    obtain ⟨_, _, _, _, _, f, o6, o7, _, _, _⟩ := o
    unfold cG
    rw [hR q (by omega), o6]
    show (R' f k).getD 0 = (R f k).getD 0
    rw [hR f (by omega)]
  have hm := h (cG R q k) (by have := hf.1; omega)
  unfold cRf cHi cMn cHt cFar
  rw [hg, hm, h 6 (by omega), h 8 (by omega)]
  exact ⟨rfl, rfl, rfl, rfl⟩
theorem iz_mod {x : Int} (h1 : 0 ≤ x) (h2 : x < 1000) : iz x - iz x / iz 10 * iz 10 = iz (x % 10) := by
  rw [show iz x / iz 10 = iz (x / 10) from iz_div (d := 10) (by omega) (by omega) (by decide) (by decide), iz_mul, iz_sub]
  congr 1
  omega
def lnC (M : MI) (R : MR) (z : Int) : Int := if z / 10 < M 6 1 then cLen M R (aId R (z / 10)) (z % 10) else 0

theorem ln_0 (f g : Int → Int) : (fun z => if 0 ≤ z ∧ z < (0 : Int) then f z else g z) = g := by
  funext z; rw [if_neg (by omega)]
theorem ln_s {f g : Int → Int} {i v : Int} (h : 0 ≤ i) (hv : v = f i) : (fun b => if b = i then v else (fun z => if 0 ≤ z ∧ z < i then f z else g z) b) = fun z => if 0 ≤ z ∧ z < i + 1 then f z else g z := by
  funext z
  by_cases e : z = i
  · rw [if_pos e, if_pos (by omega), hv, e]
  · rw [if_neg e]
    show (if 0 ≤ z ∧ z < i then f z else g z) = _
    by_cases q : 0 ≤ z ∧ z < i
    · rw [if_pos q, if_pos (by omega)]
    · rw [if_neg q, if_neg (by omega)]
theorem actOkR {M : MI} {R : MR} {sh : MS} {N : Nat} (o : ShowOk M R sh N) {a : Int} {q : Nat} (hq : R 7 a = some q) (h1 : 0 ≤ a) (h2 : a < M 6 1) : ActOk M R sh N q := by
  have := (actId o h1 h2).2
  rw [aId_of hq] at this
  exact this

-- begin
set_option maxHeartbeats 4000000 in
set_option maxRecDepth 100000 in
theorem c_X4_begin (l : Launch) (D : va_G) (cy : Nat → ClassId) {N : Nat} {sh : MS} {ad : Nat → Nat} {M L : MI} {R : MR} (hS : Std N sh R) (t : Nat) (ht : t < N) (hO : ShowOk M R sh N) : Ctr l D cy yX4_begin wsX4_begin ({ frames := 3, cells := 0, slots := 0, locals := 72 } : Room) N sh ad M L R [.ref (ad 31), .ref (ad t)] (eV N sh ad L (mu R 31 7 (some t)) (fun M' => (∀ i : Nat, ¬ (33 ≤ i ∧ i ≤ 34) → ¬ (41 ≤ i ∧ i ≤ 46) → M' i = M i) ∧ (∀ wo : Int → Int, rT wo M' []) ∧ rK M' [] ∧ ∀ z : Int, 0 ≤ z → z < 60 → M' 33 z = lnC M R z)) := by
  refine Ctr.ofV (by decide) rfl (Nat.le_of_ble_eq_true rfl) ?_
  intro K hKl hKd hRm hnm X hret
  have X : VX K cX4_begin 4 wsX4_begin RX4 := X
  show V K 4 0 0 N sh ad M L R [(0, .ref (ad 31)), (1, .ref (ad t))] [] 0
  have hO1 := hO.1
  refine v_aload_n X 0 dX4_begin_0 rfl rfl ?_
  refine v_aload_n X 1 dX4_begin_1 rfl rfl ?_
  refine pt_X4_text X iwX4 (Std.lt hS rfl) (Std.k hS rfl rfl) (List.mem_cons_of_mem _ bw_6_16) t ht dX4_begin_2 ?_
  have hS0 := hS
  have hO0 := hO
  have hS := Std_setT hS0 t
  have hO := ShowOk_frB (frB_refl M) (frR_setT R t) hO0
  refine v_aload_n X 0 dX4_begin_5 rfl rfl ?_
  refine gt_X4_trial X iwX4 (Std.lt hS rfl) (Std.k hS rfl rfl) (List.mem_cons_of_mem _ bw_6_13) dX4_begin_6 41 (Std.r hS 6 rfl) ?_
  refine v_callV X [] hRm (c_X3_clear_41 _ _ _ hS) (gV bw_33_7 bw_7_3 bw_7_4 bw_2_19 bw_7_5) rfl ddX3_clear (by decide) (Std.lt hS rfl) (Std.k hS rfl rfl) ⟨rfl, by decide⟩ (Nat.le_of_ble_eq_true rfl) dX4_begin_9 (k_eV (fun M2 e1 => ?_))
  replace e1 : M2 = (mu (mu (mrow (mrow (mrow (mrow (mrow M 42 (filz (M 42) 6 (-1))) 43 (filz (M 43) 6 (-1))) 44 (filz (M 44) 6 (-1))) 45 (filz (M 45) 6 (-1))) 46 (filz (M 46) 6 (-1))) 41 5 0) 41 6 0) := e1
  subst e1
  refine v_iconst X dX4_begin_12 ?_
  refine v_istore_n X [(2, .int (iz 0)), (0, .ref (ad 31)), (1, .ref (ad t))] dX4_begin_13 rfl (by decide) rfl ?_
  have hl3 : ∀ (n5 : Nat) (i : Int), (0 ≤ i ∧ i ≤ 240) → (240 - i).toNat < n5 → V K 4 0 0 N sh ad (mrow (mu (mu (mrow (mrow (mrow (mrow (mrow M 42 (filz (M 42) 6 (-1))) 43 (filz (M 43) 6 (-1))) 44 (filz (M 44) 6 (-1))) 45 (filz (M 45) 6 (-1))) 46 (filz (M 46) 6 (-1))) 41 5 0) 41 6 0) 34 (filz (M 34) i 0)) L (mu R 31 7 (some t)) [(0, .ref (ad 31)), (1, .ref (ad t)), (2, .int (iz i))] [] 14 := by
    intro n5
    induction n5 with
    | zero => intro i hi hn6; exact absurd hn6 (Nat.not_lt_zero _)
    | succ n5 ih4 =>
      intro i hi hn6
      refine v_iload_n X 2 dX4_begin_14 rfl rfl ?_
      refine v_sipush X dX4_begin_15 (by decide) ?_
      refine v_icmp_ge X 34 dX4_begin_18 (by decide) ⟨by omega, by omega⟩ ⟨by decide, by decide⟩ (fun u7 => ?_) (fun u7 => ?_)
      · skip
        refine v_iconst X dX4_begin_34 ?_
        refine v_istore_n X [(2, .int (iz 0)), (0, .ref (ad 31)), (1, .ref (ad t))] dX4_begin_35 rfl (by decide) rfl ?_
        have hl8 : ∀ (n10 : Nat) (i : Int), (0 ≤ i ∧ i ≤ 60) → (60 - i).toNat < n10 → V K 4 0 0 N sh ad (mrow (mrow (mu (mu (mrow (mrow (mrow (mrow (mrow M 42 (filz (M 42) 6 (-1))) 43 (filz (M 43) 6 (-1))) 44 (filz (M 44) 6 (-1))) 45 (filz (M 45) 6 (-1))) 46 (filz (M 46) 6 (-1))) 41 5 0) 41 6 0) 34 (filz (M 34) 240 0)) 33 (fun z => if 0 ≤ z ∧ z < i then lnC M R z else M 33 z)) L (mu R 31 7 (some t)) [(0, .ref (ad 31)), (1, .ref (ad t)), (2, .int (iz i))] [] 36 := by
          intro n10
          induction n10 with
          | zero => intro i hi hn11; exact absurd hn11 (Nat.not_lt_zero _)
          | succ n10 ih9 =>
            intro i hi hn11
            refine v_iload_n X 2 dX4_begin_36 rfl rfl ?_
            refine v_aload_n X 0 dX4_begin_37 rfl rfl ?_
            refine gt_X4_lengths X iwX4 (Std.lt hS rfl) (Std.k hS rfl rfl) (List.mem_cons_of_mem _ bw_6_8) dX4_begin_38 33 (Std.r hS 3 rfl) ?_
            refine v_alenI X (Std.lt hS rfl) (Std.at hS rfl rfl) dX4_begin_41 ?_
            refine v_icmp_ge X 89 dX4_begin_42 (by decide) ⟨by omega, by omega⟩ ⟨by decide, by decide⟩ (fun u12 => ?_) (fun u12 => ?_)
            · skip
              refine hret _ _ _ _ _ _ _ _ _ _ _ none dX4_begin_89 ⟨rfl, rfl⟩ (by decide) (by decide) (fun hmok => ?_)
              refine ⟨rfl, rfl, rfl, rfl, rfl, rfl, ?_⟩
              dsimp only
              obtain rfl : i = 60 := by omega
              refine ⟨fun k k1 k2 => ?_, fun wo => ⟨⟨rfl, rfl⟩, trivial, fun k k1 k2 => ?_, fun a a1 a2 => ⟨?_, ?_, ?_, ?_⟩⟩, fun m m1 m2 => ?_, fun z z1 z2 => ?_⟩
              · rw [mrow_i _ _ (by omega), mrow_i _ _ (by omega), mu_i _ _ _ (by omega), mu_i _ _ _ (by omega), mrow_i _ _ (by omega), mrow_i _ _ (by omega), mrow_i _ _ (by omega), mrow_i _ _ (by omega), mrow_i _ _ (by omega)]
              · have k1 : (0 : Int) ≤ k := k1
                show filz (M 42) 6 (-1) k = -1
                unfold filz; rw [if_pos ⟨k1, k2⟩]
              · show filz (M 43) 6 (-1) a = -1
                unfold filz; rw [if_pos ⟨a1, a2⟩]
              · show filz (M 44) 6 (-1) a = -1
                unfold filz; rw [if_pos ⟨a1, a2⟩]
              · show filz (M 45) 6 (-1) a = -1
                unfold filz; rw [if_pos ⟨a1, a2⟩]
              · show filz (M 46) 6 (-1) a = -1
                unfold filz; rw [if_pos ⟨a1, a2⟩]
              · show filz (M 34) 240 0 m = 0
                unfold filz; rw [if_pos ⟨m1, m2⟩]
              · show (if 0 ≤ z ∧ z < 60 then lnC M R z else M 33 z) = lnC M R z
                rw [if_pos ⟨z1, z2⟩]
            · skip
              refine v_aload_n X 0 dX4_begin_45 rfl rfl ?_
              refine gt_X4_show X iwX4 (Std.lt hS rfl) (Std.k hS rfl rfl) (List.mem_cons_of_mem _ bw_6_14) dX4_begin_46 6 (Std.r hS 0 rfl) ?_
              refine v_iload_n X 2 dX4_begin_49 rfl rfl ?_
              refine v_bipush X dX4_begin_50 (by decide) ?_
              refine v_idiv X (i / 10) dX4_begin_52 (by decide) (iz_div (d := 10) (by omega) (by omega) (by decide) (by decide)) ?_
              refine v_callV X [.int (iz (i / 10))] hRm (c_X7_actAt _ _ _ hS (i / 10) ⟨by omega, by omega⟩ (ShowOk_frB (fun i hi => (by rw [mrow_i _ _ (by omega), mrow_i _ _ (by omega), mu_i _ _ _ (by omega), mu_i _ _ _ (by omega), mrow_i _ _ (by omega), mrow_i _ _ (by omega), mrow_i _ _ (by omega), mrow_i _ _ (by omega), mrow_i _ _ (by omega)])) (frR_refl _) hO)) (gV bw_33_8 bw_24_6 bw_24_7 bw_1_22 bw_24_8) rfl ddX7_actAt (by decide) (Std.lt hS rfl) (Std.k hS rfl rfl) ⟨rfl, by decide⟩ (Nat.le_of_ble_eq_true rfl) dX4_begin_53 (k_pR (fun r13 e14 => ?_))
              rcases e14 with ⟨rfl, o16n⟩ | ⟨q15, rfl, o16r, o16b, o16k⟩
              · skip
                replace o16n : ¬ (0 ≤ (i / 10) ∧ (i / 10) < M 6 1) := o16n
                refine v_st (st' := [.null]) rfl ?_
                refine v_astore_nN X [(3, .null), (0, .ref (ad 31)), (1, .ref (ad t)), (2, .int (iz i))] dX4_begin_56 rfl (by decide) rfl ?_
                refine v_aload_n X 1 dX4_begin_57 rfl rfl ?_
                refine gt_X4_lengths X iwX4 (Std.lt hS rfl) (Std.k hS rfl rfl) (List.mem_cons_of_mem _ bw_6_8) dX4_begin_58 33 (Std.r hS 3 rfl) ?_
                refine v_iload_n X 3 dX4_begin_61 rfl rfl ?_
                refine v_aload_nN X 0 dX4_begin_62 rfl rfl ?_
                refine v_ifnonnullN X dX4_begin_63 ?_
                refine v_iconst X dX4_begin_66 ?_
                refine v_goto X 82 dX4_begin_67 (by decide) ?_
                refine v_iast X (Std.lt hS rfl) (Std.at hS rfl rfl) (by omega) (by omega) ⟨by decide, by decide⟩ dX4_begin_82 ?_
                refine v_iinc X 3 [(2, .int (iz (i + 1))), (3, .null), (0, .ref (ad 31)), (1, .ref (ad t))] dX4_begin_83 rfl (by decide) rfl ?_
                refine v_goto X 36 dX4_begin_86 (by decide) ?_
                refine v_lv [2, 3, 0] rfl ?_
                refine v_mem (M' := (mrow (mrow (mu (mu (mrow (mrow (mrow (mrow (mrow M 42 (filz (M 42) 6 (-1))) 43 (filz (M 43) 6 (-1))) 44 (filz (M 44) 6 (-1))) 45 (filz (M 45) 6 (-1))) 46 (filz (M 46) 6 (-1))) 41 5 0) 41 6 0) 34 (filz (M 34) 240 0)) 33 (fun z => if 0 ≤ z ∧ z < (i + 1) then lnC M R z else M 33 z))) (by rw [mu_mrow, ln_s hi.1 (by unfold lnC; rw [if_neg (by omega)])]) rfl rfl ?_
                exact ih9 (i + 1) (by omega) (by omega)
              · skip
                replace o16b : (0 ≤ (i / 10) ∧ (i / 10) < M 6 1) := o16b
                have q15B : 112 ≤ q15 := o16k.1
                refine v_st (st' := [.ref (ad q15)]) rfl ?_
                refine v_astore_n X [(3, .ref (ad q15)), (0, .ref (ad 31)), (1, .ref (ad t)), (2, .int (iz i))] dX4_begin_56 rfl (by decide) rfl ?_
                refine v_aload_n X 1 dX4_begin_57 rfl rfl ?_
                refine gt_X4_lengths X iwX4 (Std.lt hS rfl) (Std.k hS rfl rfl) (List.mem_cons_of_mem _ bw_6_8) dX4_begin_58 33 (Std.r hS 3 rfl) ?_
                refine v_iload_n X 3 dX4_begin_61 rfl rfl ?_
                refine v_aload_n X 0 dX4_begin_62 rfl rfl ?_
                refine v_ifnonnull X 70 dX4_begin_63 (by decide) ?_
                refine v_aload_n X 1 dX4_begin_70 rfl rfl ?_
                refine gt_X4_show X iwX4 (Std.lt hS rfl) (Std.k hS rfl rfl) (List.mem_cons_of_mem _ bw_6_14) dX4_begin_71 6 (Std.r hS 0 rfl) ?_
                refine v_aload_n X 0 dX4_begin_74 rfl rfl ?_
                refine v_iload_n X 3 dX4_begin_75 rfl rfl ?_
                refine v_bipush X dX4_begin_76 (by decide) ?_
                refine v_irem X (i % 10) dX4_begin_78 (by decide) (iz_mod (by omega) (by omega)) ?_
                refine v_callV X [.ref (ad q15), .int (iz (i % 10))] hRm (c_X7_minutesInBox _ _ _ hS q15 (i % 10) (by omega) (ShowOk_frB (fun i hi => (by rw [mrow_i _ _ (by omega), mrow_i _ _ (by omega), mu_i _ _ _ (by omega), mu_i _ _ _ (by omega), mrow_i _ _ (by omega), mrow_i _ _ (by omega), mrow_i _ _ (by omega), mrow_i _ _ (by omega), mrow_i _ _ (by omega)])) (frR_refl _) hO) o16k) (gV bw_33_9 bw_30_3 bw_30_4 bw_1_22 bw_30_5) rfl ddX7_minutesInBox (by decide) (Std.lt hS rfl) (Std.k hS rfl rfl) ⟨rfl, by decide⟩ (Nat.le_of_ble_eq_true rfl) dX4_begin_79 (k_pI (fun r17 hr18 e19 => ?_))
                have hrl9 : ∀ z : Int, z = cLen M R q15 (i % 10) → z = cLen M R q15 (i % 10) := fun _ h => h
                refine v_iast X (Std.lt hS rfl) (Std.at hS rfl rfl) (by omega) (by omega) ⟨by omega, by omega⟩ dX4_begin_82 ?_
                refine v_iinc X 3 [(2, .int (iz (i + 1))), (3, .ref (ad q15)), (0, .ref (ad 31)), (1, .ref (ad t))] dX4_begin_83 rfl (by decide) rfl ?_
                refine v_goto X 36 dX4_begin_86 (by decide) ?_
                refine v_lv [2, 3, 0] rfl ?_
                refine v_mem (M' := (mrow (mrow (mu (mu (mrow (mrow (mrow (mrow (mrow M 42 (filz (M 42) 6 (-1))) 43 (filz (M 43) 6 (-1))) 44 (filz (M 44) 6 (-1))) 45 (filz (M 45) 6 (-1))) 46 (filz (M 46) 6 (-1))) 41 5 0) 41 6 0) 34 (filz (M 34) 240 0)) 33 (fun z => if 0 ≤ z ∧ z < (i + 1) then lnC M R z else M 33 z))) (by rw [mu_mrow, ln_s hi.1 (by rw [e19]; unfold lnC; rw [if_pos (by omega), show aId R (i / 10) = q15 from aId_of (show R 7 (i / 10) = some q15 from o16r)]; exact cLen_frB (fun i hi => (by rw [mrow_i _ _ (by omega), mrow_i _ _ (by omega), mu_i _ _ _ (by omega), mu_i _ _ _ (by omega), mrow_i _ _ (by omega), mrow_i _ _ (by omega), mrow_i _ _ (by omega), mrow_i _ _ (by omega), mrow_i _ _ (by omega)])) (frR_setT R t) (actOkR hO0 (show R 7 (i / 10) = some q15 from o16r) (by omega) (by omega)) _)]) rfl rfl ?_
                exact ih9 (i + 1) (by omega) (by omega)
        refine v_lv [1, 2, 0] rfl ?_
        refine v_mem (M' := (mrow (mrow (mu (mu (mrow (mrow (mrow (mrow (mrow M 42 (filz (M 42) 6 (-1))) 43 (filz (M 43) 6 (-1))) 44 (filz (M 44) 6 (-1))) 45 (filz (M 45) 6 (-1))) 46 (filz (M 46) 6 (-1))) 41 5 0) 41 6 0) 34 (filz (M 34) 240 0)) 33 (fun z => if 0 ≤ z ∧ z < 0 then lnC M R z else M 33 z))) (by obtain rfl : i = 240 := (by omega); rw [ln_0]; exact (mrow_self _ 33).symm) rfl rfl ?_
        exact hl8 _ 0 (by omega) (Nat.lt_succ_self _)
      · skip
        refine v_aload_n X 0 dX4_begin_21 rfl rfl ?_
        refine gt_X4_taken X iwX4 (Std.lt hS rfl) (Std.k hS rfl rfl) (List.mem_cons_of_mem _ bw_6_10) dX4_begin_22 34 (Std.r hS 4 rfl) ?_
        refine v_iload_n X 2 dX4_begin_25 rfl rfl ?_
        refine v_iconst X dX4_begin_26 ?_
        refine v_zast X (Std.lt hS rfl) (Std.at hS rfl rfl) (by omega) (by omega) ⟨by decide, by decide⟩ dX4_begin_27 ?_
        refine v_iinc X 2 [(2, .int (iz (i + 1))), (0, .ref (ad 31)), (1, .ref (ad t))] dX4_begin_28 rfl (by decide) rfl ?_
        refine v_goto X 14 dX4_begin_31 (by decide) ?_
        refine v_lv [1, 2, 0] rfl ?_
        refine v_mem (M' := (mrow (mu (mu (mrow (mrow (mrow (mrow (mrow M 42 (filz (M 42) 6 (-1))) 43 (filz (M 43) 6 (-1))) 44 (filz (M 44) 6 (-1))) 45 (filz (M 45) 6 (-1))) 46 (filz (M 46) 6 (-1))) 41 5 0) 41 6 0) 34 (filz (M 34) (i + 1) 0))) (by rw [mu_mrow, filz_f _ _ _ hi.1]) rfl rfl ?_
        exact ih4 (i + 1) (by omega) (by omega)
  refine v_lv [1, 2, 0] rfl ?_
  refine v_mem (M' := (mrow (mu (mu (mrow (mrow (mrow (mrow (mrow M 42 (filz (M 42) 6 (-1))) 43 (filz (M 43) 6 (-1))) 44 (filz (M 44) 6 (-1))) 45 (filz (M 45) 6 (-1))) 46 (filz (M 46) 6 (-1))) 41 5 0) 41 6 0) 34 (filz (M 34) 0 0))) (by rw [filz_z]; exact (mrow_self _ 34).symm) rfl rfl ?_
  exact hl3 _ 0 (by omega) (Nat.lt_succ_self _)

