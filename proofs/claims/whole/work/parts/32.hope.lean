/-! THE CLASS'S SEARCH: what is kept, the last landing, what can't be better -/
theorem sameN_congr {f f' g : Int → Int} : ∀ {n : Nat}, (∀ k : Int, 0 ≤ k → k < (n : Int) → f' k = f k) → sameN f' g n = sameN f g n
  | 0, _ => rfl
  | n + 1, h => by
    show sameN f' g n + _ = sameN f g n + _
    rw [sameN_congr (fun k q1 q2 => h k q1 (by omega)), h (n : Int) (by omega) (by omega)]
theorem sameN_cons {g : Int → Int} {f : Fl} {p : List Fl} (h1 : 0 ≤ fa f) (h2 : 0 ≤ fg f) (hn : inF p (fa f) = false) : ∀ n : Nat, sameN (lkF fg (f :: p)) g n = sameN (lkF fg p) g n + (if fa f < (n : Int) then (if g (fa f) = fg f then 1 else 0) else 0)
  | 0 => by
    show 0 = 0 + (if fa f < ((0 : Nat) : Int) then _ else 0)
    rw [if_neg (by omega)]; rfl
  | n + 1 => by
    show sameN (lkF fg (f :: p)) g n + (if (if fa f = (n : Int) then fg f else lkF fg p (n : Int)) ≠ -1 ∧ (if fa f = (n : Int) then fg f else lkF fg p (n : Int)) = g (n : Int) then 1 else 0) = sameN (lkF fg p) g n + (if lkF fg p (n : Int) ≠ -1 ∧ lkF fg p (n : Int) = g (n : Int) then 1 else 0) + (if fa f < ((n + 1 : Nat) : Int) then (if g (fa f) = fg f then 1 else 0) else 0)
    rw [sameN_cons h1 h2 hn n]
    by_cases z : fa f = (n : Int)
    · rw [if_neg (show ¬ fa f < (n : Int) by omega), if_pos (show fa f < ((n + 1 : Nat) : Int) by omega), if_pos z, show lkF fg p (n : Int) = -1 by rw [← z]; exact lkF_no hn, z]
      by_cases y : g (n : Int) = fg f
      · rw [if_pos ⟨by omega, y.symm⟩, if_pos y, if_neg (by omega)]
      · rw [if_neg (by rintro ⟨_, q⟩; exact y q.symm), if_neg y, if_neg (by omega)]
    · rw [if_neg z]
      by_cases y : fa f < (n : Int)
      · rw [if_pos y, if_pos (show fa f < ((n + 1 : Nat) : Int) by omega)]; omega
      · rw [if_neg y, if_neg (show ¬ fa f < ((n + 1 : Nat) : Int) by omega)]; omega
theorem sameN_nil (g : Int → Int) : ∀ n : Nat, sameN (lkF fg []) g n = 0
  | 0 => rfl
  | n + 1 => by
    show sameN (lkF fg []) g n + (if lkF fg [] (n : Int) ≠ -1 ∧ lkF fg [] (n : Int) = g (n : Int) then 1 else 0) = 0
    rw [sameN_nil g n, if_neg (fun z => z.1 rfl)]; rfl
theorem sameN_L {A : Int} {n : Nat} {g : Int → Int} (hA : A ≤ (n : Int)) : ∀ {p : List Fl}, okF A p → sameN (lkF fg p) g n = kpL g p
  | [], _ => sameN_nil g n
  | f :: p, o => by
    rw [sameN_cons o.1.1 o.2.2.2.1.1 o.2.1, sameN_L hA o.2.2.2.2.2, if_pos (by have := o.1.2; omega)]
    rfl
theorem rpX_same {w : Int → Int} {z y : Int} {r t b m l g : Int → Int} {A : Int} {p : List Fl} (hA : A ≤ 6) (o : okF A p) (h : rpX w z y r t b m l p) : sameB b g 6 = kpL g p := by
  show sameN b g 6 = kpL g p
  rw [← sameN_L (n := 6) hA o]
  exact sameN_congr (fun k k1 k2 => (h.2.2.2 k k1 k2).2.1)
theorem lastL_congr {f f' : Int → Int} (h : ∀ k : Int, 0 ≤ k → k < 6 → f' k = f k) : lastL f' = lastL f := by
  unfold lastL
  rw [h 0 (by decide) (by decide), h 1 (by decide) (by decide), h 2 (by decide) (by decide), h 3 (by decide) (by decide), h 4 (by decide) (by decide), h 5 (by decide) (by decide)]
theorem lastL_L {A : Int} (hA : A ≤ 6) : ∀ {p : List Fl}, okF A p → lastL (lkF fn p) = laL p
  | [], _ => rfl
  | f :: p, o => by
    have ih := lastL_L hA o.2.2.2.2.2
    have hn := lkF_no (s := fn) o.2.1
    have h3 := o.2.2.1
    show lastL (fun a => if fa f = a then fn f else lkF fn p a) = max (laL p) (fn f)
    rw [← ih]
    have h1 := o.1
    rcases (show fa f = 0 ∨ fa f = 1 ∨ fa f = 2 ∨ fa f = 3 ∨ fa f = 4 ∨ fa f = 5 by omega) with q | q | q | q | q | q <;>
      (rw [q] at hn ⊢; unfold lastL; rw [hn]; simp only [if_true, if_false, show ((0 : Int) = 1) = False by simp, show ((0 : Int) = 2) = False by simp, show ((0 : Int) = 3) = False by simp, show ((0 : Int) = 4) = False by simp, show ((0 : Int) = 5) = False by simp, show ((1 : Int) = 0) = False by simp, show ((1 : Int) = 2) = False by simp, show ((1 : Int) = 3) = False by simp, show ((1 : Int) = 4) = False by simp, show ((1 : Int) = 5) = False by simp, show ((2 : Int) = 0) = False by simp, show ((2 : Int) = 1) = False by simp, show ((2 : Int) = 3) = False by simp, show ((2 : Int) = 4) = False by simp, show ((2 : Int) = 5) = False by simp, show ((3 : Int) = 0) = False by simp, show ((3 : Int) = 1) = False by simp, show ((3 : Int) = 2) = False by simp, show ((3 : Int) = 4) = False by simp, show ((3 : Int) = 5) = False by simp, show ((4 : Int) = 0) = False by simp, show ((4 : Int) = 1) = False by simp, show ((4 : Int) = 2) = False by simp, show ((4 : Int) = 3) = False by simp, show ((4 : Int) = 5) = False by simp, show ((5 : Int) = 0) = False by simp, show ((5 : Int) = 1) = False by simp, show ((5 : Int) = 2) = False by simp, show ((5 : Int) = 3) = False by simp, show ((5 : Int) = 4) = False by simp]; omega)
theorem rpX_la {w : Int → Int} {z y : Int} {r t b m l : Int → Int} {A : Int} {p : List Fl} (hA : A ≤ 6) (o : okF A p) (h : rpX w z y r t b m l p) : lastL l = laL p := by
  rw [← lastL_L hA o]
  exact lastL_congr (fun k k1 k2 => (h.2.2.2 k k1 k2).2.2.2)
theorem kpL_b {g : Int → Int} : ∀ {p : List Fl}, 0 ≤ kpL g p ∧ kpL g p ≤ (p.length : Int)
  | [] => ⟨Int.le_refl _, Int.le_refl _⟩
  | f :: p => by
    have ih := kpL_b (g := g) (p := p)
    show 0 ≤ kpL g p + (if g (fa f) = fg f then 1 else 0) ∧ kpL g p + (if g (fa f) = fg f then 1 else 0) ≤ ((p.length + 1 : Nat) : Int)
    split <;> omega
def nsA (g : Int → Int) (p : List Fl) : Nat → Int
  | 0 => 0
  | n + 1 => nsA g p n + (if inF p (n : Int) = true then 0 else g (n : Int))
theorem nsA_s (g : Int → Int) (p : List Fl) (n : Nat) : nsA g p (n + 1) = nsA g p n + (if inF p (n : Int) = true then 0 else g (n : Int)) := rfl
def hopL (A : Nat) (w g : Int → Int) (p q : List Fl) : Bool := decide ((wL w p + nsA w p A < wL w q) ∨ (wL w p + nsA w p A = wL w q ∧ (kpL g p + nsA (fun a => if g a ≠ -1 then 1 else 0) p A < kpL g q ∨ (kpL g p + nsA (fun a => if g a ≠ -1 then 1 else 0) p A = kpL g q ∧ laL q ≤ laL p))))
theorem rT_drop {wo : Int → Int} {M M' : MI} {p : List Fl} {f : Fl} {A : Int} (hA : A ≤ 6) (h : rT wo M (f :: p)) (o : okF A (f :: p)) (hM : ∀ i : Nat, 41 ≤ i → i ≤ 46 → M' i = (mu (mu (mu (mu (mu (mu (mu M 43 (fa f) (-1)) 44 (fa f) (-1)) 45 (fa f) (-1)) 46 (fa f) (-1)) 41 5 (M 41 5 - 1)) 42 (M 41 5 - 1) (-1)) 41 6 (M 41 6 - wo (fa f))) i) : rT wo M' p := by
  obtain ⟨⟨h1, h2⟩, h3, h4, h5⟩ := h
  have hl := okF_le (n := 6) (by omega) o
  simp only [List.length_cons] at hl h1 h4
  unfold rT
  rw [hM 41 (by decide) (by decide), hM 42 (by decide) (by decide), hM 43 (by decide) (by decide), hM 44 (by decide) (by decide), hM 45 (by decide) (by decide), hM 46 (by decide) (by decide)]
  refine ⟨⟨?_, ?_⟩, ?_, ?_, ?_⟩
  · show M 41 5 - 1 = (p.length : Int); omega
  · show M 41 6 - wo (fa f) = wL wo p
    rw [h2]
    show wL wo p + wo (fa f) - wo (fa f) = wL wo p
    omega
  · refine rpO_congr h3.2 (fun k k1 k2 => ?_)
    show (if k = M 41 5 - 1 then -1 else M 42 k) = M 42 k
    rw [if_neg (by omega)]
  · intro k k1 k2
    show (if k = M 41 5 - 1 then -1 else M 42 k) = -1
    by_cases z : k = M 41 5 - 1
    · rw [if_pos z]
    · rw [if_neg z]
      exact h4 k (by omega) k2
  · intro a a1 a2
    have h6 := h5 a a1 a2
    unfold lkF at h6
    refine ⟨?_, ?_, ?_, ?_⟩
    · show (if a = fa f then -1 else M 43 a) = lkF fo p a
      by_cases z : a = fa f
      · rw [if_pos z, z]; exact (lkF_no o.2.1).symm
      · rw [if_neg z, h6.1, if_neg (fun y => z y.symm)]
    · show (if a = fa f then -1 else M 44 a) = lkF fg p a
      by_cases z : a = fa f
      · rw [if_pos z, z]; exact (lkF_no o.2.1).symm
      · rw [if_neg z, h6.2.1, if_neg (fun y => z y.symm)]
    · show (if a = fa f then -1 else M 45 a) = lkF fm p a
      by_cases z : a = fa f
      · rw [if_pos z, z]; exact (lkF_no o.2.1).symm
      · rw [if_neg z, h6.2.2.1, if_neg (fun y => z y.symm)]
    · show (if a = fa f then -1 else M 46 a) = lkF fn p a
      by_cases z : a = fa f
      · rw [if_pos z, z]; exact (lkF_no o.2.1).symm
      · rw [if_neg z, h6.2.2.2, if_neg (fun y => z y.symm)]
theorem rK_drop {M M' : MI} {p : List Fl} {f : Fl} {A : Int} (o : okF A (f :: p)) (h : rK M (f :: p)) (hM : M' 34 = (mu (mu M 34 (fo f) 0) 34 (fn f) 0) 34) : rK M' p := by
  intro m m1 m2
  rw [hM]
  show (if m = fn f then 0 else if m = fo f then 0 else M 34 m) = if tkL p m = true then 1 else 0
  by_cases z : m = fn f
  · rw [if_pos z, z, o.2.2.2.2.1.2]; rfl
  · rw [if_neg z]
    by_cases y : m = fo f
    · rw [if_pos y, y, o.2.2.2.2.1.1]; rfl
    · rw [if_neg y, h m m1 m2]
      show (if (tkL p m || (decide (fo f = m) || decide (fn f = m))) = true then 1 else 0) = _
      rw [show decide (fn f = m) = false from decide_eq_false (fun x => z x.symm), show decide (fo f = m) = false from decide_eq_false (fun x => y x.symm), Bool.or_false, Bool.or_false]

-- callBack
set_option maxHeartbeats 4000000 in
set_option maxRecDepth 100000 in
theorem c_X4_callBack (l : Launch) (D : va_G) (cy : Nat → ClassId) {N : Nat} {sh : MS} {ad : Nat → Nat} {M L : MI} {R : MR} (hS : Std N sh R) (wo : Int → Int) (f : Fl) (p : List Fl) (hO : ShowOk M R sh N) (hT : rT wo M (f :: p)) (hK : rK M (f :: p)) (ho : okF (M 6 1) (f :: p)) (hwa : ∀ a : Int, 0 ≤ a → a < M 6 1 → wo a = cWo M R a) : Ctr l D cy yX4_callBack wsX4_callBack ({ frames := 2, cells := 0, slots := 0, locals := 43 } : Room) N sh ad M L R [.ref (ad 31)] (eV N sh ad L R (fun M' => rT wo M' p ∧ rK M' p ∧ frC M M' ∧ ∀ i : Nat, 35 ≤ i → i ≤ 40 → M' i = M i)) := by
  refine Ctr.ofV (by decide) rfl (Nat.le_of_ble_eq_true rfl) ?_
  intro K hKl hKd hRm hnm X hret
  have X : VX K cX4_callBack 3 wsX4_callBack RX4 := X
  show V K 3 0 0 N sh ad M L R [(0, .ref (ad 31))] [] 0
  have hO1 := hO.1
  have hla := rpX_last (by omega) ho hT
  have hla2 : laA (f :: p) = fa f := rfl
  have o1 := ho.1
  have o3 := ho.2.2.1
  have o4 := ho.2.2.2.1
  have h5 := hT.2.2.2 (fa f) o1.1 (by omega)
  have e1 : lkF fo (f :: p) (fa f) = fo f := by unfold lkF; rw [if_pos rfl]
  have e2 : lkF fg (f :: p) (fa f) = fg f := by unfold lkF; rw [if_pos rfl]
  have e4 : lkF fn (f :: p) (fa f) = fn f := by unfold lkF; rw [if_pos rfl]
  rw [e1, e2, e4] at h5
  have h41 := hT.1
  have hlen := okF_le (n := 6) (by omega) ho
  simp only [List.length_cons] at h41 hlen
  have hwb : ∀ a : Int, 0 ≤ a → a < M 6 1 → 0 ≤ wo a ∧ wo a ≤ 100 := fun a a1 a2 => by rw [hwa a a1 a2]; exact (actId hO a1 a2).2.2.2.2.2.1.2.2.1
  have hwl := wL_b hwb ho
  have hwf := hwb (fa f) o1.1 o1.2
  simp only [List.length_cons] at hwl
  refine v_aload_n X 0 dX4_callBack_0 rfl rfl ?_
  refine gt_X4_trial X iwX4 (Std.lt hS rfl) (Std.k hS rfl rfl) (List.mem_cons_of_mem _ bw_6_13) dX4_callBack_1 41 (Std.r hS 6 rfl) ?_
  refine v_callV X [] hRm (c_X3_lastAct_41 _ _ _ hS) (gV bw_35_17 bw_35_18 bw_35_19 bw_2_19 bw_35_20) rfl ddX3_lastAct (by decide) (Std.lt hS rfl) (Std.k hS rfl rfl) ⟨rfl, by decide⟩ (Nat.le_of_ble_eq_true rfl) dX4_callBack_4 (k_pI (fun r1 hr2 e3 => ?_))
  replace e3 : r1 = fa f := e3.trans (hla.trans hla2)
  subst e3
  refine v_istore_n X [(1, .int (iz (fa f))), (0, .ref (ad 31))] dX4_callBack_7 rfl (by decide) rfl ?_
  refine v_aload_n X 1 dX4_callBack_8 rfl rfl ?_
  refine gt_X4_show X iwX4 (Std.lt hS rfl) (Std.k hS rfl rfl) (List.mem_cons_of_mem _ bw_6_14) dX4_callBack_9 6 (Std.r hS 0 rfl) ?_
  refine v_iload_n X 0 dX4_callBack_12 rfl rfl ?_
  refine v_callV X [.int (iz (fa f))] hRm (c_X7_actAt _ _ _ hS (fa f) ⟨by omega, by omega⟩ hO) (gV bw_33_8 bw_24_6 bw_24_7 bw_1_22 bw_24_8) rfl ddX7_actAt (by decide) (Std.lt hS rfl) (Std.k hS rfl rfl) ⟨rfl, by decide⟩ (Nat.le_of_ble_eq_true rfl) dX4_callBack_13 (k_pR (fun r4 e5 => ?_))
  rcases e5 with ⟨rfl, o7n⟩ | ⟨q6, rfl, o7r, o7b, o7k⟩
  · skip
    exfalso; omega
  · skip
    have q6B : 112 ≤ q6 := o7k.1
    refine v_st (st' := [.ref (ad q6)]) rfl ?_
    refine v_astore_n X [(2, .ref (ad q6)), (1, .int (iz (fa f))), (0, .ref (ad 31))] dX4_callBack_16 rfl (by decide) rfl ?_
    refine v_aload_n X 0 dX4_callBack_17 rfl rfl ?_
    refine v_ifnull X dX4_callBack_18 ?_
    refine v_aload_n X 2 dX4_callBack_21 rfl rfl ?_
    refine gt_X4_trial X iwX4 (Std.lt hS rfl) (Std.k hS rfl rfl) (List.mem_cons_of_mem _ bw_6_13) dX4_callBack_22 41 (Std.r hS 6 rfl) ?_
    refine v_iload_n X 1 dX4_callBack_25 rfl rfl ?_
    refine v_callV X [.int (iz (fa f))] hRm (c_X3_has_41 _ _ _ hS (fa f) ⟨by omega, by omega⟩) (gV bw_34_22 bw_34_23 bw_35_0 bw_2_19 bw_35_1) rfl ddX3_has (by decide) (Std.lt hS rfl) (Std.k hS rfl rfl) ⟨rfl, by decide⟩ (Nat.le_of_ble_eq_true rfl) dX4_callBack_26 (k_pB (fun b8 => ?_) (fun q => absurd (by omega) q))
    refine v_if_eq X 73 dX4_callBack_29 (by decide) ⟨by decide, by decide⟩ (fun q => absurd q (by decide)) (fun _ => ?_)
    have hwq : wo (fa f) = M q6 2 := by rw [hwa _ o1.1 o1.2]; unfold cWo; rw [aId_of o7r]
    have h42 : M 42 (M 41 5 - 1) = fa f := by rw [show M 41 5 - 1 = (p.length : Int) by omega]; exact hT.2.1.1
    refine v_aload_n X 2 dX4_callBack_32 rfl rfl ?_
    refine gt_X4_taken X iwX4 (Std.lt hS rfl) (Std.k hS rfl rfl) (List.mem_cons_of_mem _ bw_6_10) dX4_callBack_33 34 (Std.r hS 4 rfl) ?_
    refine v_aload_n X 2 dX4_callBack_36 rfl rfl ?_
    refine gt_X4_trial X iwX4 (Std.lt hS rfl) (Std.k hS rfl rfl) (List.mem_cons_of_mem _ bw_6_13) dX4_callBack_37 41 (Std.r hS 6 rfl) ?_
    refine gt_X3_takeOff X iwX3 (Std.lt hS rfl) (Std.k hS rfl rfl) (List.mem_cons_of_mem _ bw_38_9) dX4_callBack_40 43 (Std.r hS 1 rfl) ?_
    refine v_iload_n X 1 dX4_callBack_43 rfl rfl ?_
    refine v_iald X (M 43 (fa f)) (Std.lt hS rfl) (Std.at hS rfl rfl) (by omega) (by omega) dX4_callBack_44 rfl (fun hr9 => ?_)
    refine v_iconst X dX4_callBack_45 ?_
    refine v_zast X (Std.lt hS rfl) (Std.at hS rfl rfl) (by omega) (by omega) ⟨by decide, by decide⟩ dX4_callBack_46 ?_
    refine v_aload_n X 2 dX4_callBack_47 rfl rfl ?_
    refine gt_X4_taken X iwX4 (Std.lt hS rfl) (Std.k hS rfl rfl) (List.mem_cons_of_mem _ bw_6_10) dX4_callBack_48 34 (Std.r hS 4 rfl) ?_
    refine v_aload_n X 2 dX4_callBack_51 rfl rfl ?_
    refine gt_X4_trial X iwX4 (Std.lt hS rfl) (Std.k hS rfl rfl) (List.mem_cons_of_mem _ bw_6_13) dX4_callBack_52 41 (Std.r hS 6 rfl) ?_
    refine gt_X3_landing X iwX3 (Std.lt hS rfl) (Std.k hS rfl rfl) (List.mem_cons_of_mem _ bw_38_10) dX4_callBack_55 46 (Std.r hS 4 rfl) ?_
    refine v_iload_n X 1 dX4_callBack_58 rfl rfl ?_
    refine v_iald X (M 46 (fa f)) (Std.lt hS rfl) (Std.at hS rfl rfl) (by omega) (by omega) dX4_callBack_59 rfl (fun hr10 => ?_)
    refine v_iconst X dX4_callBack_60 ?_
    refine v_zast X (Std.lt hS rfl) (Std.at hS rfl rfl) (by omega) (by omega) ⟨by decide, by decide⟩ dX4_callBack_61 ?_
    refine v_aload_n X 2 dX4_callBack_62 rfl rfl ?_
    refine gt_X4_trial X iwX4 (Std.lt hS rfl) (Std.k hS rfl rfl) (List.mem_cons_of_mem _ bw_6_13) dX4_callBack_63 41 (Std.r hS 6 rfl) ?_
    refine v_aload_n X 0 dX4_callBack_66 rfl rfl ?_
    refine gt_X0_worth X iwX0 o7k.2.1 o7k.2.2.1 (List.mem_cons_of_mem _ bw_34_21) dX4_callBack_67 (M q6 2) (by rw [mu_i _ _ _ (by omega), mu_i _ _ _ (by omega)]) (fun hr11 => ?_)
    refine v_callV X [.int (iz (M q6 2))] hRm (c_X3_dropLast_41 _ _ _ hS (M q6 2) ⟨by omega, by omega⟩ (show 0 < M 41 5 ∧ M 41 5 ≤ 6 from ⟨by omega, by omega⟩) (show 0 ≤ M 42 (M 41 5 - 1) ∧ M 42 (M 41 5 - 1) < 6 ∧ M 44 (M 42 (M 41 5 - 1)) ≠ -1 by rw [h42]; exact ⟨by omega, by omega, by omega⟩) (show inR (M 41 6 - (M q6 2)) from ⟨by omega, by omega⟩)) (gV bw_38_11 bw_38_12 bw_38_13 bw_2_19 bw_38_14) rfl ddX3_dropLast (by decide) (Std.lt hS rfl) (Std.k hS rfl rfl) ⟨rfl, by decide⟩ (Nat.le_of_ble_eq_true rfl) dX4_callBack_70 (k_eV (fun M13 e12 => ?_))
    replace e12 : M13 = (mu (mu (mu (mu (mu (mu (mu (mu (mu M 34 (M 43 (fa f)) 0) 34 (M 46 (fa f)) 0) 43 (M 42 (M 41 5 - 1)) (-1)) 44 (M 42 (M 41 5 - 1)) (-1)) 45 (M 42 (M 41 5 - 1)) (-1)) 46 (M 42 (M 41 5 - 1)) (-1)) 41 5 (M 41 5 - 1)) 42 (M 41 5 - 1) (-1)) 41 6 (M 41 6 - (M q6 2))) := e12
    subst e12
    refine hret _ _ _ _ _ _ _ _ _ _ _ none dX4_callBack_73 ⟨rfl, rfl⟩ (by decide) (by decide) (fun hmok => ?_)
    refine ⟨rfl, rfl, rfl, rfl, rfl, rfl, ?_⟩
    rw [h42]
    refine ⟨rT_drop (by omega) hT ho (fun i i1 i2 => ?_), rK_drop ho hK ?_, ⟨fun i hi => (by rw [mu_i _ _ _ (by omega), mu_i _ _ _ (by omega), mu_i _ _ _ (by omega), mu_i _ _ _ (by omega), mu_i _ _ _ (by omega), mu_i _ _ _ (by omega), mu_i _ _ _ (by omega), mu_i _ _ _ (by omega), mu_i _ _ _ (by omega)]), fun _ _ => rfl⟩, (fun i i1 i2 => (by rw [mu_i _ _ _ (by omega), mu_i _ _ _ (by omega), mu_i _ _ _ (by omega), mu_i _ _ _ (by omega), mu_i _ _ _ (by omega), mu_i _ _ _ (by omega), mu_i _ _ _ (by omega), mu_i _ _ _ (by omega), mu_i _ _ _ (by omega)]))⟩
    · rw [hwq]
      funext k
      rcases (show i = 41 ∨ i = 42 ∨ i = 43 ∨ i = 44 ∨ i = 45 ∨ i = 46 by omega) with z | z | z | z | z | z <;> (subst z; rfl)
    · rw [← h5.1, ← h5.2.2.2]
      rfl

-- isBetter
set_option maxHeartbeats 4000000 in
set_option maxRecDepth 100000 in
theorem c_X4_isBetter (l : Launch) (D : va_G) (cy : Nat → ClassId) {N : Nat} {sh : MS} {ad : Nat → Nat} {M L : MI} {R : MR} (hS : Std N sh R) (wo : Int → Int) (p q : List Fl) (hA : 0 ≤ M 6 1 ∧ M 6 1 ≤ 6) (hT : rT wo M p) (hQ : rQ wo M q) (ho : okF (M 6 1) p) (hoq : okF (M 6 1) q) : Ctr l D cy yX4_isBetter wsX4_isBetter ({ frames := 2, cells := 0, slots := 0, locals := 35 } : Room) N sh ad M L R [.ref (ad 31), .ref (ad 47)] (pB N sh ad M L R (betL wo (M 50) p q = true)) := by
  refine Ctr.ofZ (by decide) rfl (Nat.le_of_ble_eq_true rfl) ?_
  intro K hKl hKd hRm hnm X hret
  have X : VX K cX4_isBetter 4 wsX4_isBetter RX4 := X
  show V K 4 0 0 N sh ad M L R [(0, .ref (ad 31)), (1, .ref (ad 47))] [] 0
  have t6 := hT.1.2
  have q6 := hQ.1.2
  refine v_aload_n X 0 dX4_isBetter_0 rfl rfl ?_
  refine gt_X4_trial X iwX4 (Std.lt hS rfl) (Std.k hS rfl rfl) (List.mem_cons_of_mem _ bw_6_13) dX4_isBetter_1 41 (Std.r hS 6 rfl) ?_
  refine gt_X3_worth X iwX3 (Std.lt hS rfl) (Std.k hS rfl rfl) (List.mem_cons_of_mem _ bw_33_14) dX4_isBetter_4 (M 41 6) rfl (fun hr1 => ?_)
  refine v_aload_n X 0 dX4_isBetter_7 rfl rfl ?_
  refine gt_X4_best X iwX4 (Std.lt hS rfl) (Std.k hS rfl rfl) (List.mem_cons_of_mem _ bw_6_12) dX4_isBetter_8 35 (Std.r hS 5 rfl) ?_
  refine gt_X3_worth X iwX3 (Std.lt hS rfl) (Std.k hS rfl rfl) (List.mem_cons_of_mem _ bw_33_14) dX4_isBetter_11 (M 35 6) rfl (fun hr2 => ?_)
  refine v_icmp_eq X 40 dX4_isBetter_14 (by decide) ⟨by omega, by omega⟩ ⟨by omega, by omega⟩ (fun u3 => ?_) (fun u3 => ?_)
  · skip
    refine v_aload_n X 0 dX4_isBetter_40 rfl rfl ?_
    refine gt_X4_trial X iwX4 (Std.lt hS rfl) (Std.k hS rfl rfl) (List.mem_cons_of_mem _ bw_6_13) dX4_isBetter_41 41 (Std.r hS 6 rfl) ?_
    refine v_aload_n X 1 dX4_isBetter_44 rfl rfl ?_
    refine v_callV X [.ref (ad 47)] hRm (c_X3_sameBegins_41_47 _ _ _ hS) (gV bw_34_0 bw_34_1 bw_34_2 bw_2_19 bw_34_3) rfl ddX3_sameBegins (by decide) (Std.lt hS rfl) (Std.k hS rfl rfl) ⟨rfl, by decide⟩ (Nat.le_of_ble_eq_true rfl) dX4_isBetter_45 (k_pI (fun r4 hr5 e6 => ?_))
    rw [rpX_same (by omega) ho hT] at e6
    refine v_istore_n X [(2, .int (iz r4)), (0, .ref (ad 31)), (1, .ref (ad 47))] dX4_isBetter_48 rfl (by decide) rfl ?_
    refine v_aload_n X 1 dX4_isBetter_49 rfl rfl ?_
    refine gt_X4_best X iwX4 (Std.lt hS rfl) (Std.k hS rfl rfl) (List.mem_cons_of_mem _ bw_6_12) dX4_isBetter_50 35 (Std.r hS 5 rfl) ?_
    refine v_aload_n X 2 dX4_isBetter_53 rfl rfl ?_
    refine v_callV X [.ref (ad 47)] hRm (c_X3_sameBegins_35_47 _ _ _ hS) (gV bw_34_0 bw_34_1 bw_34_2 bw_2_19 bw_34_3) rfl ddX3_sameBegins (by decide) (Std.lt hS rfl) (Std.k hS rfl rfl) ⟨rfl, by decide⟩ (Nat.le_of_ble_eq_true rfl) dX4_isBetter_54 (k_pI (fun r7 hr8 e9 => ?_))
    rw [rpX_same (by omega) hoq hQ] at e9
    refine v_istore_n X [(3, .int (iz r7)), (2, .int (iz r4)), (0, .ref (ad 31)), (1, .ref (ad 47))] dX4_isBetter_57 rfl (by decide) rfl ?_
    refine v_iload_n X 1 dX4_isBetter_58 rfl rfl ?_
    refine v_iload_n X 0 dX4_isBetter_59 rfl rfl ?_
    refine v_icmp_eq X 76 dX4_isBetter_60 (by decide) ⟨by omega, by omega⟩ ⟨by omega, by omega⟩ (fun u10 => ?_) (fun u10 => ?_)
    · skip
      refine v_aload_n X 2 dX4_isBetter_76 rfl rfl ?_
      refine gt_X4_trial X iwX4 (Std.lt hS rfl) (Std.k hS rfl rfl) (List.mem_cons_of_mem _ bw_6_13) dX4_isBetter_77 41 (Std.r hS 6 rfl) ?_
      refine v_callV X [] hRm (c_X3_lastLanding_41 _ _ _ hS) (gV bw_34_4 bw_34_5 bw_34_6 bw_2_19 bw_34_7) rfl ddX3_lastLanding (by decide) (Std.lt hS rfl) (Std.k hS rfl rfl) ⟨rfl, by decide⟩ (Nat.le_of_ble_eq_true rfl) dX4_isBetter_80 (k_pI (fun r11 hr12 e13 => ?_))
      rw [rpX_la (by omega) ho hT] at e13
      refine v_aload_n X 2 dX4_isBetter_83 rfl rfl ?_
      refine gt_X4_best X iwX4 (Std.lt hS rfl) (Std.k hS rfl rfl) (List.mem_cons_of_mem _ bw_6_12) dX4_isBetter_84 35 (Std.r hS 5 rfl) ?_
      refine v_callV X [] hRm (c_X3_lastLanding_35 _ _ _ hS) (gV bw_34_4 bw_34_5 bw_34_6 bw_2_19 bw_34_7) rfl ddX3_lastLanding (by decide) (Std.lt hS rfl) (Std.k hS rfl rfl) ⟨rfl, by decide⟩ (Nat.le_of_ble_eq_true rfl) dX4_isBetter_87 (k_pI (fun r14 hr15 e16 => ?_))
      rw [rpX_la (by omega) hoq hQ] at e16
      refine v_icmp_ge X 97 dX4_isBetter_90 (by decide) ⟨by omega, by omega⟩ ⟨by omega, by omega⟩ (fun u17 => ?_) (fun u17 => ?_)
      · skip
        refine v_iconst X dX4_isBetter_97 ?_
        refine hret _ _ _ _ _ _ _ _ _ _ _ (some (.int (iz 0))) dX4_isBetter_98 ⟨rfl, 0, ⟨by omega, by omega⟩, rfl⟩ (by decide) (by decide) (fun hmok => ?_)
        refine ⟨rfl, rfl, rfl, rfl, rfl, rfl, 0, rfl, Or.inr ⟨rfl, ?_⟩⟩
        unfold betL
        rw [decide_eq_true_iff]
        omega
      · skip
        refine v_iconst X dX4_isBetter_93 ?_
        refine v_goto X 98 dX4_isBetter_94 (by decide) ?_
        refine hret _ _ _ _ _ _ _ _ _ _ _ (some (.int (iz 1))) dX4_isBetter_98 ⟨rfl, 1, ⟨by omega, by omega⟩, rfl⟩ (by decide) (by decide) (fun hmok => ?_)
        refine ⟨rfl, rfl, rfl, rfl, rfl, rfl, 1, rfl, Or.inl ⟨rfl, ?_⟩⟩
        unfold betL
        rw [decide_eq_true_iff]
        omega
    · skip
      refine v_iload_n X 1 dX4_isBetter_63 rfl rfl ?_
      refine v_iload_n X 0 dX4_isBetter_64 rfl rfl ?_
      refine v_icmp_le X 72 dX4_isBetter_65 (by decide) ⟨by omega, by omega⟩ ⟨by omega, by omega⟩ (fun u18 => ?_) (fun u18 => ?_)
      · skip
        refine v_iconst X dX4_isBetter_72 ?_
        refine v_goto X 98 dX4_isBetter_73 (by decide) ?_
        refine hret _ _ _ _ _ _ _ _ _ _ _ (some (.int (iz 0))) dX4_isBetter_98 ⟨rfl, 0, ⟨by omega, by omega⟩, rfl⟩ (by decide) (by decide) (fun hmok => ?_)
        refine ⟨rfl, rfl, rfl, rfl, rfl, rfl, 0, rfl, Or.inr ⟨rfl, ?_⟩⟩
        unfold betL
        rw [decide_eq_true_iff]
        omega
      · skip
        refine v_iconst X dX4_isBetter_68 ?_
        refine v_goto X 98 dX4_isBetter_69 (by decide) ?_
        refine hret _ _ _ _ _ _ _ _ _ _ _ (some (.int (iz 1))) dX4_isBetter_98 ⟨rfl, 1, ⟨by omega, by omega⟩, rfl⟩ (by decide) (by decide) (fun hmok => ?_)
        refine ⟨rfl, rfl, rfl, rfl, rfl, rfl, 1, rfl, Or.inl ⟨rfl, ?_⟩⟩
        unfold betL
        rw [decide_eq_true_iff]
        omega
  · skip
    refine v_aload_n X 0 dX4_isBetter_17 rfl rfl ?_
    refine gt_X4_trial X iwX4 (Std.lt hS rfl) (Std.k hS rfl rfl) (List.mem_cons_of_mem _ bw_6_13) dX4_isBetter_18 41 (Std.r hS 6 rfl) ?_
    refine gt_X3_worth X iwX3 (Std.lt hS rfl) (Std.k hS rfl rfl) (List.mem_cons_of_mem _ bw_33_14) dX4_isBetter_21 (M 41 6) rfl (fun hr19 => ?_)
    refine v_aload_n X 0 dX4_isBetter_24 rfl rfl ?_
    refine gt_X4_best X iwX4 (Std.lt hS rfl) (Std.k hS rfl rfl) (List.mem_cons_of_mem _ bw_6_12) dX4_isBetter_25 35 (Std.r hS 5 rfl) ?_
    refine gt_X3_worth X iwX3 (Std.lt hS rfl) (Std.k hS rfl rfl) (List.mem_cons_of_mem _ bw_33_14) dX4_isBetter_28 (M 35 6) rfl (fun hr20 => ?_)
    refine v_icmp_le X 38 dX4_isBetter_31 (by decide) ⟨by omega, by omega⟩ ⟨by omega, by omega⟩ (fun u21 => ?_) (fun u21 => ?_)
    · skip
      refine v_iconst X dX4_isBetter_38 ?_
      refine hret _ _ _ _ _ _ _ _ _ _ _ (some (.int (iz 0))) dX4_isBetter_39 ⟨rfl, 0, ⟨by omega, by omega⟩, rfl⟩ (by decide) (by decide) (fun hmok => ?_)
      refine ⟨rfl, rfl, rfl, rfl, rfl, rfl, 0, rfl, Or.inr ⟨rfl, ?_⟩⟩
      unfold betL
      rw [decide_eq_true_iff]
      omega
    · skip
      refine v_iconst X dX4_isBetter_34 ?_
      refine v_goto X 39 dX4_isBetter_35 (by decide) ?_
      refine hret _ _ _ _ _ _ _ _ _ _ _ (some (.int (iz 1))) dX4_isBetter_39 ⟨rfl, 1, ⟨by omega, by omega⟩, rfl⟩ (by decide) (by decide) (fun hmok => ?_)
      refine ⟨rfl, rfl, rfl, rfl, rfl, rfl, 1, rfl, Or.inl ⟨rfl, ?_⟩⟩
      unfold betL
      rw [decide_eq_true_iff]
      omega

-- isHopeless
set_option maxHeartbeats 4000000 in
set_option maxRecDepth 100000 in
theorem c_X4_isHopeless (l : Launch) (D : va_G) (cy : Nat → ClassId) {N : Nat} {sh : MS} {ad : Nat → Nat} {M L : MI} {R : MR} (hS : Std N sh R) (wo : Int → Int) (p q : List Fl) (hO : ShowOk M R sh N) (hT : rT wo M p) (hQ : rQ wo M q) (ho : okF (M 6 1) p) (hoq : okF (M 6 1) q) (hwa : ∀ a : Int, 0 ≤ a → a < M 6 1 → wo a = cWo M R a) : Ctr l D cy yX4_isHopeless wsX4_isHopeless ({ frames := 2, cells := 0, slots := 0, locals := 35 } : Room) N sh ad M L R [.ref (ad 31), .ref (ad 47)] (pB N sh ad M L R (hopL (M 6 1).toNat wo (M 50) p q = true)) := by
  refine Ctr.ofZ (by decide) rfl (Nat.le_of_ble_eq_true rfl) ?_
  intro K hKl hKd hRm hnm X hret
  have X : VX K cX4_isHopeless 6 wsX4_isHopeless RX4 := X
  show V K 6 0 0 N sh ad M L R [(0, .ref (ad 31)), (1, .ref (ad 47))] [] 0
  have hA := hO.1
  have t6 := hT.1.2
  have q6 := hQ.1.2
  have hwb : ∀ a : Int, 0 ≤ a → a < M 6 1 → 0 ≤ wo a ∧ wo a ≤ 100 := fun a a1 a2 => by rw [hwa a a1 a2]; exact (actId hO a1 a2).2.2.2.2.2.1.2.2.1
  have hwl := wL_b hwb ho
  have hkl := kpL_b (g := M 50) (p := p)
  have hlen := okF_le (n := 6) (by omega) ho
  refine v_aload_n X 0 dX4_isHopeless_0 rfl rfl ?_
  refine gt_X4_trial X iwX4 (Std.lt hS rfl) (Std.k hS rfl rfl) (List.mem_cons_of_mem _ bw_6_13) dX4_isHopeless_1 41 (Std.r hS 6 rfl) ?_
  refine gt_X3_worth X iwX3 (Std.lt hS rfl) (Std.k hS rfl rfl) (List.mem_cons_of_mem _ bw_33_14) dX4_isHopeless_4 (M 41 6) rfl (fun hr1 => ?_)
  refine v_istore_n X [(2, .int (iz (M 41 6))), (0, .ref (ad 31)), (1, .ref (ad 47))] dX4_isHopeless_7 rfl (by decide) rfl ?_
  refine v_aload_n X 1 dX4_isHopeless_8 rfl rfl ?_
  refine gt_X4_trial X iwX4 (Std.lt hS rfl) (Std.k hS rfl rfl) (List.mem_cons_of_mem _ bw_6_13) dX4_isHopeless_9 41 (Std.r hS 6 rfl) ?_
  refine v_aload_n X 2 dX4_isHopeless_12 rfl rfl ?_
  refine v_callV X [.ref (ad 47)] hRm (c_X3_sameBegins_41_47 _ _ _ hS) (gV bw_34_0 bw_34_1 bw_34_2 bw_2_19 bw_34_3) rfl ddX3_sameBegins (by decide) (Std.lt hS rfl) (Std.k hS rfl rfl) ⟨rfl, by decide⟩ (Nat.le_of_ble_eq_true rfl) dX4_isHopeless_13 (k_pI (fun r2 hr3 e4 => ?_))
  rw [rpX_same (by omega) ho hT] at e4
  refine v_istore_n X [(3, .int (iz r2)), (2, .int (iz (M 41 6))), (0, .ref (ad 31)), (1, .ref (ad 47))] dX4_isHopeless_16 rfl (by decide) rfl ?_
  refine v_iconst X dX4_isHopeless_17 ?_
  refine v_istore X [(4, .int (iz 0)), (3, .int (iz r2)), (2, .int (iz (M 41 6))), (0, .ref (ad 31)), (1, .ref (ad 47))] dX4_isHopeless_18 (by decide) rfl ?_
  have hl5 : ∀ (n7 : Nat) (mw : Int) (mk : Int) (i : Int) (j : Nat), (i = (j : Int)) → (i ≤ M 6 1) → (mw = wL wo p + nsA wo p j) → (0 ≤ mw ∧ mw ≤ 600 + 100 * i) → (mk = kpL (M 50) p + nsA (fun a => if M 50 a ≠ -1 then 1 else 0) p j) → (0 ≤ mk ∧ mk ≤ 6 + i) → (6 - i).toNat < n7 → V K 6 0 0 N sh ad M L R [(0, .ref (ad 31)), (1, .ref (ad 47)), (2, .int (iz mw)), (3, .int (iz mk)), (4, .int (iz i))] [] 20 := by
    intro n7
    induction n7 with
    | zero => intro mw mk i j ei hi hmw hmw2 hmk hmk2 hn8; exact absurd hn8 (Nat.not_lt_zero _)
    | succ n7 ih6 =>
      intro mw mk i j ei hi hmw hmw2 hmk hmk2 hn8
      refine v_iload X 4 dX4_isHopeless_20 rfl ?_
      refine v_aload_n X 0 dX4_isHopeless_22 rfl rfl ?_
      refine gt_X4_show X iwX4 (Std.lt hS rfl) (Std.k hS rfl rfl) (List.mem_cons_of_mem _ bw_6_14) dX4_isHopeless_23 6 (Std.r hS 0 rfl) ?_
      refine gt_X7_size X iwX7 (Std.lt hS rfl) (Std.k hS rfl rfl) (List.mem_cons_of_mem _ bw_33_19) dX4_isHopeless_26 (M 6 1) rfl (fun hr9 => ?_)
      refine v_icmp_ge X 91 dX4_isHopeless_29 (by decide) ⟨by omega, by omega⟩ ⟨by omega, by omega⟩ (fun u10 => ?_) (fun u10 => ?_)
      · skip
        refine v_iload_n X 2 dX4_isHopeless_91 rfl rfl ?_
        refine v_aload_n X 0 dX4_isHopeless_92 rfl rfl ?_
        refine gt_X4_best X iwX4 (Std.lt hS rfl) (Std.k hS rfl rfl) (List.mem_cons_of_mem _ bw_6_12) dX4_isHopeless_93 35 (Std.r hS 5 rfl) ?_
        refine gt_X3_worth X iwX3 (Std.lt hS rfl) (Std.k hS rfl rfl) (List.mem_cons_of_mem _ bw_33_14) dX4_isHopeless_96 (M 35 6) rfl (fun hr11 => ?_)
        refine v_icmp_eq X 119 dX4_isHopeless_99 (by decide) ⟨by omega, by omega⟩ ⟨by omega, by omega⟩ (fun u12 => ?_) (fun u12 => ?_)
        · skip
          refine v_aload_n X 0 dX4_isHopeless_119 rfl rfl ?_
          refine gt_X4_best X iwX4 (Std.lt hS rfl) (Std.k hS rfl rfl) (List.mem_cons_of_mem _ bw_6_12) dX4_isHopeless_120 35 (Std.r hS 5 rfl) ?_
          refine v_aload_n X 1 dX4_isHopeless_123 rfl rfl ?_
          refine v_callV X [.ref (ad 47)] hRm (c_X3_sameBegins_35_47 _ _ _ hS) (gV bw_34_0 bw_34_1 bw_34_2 bw_2_19 bw_34_3) rfl ddX3_sameBegins (by decide) (Std.lt hS rfl) (Std.k hS rfl rfl) ⟨rfl, by decide⟩ (Nat.le_of_ble_eq_true rfl) dX4_isHopeless_124 (k_pI (fun r13 hr14 e15 => ?_))
          rw [rpX_same (by omega) hoq hQ] at e15
          refine v_istore X [(4, .int (iz r13)), (0, .ref (ad 31)), (1, .ref (ad 47)), (2, .int (iz mw)), (3, .int (iz mk))] dX4_isHopeless_127 (by decide) rfl ?_
          refine v_iload_n X 4 dX4_isHopeless_129 rfl rfl ?_
          refine v_iload X 0 dX4_isHopeless_130 rfl ?_
          refine v_icmp_eq X 149 dX4_isHopeless_132 (by decide) ⟨by omega, by omega⟩ ⟨by omega, by omega⟩ (fun u16 => ?_) (fun u16 => ?_)
          · skip
            refine v_aload_n X 1 dX4_isHopeless_149 rfl rfl ?_
            refine gt_X4_trial X iwX4 (Std.lt hS rfl) (Std.k hS rfl rfl) (List.mem_cons_of_mem _ bw_6_13) dX4_isHopeless_150 41 (Std.r hS 6 rfl) ?_
            refine v_callV X [] hRm (c_X3_lastLanding_41 _ _ _ hS) (gV bw_34_4 bw_34_5 bw_34_6 bw_2_19 bw_34_7) rfl ddX3_lastLanding (by decide) (Std.lt hS rfl) (Std.k hS rfl rfl) ⟨rfl, by decide⟩ (Nat.le_of_ble_eq_true rfl) dX4_isHopeless_153 (k_pI (fun r17 hr18 e19 => ?_))
            rw [rpX_la (by omega) ho hT] at e19
            refine v_aload_n X 1 dX4_isHopeless_156 rfl rfl ?_
            refine gt_X4_best X iwX4 (Std.lt hS rfl) (Std.k hS rfl rfl) (List.mem_cons_of_mem _ bw_6_12) dX4_isHopeless_157 35 (Std.r hS 5 rfl) ?_
            refine v_callV X [] hRm (c_X3_lastLanding_35 _ _ _ hS) (gV bw_34_4 bw_34_5 bw_34_6 bw_2_19 bw_34_7) rfl ddX3_lastLanding (by decide) (Std.lt hS rfl) (Std.k hS rfl rfl) ⟨rfl, by decide⟩ (Nat.le_of_ble_eq_true rfl) dX4_isHopeless_160 (k_pI (fun r20 hr21 e22 => ?_))
            rw [rpX_la (by omega) hoq hQ] at e22
            refine v_icmp_lt X 170 dX4_isHopeless_163 (by decide) ⟨by omega, by omega⟩ ⟨by omega, by omega⟩ (fun u23 => ?_) (fun u23 => ?_)
            · skip
              refine v_iconst X dX4_isHopeless_170 ?_
              refine hret _ _ _ _ _ _ _ _ _ _ _ (some (.int (iz 0))) dX4_isHopeless_171 ⟨rfl, 0, ⟨by omega, by omega⟩, rfl⟩ (by decide) (by decide) (fun hmok => ?_)
              refine ⟨rfl, rfl, rfl, rfl, rfl, rfl, 0, rfl, Or.inr ⟨rfl, ?_⟩⟩
              have hj : (M 6 1).toNat = j := by omega
              unfold hopL
              rw [decide_eq_true_iff, hj, ← hmw, ← hmk]
              omega
            · skip
              refine v_iconst X dX4_isHopeless_166 ?_
              refine v_goto X 171 dX4_isHopeless_167 (by decide) ?_
              refine hret _ _ _ _ _ _ _ _ _ _ _ (some (.int (iz 1))) dX4_isHopeless_171 ⟨rfl, 1, ⟨by omega, by omega⟩, rfl⟩ (by decide) (by decide) (fun hmok => ?_)
              refine ⟨rfl, rfl, rfl, rfl, rfl, rfl, 1, rfl, Or.inl ⟨rfl, ?_⟩⟩
              have hj : (M 6 1).toNat = j := by omega
              unfold hopL
              rw [decide_eq_true_iff, hj, ← hmw, ← hmk]
              omega
          · skip
            refine v_iload_n X 4 dX4_isHopeless_135 rfl rfl ?_
            refine v_iload X 0 dX4_isHopeless_136 rfl ?_
            refine v_icmp_ge X 145 dX4_isHopeless_138 (by decide) ⟨by omega, by omega⟩ ⟨by omega, by omega⟩ (fun u24 => ?_) (fun u24 => ?_)
            · skip
              refine v_iconst X dX4_isHopeless_145 ?_
              refine v_goto X 171 dX4_isHopeless_146 (by decide) ?_
              refine hret _ _ _ _ _ _ _ _ _ _ _ (some (.int (iz 0))) dX4_isHopeless_171 ⟨rfl, 0, ⟨by omega, by omega⟩, rfl⟩ (by decide) (by decide) (fun hmok => ?_)
              refine ⟨rfl, rfl, rfl, rfl, rfl, rfl, 0, rfl, Or.inr ⟨rfl, ?_⟩⟩
              have hj : (M 6 1).toNat = j := by omega
              unfold hopL
              rw [decide_eq_true_iff, hj, ← hmw, ← hmk]
              omega
            · skip
              refine v_iconst X dX4_isHopeless_141 ?_
              refine v_goto X 171 dX4_isHopeless_142 (by decide) ?_
              refine hret _ _ _ _ _ _ _ _ _ _ _ (some (.int (iz 1))) dX4_isHopeless_171 ⟨rfl, 1, ⟨by omega, by omega⟩, rfl⟩ (by decide) (by decide) (fun hmok => ?_)
              refine ⟨rfl, rfl, rfl, rfl, rfl, rfl, 1, rfl, Or.inl ⟨rfl, ?_⟩⟩
              have hj : (M 6 1).toNat = j := by omega
              unfold hopL
              rw [decide_eq_true_iff, hj, ← hmw, ← hmk]
              omega
        · skip
          refine v_iload_n X 2 dX4_isHopeless_102 rfl rfl ?_
          refine v_aload_n X 0 dX4_isHopeless_103 rfl rfl ?_
          refine gt_X4_best X iwX4 (Std.lt hS rfl) (Std.k hS rfl rfl) (List.mem_cons_of_mem _ bw_6_12) dX4_isHopeless_104 35 (Std.r hS 5 rfl) ?_
          refine gt_X3_worth X iwX3 (Std.lt hS rfl) (Std.k hS rfl rfl) (List.mem_cons_of_mem _ bw_33_14) dX4_isHopeless_107 (M 35 6) rfl (fun hr25 => ?_)
          refine v_icmp_ge X 117 dX4_isHopeless_110 (by decide) ⟨by omega, by omega⟩ ⟨by omega, by omega⟩ (fun u26 => ?_) (fun u26 => ?_)
          · skip
            refine v_iconst X dX4_isHopeless_117 ?_
            refine hret _ _ _ _ _ _ _ _ _ _ _ (some (.int (iz 0))) dX4_isHopeless_118 ⟨rfl, 0, ⟨by omega, by omega⟩, rfl⟩ (by decide) (by decide) (fun hmok => ?_)
            refine ⟨rfl, rfl, rfl, rfl, rfl, rfl, 0, rfl, Or.inr ⟨rfl, ?_⟩⟩
            have hj : (M 6 1).toNat = j := by omega
            unfold hopL
            rw [decide_eq_true_iff, hj, ← hmw, ← hmk]
            omega
          · skip
            refine v_iconst X dX4_isHopeless_113 ?_
            refine v_goto X 118 dX4_isHopeless_114 (by decide) ?_
            refine hret _ _ _ _ _ _ _ _ _ _ _ (some (.int (iz 1))) dX4_isHopeless_118 ⟨rfl, 1, ⟨by omega, by omega⟩, rfl⟩ (by decide) (by decide) (fun hmok => ?_)
            refine ⟨rfl, rfl, rfl, rfl, rfl, rfl, 1, rfl, Or.inl ⟨rfl, ?_⟩⟩
            have hj : (M 6 1).toNat = j := by omega
            unfold hopL
            rw [decide_eq_true_iff, hj, ← hmw, ← hmk]
            omega
      · skip
        refine v_aload_n X 0 dX4_isHopeless_32 rfl rfl ?_
        refine gt_X4_show X iwX4 (Std.lt hS rfl) (Std.k hS rfl rfl) (List.mem_cons_of_mem _ bw_6_14) dX4_isHopeless_33 6 (Std.r hS 0 rfl) ?_
        refine v_iload X 4 dX4_isHopeless_36 rfl ?_
        refine v_callV X [.int (iz i)] hRm (c_X7_actAt _ _ _ hS i ⟨by omega, by omega⟩ hO) (gV bw_33_8 bw_24_6 bw_24_7 bw_1_22 bw_24_8) rfl ddX7_actAt (by decide) (Std.lt hS rfl) (Std.k hS rfl rfl) ⟨rfl, by decide⟩ (Nat.le_of_ble_eq_true rfl) dX4_isHopeless_38 (k_pR (fun r27 e28 => ?_))
        rcases e28 with ⟨rfl, o30n⟩ | ⟨q29, rfl, o30r, o30b, o30k⟩
        · skip
          exfalso; omega
        · skip
          have q29B : 112 ≤ q29 := o30k.1
          refine v_st (st' := [.ref (ad q29)]) rfl ?_
          refine v_astore X [(5, .ref (ad q29)), (0, .ref (ad 31)), (1, .ref (ad 47)), (2, .int (iz mw)), (3, .int (iz mk)), (4, .int (iz i))] dX4_isHopeless_41 (by decide) rfl ?_
          refine v_aload X 0 dX4_isHopeless_43 rfl ?_
          refine v_ifnull X dX4_isHopeless_45 ?_
          refine v_aload_n X 1 dX4_isHopeless_48 rfl rfl ?_
          refine gt_X4_trial X iwX4 (Std.lt hS rfl) (Std.k hS rfl rfl) (List.mem_cons_of_mem _ bw_6_13) dX4_isHopeless_49 41 (Std.r hS 6 rfl) ?_
          refine v_iload X 5 dX4_isHopeless_52 rfl ?_
          refine v_callV X [.int (iz i)] hRm (c_X3_has_41 _ _ _ hS i ⟨by omega, by omega⟩) (gV bw_34_22 bw_34_23 bw_35_0 bw_2_19 bw_35_1) rfl ddX3_has (by decide) (Std.lt hS rfl) (Std.k hS rfl rfl) ⟨rfl, by decide⟩ (Nat.le_of_ble_eq_true rfl) dX4_isHopeless_54 (k_pB (fun b31 => ?_) (fun b31 => ?_))
          · skip
            have hin : inF p i = true := (lkF_has ho).mp (by rw [← (hT.2.2.2 i (by omega) (by omega)).2.1]; exact b31.2.2)
            refine v_if_ne X 85 dX4_isHopeless_57 (by decide) ⟨by decide, by decide⟩ (fun _ => ?_) (fun q => absurd (by decide) q)
            refine v_iinc X 5 [(4, .int (iz (i + 1))), (5, .ref (ad q29)), (0, .ref (ad 31)), (1, .ref (ad 47)), (2, .int (iz mw)), (3, .int (iz mk))] dX4_isHopeless_85 rfl (by decide) rfl ?_
            refine v_goto X 20 dX4_isHopeless_88 (by decide) ?_
            refine v_lv [2, 3, 4, 5, 0] rfl ?_
            exact ih6 mw mk (i + 1) (j + 1) (by omega) (by omega) (by subst ei; rw [nsA_s, if_pos hin, hmw]; omega) (by omega) (by subst ei; rw [nsA_s, if_pos hin, hmk]; omega) (by omega) (by omega)
          · skip
            have hin : inF p i = false := Bool.eq_false_iff.mpr (fun z => b31 ⟨by omega, by omega, by rw [(hT.2.2.2 i (by omega) (by omega)).2.1]; exact (lkF_has ho).mpr z⟩)
            refine v_if_ne X 85 dX4_isHopeless_57 (by decide) ⟨by decide, by decide⟩ (fun q => absurd q (by decide)) (fun _ => ?_)
            refine v_iload_n X 3 dX4_isHopeless_60 rfl rfl ?_
            have hq5 := o30k.2.2.2.2.1
            refine v_aload X 0 dX4_isHopeless_61 rfl ?_
            refine gt_X0_worth X iwX0 o30k.2.1 o30k.2.2.1 (List.mem_cons_of_mem _ bw_34_21) dX4_isHopeless_63 (M q29 2) rfl (fun hr32 => ?_)
            refine v_iadd X dX4_isHopeless_66 ?_
            refine v_istore_n X [(2, .int (iz (mw + (M q29 2)))), (5, .ref (ad q29)), (0, .ref (ad 31)), (1, .ref (ad 47)), (3, .int (iz mk)), (4, .int (iz i))] dX4_isHopeless_67 rfl (by decide) rfl ?_
            refine v_iload_n X 4 dX4_isHopeless_68 rfl rfl ?_
            refine v_aload_n X 3 dX4_isHopeless_69 rfl rfl ?_
            refine v_iload X 5 dX4_isHopeless_70 rfl ?_
            refine v_callV X [.int (iz i)] hRm (c_X3_has_47 _ _ _ hS i ⟨by omega, by omega⟩) (gV bw_34_22 bw_34_23 bw_35_0 bw_2_19 bw_35_1) rfl ddX3_has (by decide) (Std.lt hS rfl) (Std.k hS rfl rfl) ⟨rfl, by decide⟩ (Nat.le_of_ble_eq_true rfl) dX4_isHopeless_72 (k_pB (fun b33 => ?_) (fun b33 => ?_))
            · skip
              refine v_if_eq X 82 dX4_isHopeless_75 (by decide) ⟨by decide, by decide⟩ (fun q => absurd q (by decide)) (fun _ => ?_)
              refine v_iconst X dX4_isHopeless_78 ?_
              refine v_goto X 83 dX4_isHopeless_79 (by decide) ?_
              refine v_iadd X dX4_isHopeless_83 ?_
              refine v_istore_n X [(3, .int (iz (mk + 1))), (2, .int (iz (mw + (M q29 2)))), (5, .ref (ad q29)), (0, .ref (ad 31)), (1, .ref (ad 47)), (4, .int (iz i))] dX4_isHopeless_84 rfl (by decide) rfl ?_
              refine v_iinc X 5 [(4, .int (iz (i + 1))), (3, .int (iz (mk + 1))), (2, .int (iz (mw + (M q29 2)))), (5, .ref (ad q29)), (0, .ref (ad 31)), (1, .ref (ad 47))] dX4_isHopeless_85 rfl (by decide) rfl ?_
              refine v_goto X 20 dX4_isHopeless_88 (by decide) ?_
              refine v_lv [4, 5, 2, 1, 0] rfl ?_
              exact ih6 (mw + (M q29 2)) (mk + 1) (i + 1) (j + 1) (by omega) (by omega) (by subst ei; rw [nsA_s, if_neg (by rw [hin]; decide), hmw, hwa _ (by omega) (by omega)]; unfold cWo; rw [aId_of o30r]; omega) (by have := hwb i (by omega) (by omega); omega) (by subst ei; rw [nsA_s, if_neg (by rw [hin]; decide), hmk]; rw [if_pos b33.2.2]; omega) (by omega) (by omega)
            · skip
              refine v_if_eq X 82 dX4_isHopeless_75 (by decide) ⟨by decide, by decide⟩ (fun _ => ?_) (fun q => absurd (by decide) q)
              refine v_iconst X dX4_isHopeless_82 ?_
              refine v_iadd X dX4_isHopeless_83 ?_
              refine v_istore_n X [(3, .int (iz (mk + 0))), (2, .int (iz (mw + (M q29 2)))), (5, .ref (ad q29)), (0, .ref (ad 31)), (1, .ref (ad 47)), (4, .int (iz i))] dX4_isHopeless_84 rfl (by decide) rfl ?_
              refine v_iinc X 5 [(4, .int (iz (i + 1))), (3, .int (iz (mk + 0))), (2, .int (iz (mw + (M q29 2)))), (5, .ref (ad q29)), (0, .ref (ad 31)), (1, .ref (ad 47))] dX4_isHopeless_85 rfl (by decide) rfl ?_
              refine v_goto X 20 dX4_isHopeless_88 (by decide) ?_
              refine v_lv [4, 5, 2, 1, 0] rfl ?_
              exact ih6 (mw + (M q29 2)) (mk + 0) (i + 1) (j + 1) (by omega) (by omega) (by subst ei; rw [nsA_s, if_neg (by rw [hin]; decide), hmw, hwa _ (by omega) (by omega)]; unfold cWo; rw [aId_of o30r]; omega) (by have := hwb i (by omega) (by omega); omega) (by subst ei; rw [nsA_s, if_neg (by rw [hin]; decide), hmk]; rw [if_neg (fun z => b33 ⟨by omega, by omega, z⟩)]; omega) (by omega) (by omega)
  refine v_lv [3, 4, 2, 1, 0] rfl ?_
  exact hl5 _ (M 41 6) r2 0 0 (by omega) (by omega) (by rw [t6]; simp [nsA]) (by omega) (by rw [e4]; simp [nsA]) (by omega) (Nat.lt_succ_self _)

