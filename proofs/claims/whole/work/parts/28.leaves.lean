/-! THE PLANNER of the class: its rows by lists -/
def cKd (M : MI) (R : MR) (a : Int) : Int := M (aId R a) 0
def cPi (M : MI) (R : MR) (a : Int) : Int := M (aId R a) 1
def cWo (M : MI) (R : MR) (a : Int) : Int := M (aId R a) 2
def cCl (M : MI) (R : MR) (a : Int) : Int := M (aId R a) 3
def cHo (M : MI) (R : MR) (a : Int) : Int := M (aId R a) 4
def cFu (M : MI) (R : MR) (a : Int) : Int := M (aId R a) 5
def smF (g : Int → Int) : List Fl → Int
  | [] => 0
  | f :: p => smF g p + g (fa f)
def smA (g : Int → Int) (p : List Fl) : Nat → Int
  | 0 => 0
  | n + 1 => smA g p n + (if inF p (n : Int) = true then g (n : Int) else 0)
theorem smA_s (g : Int → Int) (p : List Fl) (n : Nat) : smA g p (n + 1) = smA g p n + (if inF p (n : Int) = true then g (n : Int) else 0) := rfl
theorem smA_cons {g : Int → Int} {f : Fl} {p : List Fl} (h1 : 0 ≤ fa f) (hn : inF p (fa f) = false) : ∀ n : Nat, smA g (f :: p) n = smA g p n + (if fa f < (n : Int) then g (fa f) else 0)
  | 0 => by
    show 0 = 0 + (if fa f < ((0 : Nat) : Int) then g (fa f) else 0)
    rw [if_neg (by omega)]; rfl
  | n + 1 => by
    show smA g (f :: p) n + (if (decide (fa f = (n : Int)) || inF p (n : Int)) = true then g (n : Int) else 0) = smA g p n + (if inF p (n : Int) = true then g (n : Int) else 0) + (if fa f < ((n + 1 : Nat) : Int) then g (fa f) else 0)
    rw [smA_cons h1 hn n]
    by_cases z : fa f = (n : Int)
    · rw [if_neg (show ¬ fa f < (n : Int) by omega), if_pos (show fa f < ((n + 1 : Nat) : Int) by omega), z]
      rw [z] at hn
      rw [hn, decide_eq_true rfl]
      simp
    · rw [decide_eq_false z, Bool.false_or]
      by_cases y : fa f < (n : Int)
      · rw [if_pos y, if_pos (show fa f < ((n + 1 : Nat) : Int) by omega)]; omega
      · rw [if_neg y, if_neg (show ¬ fa f < ((n + 1 : Nat) : Int) by omega)]; omega
theorem smA_nil (g : Int → Int) : ∀ n : Nat, smA g [] n = 0
  | 0 => rfl
  | n + 1 => by rw [smA_s, smA_nil g n]; rfl
theorem smA_L {A : Int} {n : Nat} {g : Int → Int} (hA : A ≤ (n : Int)) : ∀ {p : List Fl}, okF A p → smA g p n = smF g p
  | [], _ => smA_nil g n
  | f :: p, o => by
    rw [smA_cons o.1.1 o.2.1, smA_L hA o.2.2.2.2.2, if_pos (by have := o.1.2; omega)]
    rfl
theorem smL_F (u : Int → Int) (a : Int) : ∀ p : List Fl, smL u a p = smF (fun n => if u n = u a then 1 else 0) p
  | [] => rfl
  | f :: p => by
    show smL u a p + _ = smF _ p + _
    rw [smL_F u a p]
theorem lkF_in {A : Int} : ∀ {p : List Fl} {a : Int}, okF A p → inF p a = true → (0 ≤ lkF fo p a ∧ lkF fo p a < 240) ∧ (0 ≤ lkF fg p a ∧ lkF fg p a < 240) ∧ (1 ≤ lkF fm p a ∧ lkF fm p a ≤ 240) ∧ (0 ≤ lkF fn p a ∧ lkF fn p a < 240)
  | [], _, _, h => by cases h
  | f :: p, a, o, h => by
    have h : (decide (fa f = a) || inF p a) = true := h
    unfold lkF
    by_cases z : fa f = a
    · rw [if_pos z, if_pos z, if_pos z, if_pos z]
      have h3 := o.2.2.1
      have h4 := o.2.2.2.1
      omega
    · rw [if_neg z, if_neg z, if_neg z, if_neg z]
      rw [decide_eq_false z, Bool.false_or] at h
      exact lkF_in o.2.2.2.2.2 h
theorem lkF_has {A : Int} {p : List Fl} {a : Int} (o : okF A p) : lkF fg p a ≠ -1 ↔ inF p a = true := by
  constructor
  · intro h
    rcases Bool.eq_false_or_eq_true (inF p a) with z | z
    · exact z
    · exact absurd (lkF_no z) h
  · intro h
    have := (lkF_in o h).2.1
    omega
def rpX (w : Int → Int) (z y : Int) (r t b m l : Int → Int) (p : List Fl) : Prop := (z = (p.length : Int) ∧ y = wL w p) ∧ rpO r p ∧ (∀ i : Int, (p.length : Int) ≤ i → i < 6 → r i = -1) ∧ ∀ a : Int, 0 ≤ a → a < 6 → t a = lkF fo p a ∧ b a = lkF fg p a ∧ m a = lkF fm p a ∧ l a = lkF fn p a
def rT (w : Int → Int) (M : MI) (p : List Fl) : Prop := rpX w (M 41 5) (M 41 6) (M 42) (M 43) (M 44) (M 45) (M 46) p
def rQ (w : Int → Int) (M : MI) (p : List Fl) : Prop := rpX w (M 35 5) (M 35 6) (M 36) (M 37) (M 38) (M 39) (M 40) p
def rZ (w : Int → Int) (M : MI) (p : List Fl) : Prop := rpX w (M 47 5) (M 47 6) (M 48) (M 49) (M 50) (M 51) (M 52) p
def rK (M : MI) (p : List Fl) : Prop := ∀ m : Int, 0 ≤ m → m < 240 → M 34 m = if tkL p m = true then 1 else 0
def laA : List Fl → Int
  | [] => -1
  | f :: _ => fa f
theorem rpX_last {w : Int → Int} {z y : Int} {r t b m l : Int → Int} {A : Int} (hA : A ≤ 6) : ∀ {p : List Fl}, okF A p → rpX w z y r t b m l p → (if 0 < z ∧ z ≤ 6 then r (z - 1) else -1) = laA p
  | [], _, h => by rw [if_neg (by rw [h.1.1]; simp)]; rfl
  | f :: p, o, h => by
    have hz := h.1.1
    have hl := okF_le (n := 6) hA o
    simp only [List.length_cons] at hz hl
    rw [if_pos (by omega), show z - 1 = (p.length : Int) by omega]
    exact h.2.1.1
theorem rpX_end {w : Int → Int} {z y : Int} {r t b m l : Int → Int} {A : Int} (hA : A ≤ 6) : ∀ {p : List Fl}, okF A p → rpX w z y r t b m l p → (fun a => if 0 ≤ a ∧ a < 6 ∧ b a ≠ -1 then b a + m a else 0) (laA p) = endL p
  | [], _, h => rfl
  | f :: p, o, h => by
    have h1 := o.1
    have h4 := o.2.2.2.1
    have h5 := h.2.2.2 (fa f) h1.1 (by omega)
    have e1 : lkF fg (f :: p) (fa f) = fg f := by unfold lkF; rw [if_pos rfl]
    have e2 : lkF fm (f :: p) (fa f) = fm f := by unfold lkF; rw [if_pos rfl]
    show (if 0 ≤ fa f ∧ fa f < 6 ∧ b (fa f) ≠ -1 then b (fa f) + m (fa f) else 0) = fg f + fm f
    rw [h5.2.1, h5.2.2.1, e1, e2, if_pos (by omega)]
/-- what a search of the class may change -/
def frC (M M' : MI) : Prop := (∀ i : Nat, ¬ (i = 23 ∨ i = 30 ∨ i = 32 ∨ (34 ≤ i ∧ i ≤ 46)) → M' i = M i) ∧ ∀ z : Int, ¬ (0 ≤ z ∧ z ≤ 8) → M' 32 z = M 32 z
theorem frC_refl (M : MI) : frC M M := ⟨fun _ _ => rfl, fun _ _ => rfl⟩
theorem frC_trans {M M1 M2 : MI} (h : frC M M1) (h' : frC M1 M2) : frC M M2 := ⟨fun i a => (h'.1 i a).trans (h.1 i a), fun z a => (h'.2 z a).trans (h.2 z a)⟩
theorem FigOk_fr {M M' : MI} (h : frC M M') {sh : MS} {N g : Nat} (o : FigOk M sh N g) : FigOk M' sh N g := by
  unfold FigOk at o ⊢
  rw [h.1 g (by omega)]
  exact o
theorem ActOk_fr {M M' : MI} (h : frC M M') {R : MR} {sh : MS} {N a : Nat} (o : ActOk M R sh N a) : ActOk M' R sh N a := by
  obtain ⟨o1, o2, o3, o4, o5, f, o6, o7, o8, o9, o10⟩ := o
  unfold ActOk
  rw [h.1 a (by omega)]
  exact ⟨o1, o2, o3, o4, o5, f, o6, o7, o8, o9, fun j j1 j2 => by obtain ⟨g, g1, g2⟩ := o10 j j1 j2; exact ⟨g, g1, FigOk_fr h g2⟩⟩
theorem ShowOk_fr {M M' : MI} (h : frC M M') {R : MR} {sh : MS} {N : Nat} (o : ShowOk M R sh N) : ShowOk M' R sh N := by
  unfold ShowOk at o ⊢
  rw [h.1 6 (by omega), h.1 8 (by omega)]
  exact ⟨o.1, o.2.1, o.2.2.1, o.2.2.2.1, o.2.2.2.2.1, fun k k1 k2 => by obtain ⟨a, a1, a2⟩ := o.2.2.2.2.2 k k1 k2; exact ⟨a, a1, ActOk_fr h a2⟩⟩
theorem actId {M : MI} {R : MR} {sh : MS} {N : Nat} (o : ShowOk M R sh N) {a : Int} (h1 : 0 ≤ a) (h2 : a < M 6 1) : R 7 a = some (aId R a) ∧ ActOk M R sh N (aId R a) := by
  obtain ⟨q, q1, q2⟩ := o.2.2.2.2.2 a h1 h2
  rw [aId_of q1]; exact ⟨q1, q2⟩
theorem smF_congr {A : Int} {g g' : Int → Int} (h : ∀ a : Int, 0 ≤ a → a < A → g a = g' a) : ∀ {p : List Fl}, okF A p → smF g p = smF g' p
  | [], _ => rfl
  | f :: p, o => by
    show smF g p + g (fa f) = smF g' p + g' (fa f)
    rw [smF_congr h o.2.2.2.2.2, h (fa f) o.1.1 o.1.2]
theorem row_fr {M M' : MI} (h : frC M M') {R : MR} {sh : MS} {N : Nat} (o : ShowOk M R sh N) {a : Int} (h1 : 0 ≤ a) (h2 : a < M 6 1) : M' (aId R a) = M (aId R a) := by
  have := (actId o h1 h2).2.1
  exact h.1 _ (by omega)
theorem smF_pi {M M' : MI} (h : frC M M') {R : MR} {sh : MS} {N : Nat} (o : ShowOk M R sh N) {p : List Fl} (hp : okF (M 6 1) p) {u : Int} : smF (fun n => if cPi M' R n = u then 1 else 0) p = smF (fun n => if cPi M R n = u then 1 else 0) p :=
  smF_congr (fun a h1 h2 => by unfold cPi; rw [row_fr h o h1 h2]) hp

-- flownBy
set_option maxHeartbeats 4000000 in
set_option maxRecDepth 100000 in
theorem c_X4_flownBy (l : Launch) (D : va_G) (cy : Nat → ClassId) {N : Nat} {sh : MS} {ad : Nat → Nat} {M L : MI} {R : MR} (hS : Std N sh R) (u : Int) (hu : inR u) (wo : Int → Int) (p : List Fl) (hO : ShowOk M R sh N) (hT : rT wo M p) (ho : okF (M 6 1) p) : Ctr l D cy yX4_flownBy wsX4_flownBy ({ frames := 1, cells := 0, slots := 0, locals := 21 } : Room) N sh ad M L R [.ref (ad 31), .int (iz u)] (pI N sh ad M L R (fun r => r = smF (fun n => if cPi M R n = u then 1 else 0) p)) := by
  refine Ctr.ofI (by decide) rfl (Nat.le_of_ble_eq_true rfl) ?_
  intro K hKl hKd hRm hnm X hret
  have X : VX K cX4_flownBy 5 wsX4_flownBy RX4 := X
  show V K 5 0 0 N sh ad M L R [(0, .ref (ad 31)), (1, .int (iz u))] [] 0
  have hO1 := hO.1
  refine v_iconst X dX4_flownBy_0 ?_
  refine v_istore_n X [(2, .int (iz 0)), (0, .ref (ad 31)), (1, .int (iz u))] dX4_flownBy_1 rfl (by decide) rfl ?_
  refine v_iconst X dX4_flownBy_2 ?_
  refine v_istore_n X [(3, .int (iz 0)), (2, .int (iz 0)), (0, .ref (ad 31)), (1, .int (iz u))] dX4_flownBy_3 rfl (by decide) rfl ?_
  have hl1 : ∀ (n3 : Nat) (c : Int) (i : Int) (j : Nat), (i = (j : Int)) → (i ≤ M 6 1) → (c = smA (fun n => if cPi M R n = u then 1 else 0) p j) → (0 ≤ c ∧ c ≤ i) → (6 - i).toNat < n3 → V K 5 0 0 N sh ad M L R [(0, .ref (ad 31)), (1, .int (iz u)), (2, .int (iz c)), (3, .int (iz i))] [] 4 := by
    intro n3
    induction n3 with
    | zero => intro c i j ei hi hc hc2 hn4; exact absurd hn4 (Nat.not_lt_zero _)
    | succ n3 ih2 =>
      intro c i j ei hi hc hc2 hn4
      refine v_iload_n X 3 dX4_flownBy_4 rfl rfl ?_
      refine v_aload_n X 0 dX4_flownBy_5 rfl rfl ?_
      refine gt_X4_show X iwX4 (Std.lt hS rfl) (Std.k hS rfl rfl) (List.mem_cons_of_mem _ bw_6_14) dX4_flownBy_6 6 (Std.r hS 0 rfl) ?_
      refine gt_X7_size X iwX7 (Std.lt hS rfl) (Std.k hS rfl rfl) (List.mem_cons_of_mem _ bw_33_19) dX4_flownBy_9 (M 6 1) rfl (fun hr5 => ?_)
      refine v_icmp_ge X 59 dX4_flownBy_12 (by decide) ⟨by omega, by omega⟩ ⟨by omega, by omega⟩ (fun u6 => ?_) (fun u6 => ?_)
      · skip
        refine v_iload_n X 2 dX4_flownBy_59 rfl rfl ?_
        refine hret _ _ _ _ _ _ _ _ _ _ _ (some (.int (iz c))) dX4_flownBy_60 ⟨rfl, _, rfl⟩ (by decide) (by decide) (fun hmok => ?_)
        refine ⟨rfl, rfl, rfl, rfl, rfl, rfl, c, rfl, ⟨by omega, by omega⟩, ?_⟩
        try dsimp only
        rw [hc, ← smA_L (n := j) (by omega) ho]
      · skip
        refine v_aload_n X 0 dX4_flownBy_15 rfl rfl ?_
        refine gt_X4_show X iwX4 (Std.lt hS rfl) (Std.k hS rfl rfl) (List.mem_cons_of_mem _ bw_6_14) dX4_flownBy_16 6 (Std.r hS 0 rfl) ?_
        refine v_iload_n X 3 dX4_flownBy_19 rfl rfl ?_
        refine v_callV X [.int (iz i)] hRm (c_X7_actAt _ _ _ hS i ⟨by omega, by omega⟩ hO) (gV bw_33_8 bw_24_6 bw_24_7 bw_1_22 bw_24_8) rfl ddX7_actAt (by decide) (Std.lt hS rfl) (Std.k hS rfl rfl) ⟨rfl, by decide⟩ (Nat.le_of_ble_eq_true rfl) dX4_flownBy_20 (k_pR (fun r7 e8 => ?_))
        rcases e8 with ⟨rfl, o10n⟩ | ⟨q9, rfl, o10r, o10b, o10k⟩
        · skip
          exfalso; omega
        · skip
          have q9B : 112 ≤ q9 := o10k.1
          refine v_st (st' := [.ref (ad q9)]) rfl ?_
          refine v_astore X [(4, .ref (ad q9)), (0, .ref (ad 31)), (1, .int (iz u)), (2, .int (iz c)), (3, .int (iz i))] dX4_flownBy_23 (by decide) rfl ?_
          refine v_aload X 0 dX4_flownBy_25 rfl ?_
          refine v_ifnull X dX4_flownBy_27 ?_
          refine v_aload X 0 dX4_flownBy_30 rfl ?_
          refine gt_X0_pilot X iwX0 o10k.2.1 o10k.2.2.1 (List.mem_cons_of_mem _ bw_35_15) dX4_flownBy_32 (M q9 1) rfl (fun hr11 => ?_)
          refine v_iload_n X 2 dX4_flownBy_35 rfl rfl ?_
          refine v_icmp_ne X 53 dX4_flownBy_36 (by decide) ⟨by omega, by omega⟩ ⟨by omega, by omega⟩ (fun u12 => ?_) (fun u12 => ?_)
          · skip
            refine v_iinc X 4 [(3, .int (iz (i + 1))), (4, .ref (ad q9)), (0, .ref (ad 31)), (1, .int (iz u)), (2, .int (iz c))] dX4_flownBy_53 rfl (by decide) rfl ?_
            refine v_goto X 4 dX4_flownBy_56 (by decide) ?_
            refine v_lv [2, 3, 4, 0] rfl ?_
            exact ih2 c (i + 1) (j + 1) (by omega) (by omega) (by subst ei; rw [smA_s, ← hc]; have e9 : cPi M R (j : Int) = M q9 1 := (by unfold cPi; rw [aId_of o10r]); split; (rw [if_neg (by omega)]; omega); omega) (by omega) (by omega)
          · skip
            refine v_aload_n X 1 dX4_flownBy_39 rfl rfl ?_
            refine gt_X4_trial X iwX4 (Std.lt hS rfl) (Std.k hS rfl rfl) (List.mem_cons_of_mem _ bw_6_13) dX4_flownBy_40 41 (Std.r hS 6 rfl) ?_
            refine v_iload_n X 4 dX4_flownBy_43 rfl rfl ?_
            refine v_callV X [.int (iz i)] hRm (c_X3_has_41 _ _ _ hS i ⟨by omega, by omega⟩) (gV bw_34_22 bw_34_23 bw_35_0 bw_2_19 bw_35_1) rfl ddX3_has (by decide) (Std.lt hS rfl) (Std.k hS rfl rfl) ⟨rfl, by decide⟩ (Nat.le_of_ble_eq_true rfl) dX4_flownBy_44 (k_pB (fun b13 => ?_) (fun b13 => ?_))
            · skip
              refine v_if_eq X 53 dX4_flownBy_47 (by decide) ⟨by decide, by decide⟩ (fun q => absurd q (by decide)) (fun _ => ?_)
              refine v_iinc X 3 [(2, .int (iz (c + 1))), (4, .ref (ad q9)), (0, .ref (ad 31)), (1, .int (iz u)), (3, .int (iz i))] dX4_flownBy_50 rfl (by decide) rfl ?_
              refine v_iinc X 4 [(3, .int (iz (i + 1))), (2, .int (iz (c + 1))), (4, .ref (ad q9)), (0, .ref (ad 31)), (1, .int (iz u))] dX4_flownBy_53 rfl (by decide) rfl ?_
              refine v_goto X 4 dX4_flownBy_56 (by decide) ?_
              refine v_lv [3, 4, 1, 0] rfl ?_
              exact ih2 (c + 1) (i + 1) (j + 1) (by omega) (by omega) (by subst ei; rw [smA_s, ← hc]; have e9 : cPi M R (j : Int) = M q9 1 := (by unfold cPi; rw [aId_of o10r]); rw [if_pos ((lkF_has ho).mp (by rw [← (hT.2.2.2 (j : Int) (by omega) (by omega)).2.1]; exact b13.2.2)), if_pos (by omega)]) (by omega) (by omega)
            · skip
              refine v_if_eq X 53 dX4_flownBy_47 (by decide) ⟨by decide, by decide⟩ (fun _ => ?_) (fun q => absurd (by decide) q)
              refine v_iinc X 4 [(3, .int (iz (i + 1))), (4, .ref (ad q9)), (0, .ref (ad 31)), (1, .int (iz u)), (2, .int (iz c))] dX4_flownBy_53 rfl (by decide) rfl ?_
              refine v_goto X 4 dX4_flownBy_56 (by decide) ?_
              refine v_lv [2, 3, 4, 0] rfl ?_
              exact ih2 c (i + 1) (j + 1) (by omega) (by omega) (by subst ei; rw [smA_s, ← hc]; have e9 : cPi M R (j : Int) = M q9 1 := (by unfold cPi; rw [aId_of o10r]); rw [if_neg (fun z => b13 ⟨by omega, by omega, by rw [(hT.2.2.2 (j : Int) (by omega) (by omega)).2.1]; exact (lkF_has ho).mpr z⟩)]; omega) (by omega) (by omega)
  refine v_lv [2, 3, 1, 0] rfl ?_
  exact hl1 _ 0 0 0 (by omega) (by omega) (rfl) (by omega) (Nat.lt_succ_self _)

-- minutesFrom
set_option maxHeartbeats 4000000 in
set_option maxRecDepth 100000 in
theorem c_X4_minutesFrom (l : Launch) (D : va_G) (cy : Nat → ClassId) {N : Nat} {sh : MS} {ad : Nat → Nat} {M L : MI} {R : MR} (hS : Std N sh R) (a b : Int) (ha : 0 ≤ a ∧ a < 6) (hb : 0 ≤ b ∧ b < 240) (hb9 : 0 ≤ M 14 b ∧ M 14 b ≤ 9) : Ctr l D cy yX4_minutesFrom wsX4_minutesFrom ({ frames := 0, cells := 0, slots := 0, locals := 0 } : Room) N sh ad M L R [.ref (ad 31), .int (iz a), .int (iz b)] (pI N sh ad M L R (fun r => r = M 33 (a * 10 + M 14 b))) := by
  refine Ctr.ofI (by decide) rfl (Nat.le_of_ble_eq_true rfl) ?_
  intro K hKl hKd hRm hnm X hret
  have X : VX K cX4_minutesFrom 4 wsX4_minutesFrom RX4 := X
  show V K 4 0 0 N sh ad M L R [(0, .ref (ad 31)), (1, .int (iz a)), (2, .int (iz b))] [] 0
  refine v_iload_n X 1 dX4_minutesFrom_0 rfl rfl ?_
  refine v_bipush X dX4_minutesFrom_1 (by decide) ?_
  refine v_imul X dX4_minutesFrom_3 ?_
  refine v_aload_n X 0 dX4_minutesFrom_4 rfl rfl ?_
  refine gt_X4_sky X iwX4 (Std.lt hS rfl) (Std.k hS rfl rfl) (List.mem_cons_of_mem _ bw_6_15) dX4_minutesFrom_5 13 (Std.r hS 1 rfl) ?_
  refine gt_X8_base X iwX8 (Std.lt hS rfl) (Std.k hS rfl rfl) (List.mem_cons_of_mem _ bw_36_11) dX4_minutesFrom_8 14 (Std.r hS 0 rfl) ?_
  refine v_iload_n X 2 dX4_minutesFrom_11 rfl rfl ?_
  refine v_iald X (M 14 b) (Std.lt hS rfl) (Std.at hS rfl rfl) (by omega) (by omega) dX4_minutesFrom_12 rfl (fun hr1 => ?_)
  refine v_iadd X dX4_minutesFrom_13 ?_
  refine v_istore_n X [(3, .int (iz ((a * 10) + (M 14 b)))), (0, .ref (ad 31)), (1, .int (iz a)), (2, .int (iz b))] dX4_minutesFrom_14 rfl (by decide) rfl ?_
  refine v_iload_n X 0 dX4_minutesFrom_15 rfl rfl ?_
  refine v_if_lt X 37 dX4_minutesFrom_16 (by decide) ⟨by omega, by omega⟩ (fun q => absurd q (by omega)) (fun u2 => ?_)
  refine v_iload_n X 0 dX4_minutesFrom_19 rfl rfl ?_
  refine v_aload_n X 1 dX4_minutesFrom_20 rfl rfl ?_
  refine gt_X4_lengths X iwX4 (Std.lt hS rfl) (Std.k hS rfl rfl) (List.mem_cons_of_mem _ bw_6_8) dX4_minutesFrom_21 33 (Std.r hS 3 rfl) ?_
  refine v_alenI X (Std.lt hS rfl) (Std.at hS rfl rfl) dX4_minutesFrom_24 ?_
  refine v_icmp_ge X 37 dX4_minutesFrom_25 (by decide) ⟨by omega, by omega⟩ ⟨by decide, by decide⟩ (fun q => absurd q (by omega)) (fun u3 => ?_)
  refine v_aload_n X 1 dX4_minutesFrom_28 rfl rfl ?_
  refine gt_X4_lengths X iwX4 (Std.lt hS rfl) (Std.k hS rfl rfl) (List.mem_cons_of_mem _ bw_6_8) dX4_minutesFrom_29 33 (Std.r hS 3 rfl) ?_
  refine v_iload_n X 0 dX4_minutesFrom_32 rfl rfl ?_
  refine v_iald X (M 33 ((a * 10) + (M 14 b))) (Std.lt hS rfl) (Std.at hS rfl rfl) (by omega) (by omega) dX4_minutesFrom_33 rfl (fun hr4 => ?_)
  refine v_goto X 38 dX4_minutesFrom_34 (by decide) ?_
  refine hret _ _ _ _ _ _ _ _ _ _ _ (some (.int (iz (M 33 ((a * 10) + (M 14 b)))))) dX4_minutesFrom_38 ⟨rfl, _, rfl⟩ (by decide) (by decide) (fun hmok => ?_)
  refine ⟨rfl, rfl, rfl, rfl, rfl, rfl, (M 33 ((a * 10) + (M 14 b))), rfl, ⟨by omega, by omega⟩, ?_⟩
  try dsimp only
  all_goals rfl

-- lastFree
set_option maxHeartbeats 4000000 in
set_option maxRecDepth 100000 in
theorem c_X4_lastFree (l : Launch) (D : va_G) (cy : Nat → ClassId) {N : Nat} {sh : MS} {ad : Nat → Nat} {M L : MI} {R : MR} (hS : Std N sh R) (f t : Int) (hf : 0 ≤ f ∧ f ≤ 240) (ht : -100 ≤ t ∧ t ≤ 239) : Ctr l D cy yX4_lastFree wsX4_lastFree ({ frames := 1, cells := 0, slots := 0, locals := 13 } : Room) N sh ad M L R [.ref (ad 31), .int (iz f), .int (iz t)] (pI N sh ad M L R (fun r => r = lf (fun m => decide (M 34 m ≠ 0)) f (t - f + 1).toNat t)) := by
  refine Ctr.ofI (by decide) rfl (Nat.le_of_ble_eq_true rfl) ?_
  intro K hKl hKd hRm hnm X hret
  have X : VX K cX4_lastFree 4 wsX4_lastFree RX4 := X
  show V K 4 0 0 N sh ad M L R [(0, .ref (ad 31)), (1, .int (iz f)), (2, .int (iz t))] [] 0
  refine v_iload_n X 2 dX4_lastFree_0 rfl rfl ?_
  refine v_sipush X dX4_lastFree_1 (by decide) ?_
  obtain ⟨x1, u2⟩ : ∃ z : Int, z = min t 239 := ⟨_, rfl⟩
  refine v_min X x1 hRm (List.mem_cons_of_mem _ bw_36_23) (List.mem_cons_of_mem _ bw_32_4) (List.mem_cons_of_mem _ bw_18_8) (List.mem_cons_of_mem _ bw_32_5) ⟨Nat.le_of_ble_eq_true rfl, Nat.le_of_ble_eq_true rfl, Nat.le_of_ble_eq_true rfl, Nat.le_of_ble_eq_true rfl⟩ ⟨by omega, by omega⟩ ⟨by decide, by decide⟩ u2 dX4_lastFree_4 ?_
  refine v_istore_n X [(3, .int (iz x1)), (0, .ref (ad 31)), (1, .int (iz f)), (2, .int (iz t))] dX4_lastFree_7 rfl (by decide) rfl ?_
  have hl3 : ∀ (n5 : Nat) (x : Int), (-101 ≤ x ∧ x ≤ 239) → (lf (fun m => decide (M 34 m ≠ 0)) f (x - f + 1).toNat x = lf (fun m => decide (M 34 m ≠ 0)) f (t - f + 1).toNat t) → (x + 102).toNat < n5 → V K 4 0 0 N sh ad M L R [(0, .ref (ad 31)), (1, .int (iz f)), (2, .int (iz t)), (3, .int (iz x))] [] 8 := by
    intro n5
    induction n5 with
    | zero => intro x hx hlf hn6; exact absurd hn6 (Nat.not_lt_zero _)
    | succ n5 ih4 =>
      intro x hx hlf hn6
      refine v_iload_n X 3 dX4_lastFree_8 rfl rfl ?_
      refine v_iload_n X 1 dX4_lastFree_9 rfl rfl ?_
      refine v_icmp_lt X 34 dX4_lastFree_10 (by decide) ⟨by omega, by omega⟩ ⟨by omega, by omega⟩ (fun u7 => ?_) (fun u7 => ?_)
      · skip
        refine v_iconst X dX4_lastFree_34 ?_
        refine hret _ _ _ _ _ _ _ _ _ _ _ (some (.int (iz (-1)))) dX4_lastFree_35 ⟨rfl, _, rfl⟩ (by decide) (by decide) (fun hmok => ?_)
        refine ⟨rfl, rfl, rfl, rfl, rfl, rfl, (-1), rfl, ⟨by decide, by decide⟩, ?_⟩
        try dsimp only
        rw [← hlf]
        rw [lf_low (by omega)]
      · skip
        refine v_iload_n X 3 dX4_lastFree_13 rfl rfl ?_
        refine v_if_lt X 34 dX4_lastFree_14 (by decide) ⟨by omega, by omega⟩ (fun q => absurd q (by omega)) (fun u8 => ?_)
        refine v_aload_n X 0 dX4_lastFree_17 rfl rfl ?_
        refine gt_X4_taken X iwX4 (Std.lt hS rfl) (Std.k hS rfl rfl) (List.mem_cons_of_mem _ bw_6_10) dX4_lastFree_18 34 (Std.r hS 4 rfl) ?_
        refine v_iload_n X 3 dX4_lastFree_21 rfl rfl ?_
        refine v_zald X (M 34 x) (Std.lt hS rfl) (Std.at hS rfl rfl) (by omega) (by omega) dX4_lastFree_22 rfl (fun hr9 => ?_)
        refine v_if_ne X 28 dX4_lastFree_23 (by decide) ⟨by omega, by omega⟩ (fun u10 => ?_) (fun u10 => ?_)
        · skip
          refine v_iinc X 3 [(3, .int (iz (x + (-1)))), (0, .ref (ad 31)), (1, .int (iz f)), (2, .int (iz t))] dX4_lastFree_28 rfl (by decide) rfl ?_
          refine v_goto X 8 dX4_lastFree_31 (by decide) ?_
          refine v_lv [1, 2, 3, 0] rfl ?_
          exact ih4 (x + (-1)) (by omega) (by rw [← hlf]; exact (lf_miss (t := x) (by omega) (decide_eq_true (by omega))).symm) (by omega)
        · skip
          refine v_iload_n X 3 dX4_lastFree_26 rfl rfl ?_
          refine hret _ _ _ _ _ _ _ _ _ _ _ (some (.int (iz x))) dX4_lastFree_27 ⟨rfl, _, rfl⟩ (by decide) (by decide) (fun hmok => ?_)
          refine ⟨rfl, rfl, rfl, rfl, rfl, rfl, x, rfl, ⟨by omega, by omega⟩, ?_⟩
          try dsimp only
          rw [← hlf]
          rw [lf_hit (by omega) (decide_eq_false (by omega))]
  refine v_lv [1, 2, 3, 0] rfl ?_
  exact hl3 _ x1 (by omega) (by rw [show x1 = t by omega]) (Nat.lt_succ_self _)

-- firstFree
set_option maxHeartbeats 4000000 in
set_option maxRecDepth 100000 in
theorem c_X4_firstFree (l : Launch) (D : va_G) (cy : Nat → ClassId) {N : Nat} {sh : MS} {ad : Nat → Nat} {M L : MI} {R : MR} (hS : Std N sh R) (f : Int) (hf : 0 ≤ f ∧ f ≤ 1000) : Ctr l D cy yX4_firstFree wsX4_firstFree ({ frames := 1, cells := 0, slots := 0, locals := 13 } : Room) N sh ad M L R [.ref (ad 31), .int (iz f)] (pI N sh ad M L R (fun r => r = ff (fun m => decide (M 34 m ≠ 0)) (240 - f).toNat f)) := by
  refine Ctr.ofI (by decide) rfl (Nat.le_of_ble_eq_true rfl) ?_
  intro K hKl hKd hRm hnm X hret
  have X : VX K cX4_firstFree 3 wsX4_firstFree RX4 := X
  show V K 3 0 0 N sh ad M L R [(0, .ref (ad 31)), (1, .int (iz f))] [] 0
  refine v_iconst X dX4_firstFree_0 ?_
  refine v_iload_n X 1 dX4_firstFree_1 rfl rfl ?_
  obtain ⟨x1, u2⟩ : ∃ z : Int, z = max 0 f := ⟨_, rfl⟩
  refine v_max X x1 hRm (List.mem_cons_of_mem _ bw_35_8) (List.mem_cons_of_mem _ bw_18_7) (List.mem_cons_of_mem _ bw_18_8) (List.mem_cons_of_mem _ bw_18_9) ⟨Nat.le_of_ble_eq_true rfl, Nat.le_of_ble_eq_true rfl, Nat.le_of_ble_eq_true rfl, Nat.le_of_ble_eq_true rfl⟩ ⟨by decide, by decide⟩ ⟨by omega, by omega⟩ u2 dX4_firstFree_2 ?_
  refine v_istore_n X [(2, .int (iz x1)), (0, .ref (ad 31)), (1, .int (iz f))] dX4_firstFree_5 rfl (by decide) rfl ?_
  have hl3 : ∀ (n5 : Nat) (x : Int), (0 ≤ x ∧ x ≤ 1000) → (ff (fun m => decide (M 34 m ≠ 0)) (240 - x).toNat x = ff (fun m => decide (M 34 m ≠ 0)) (240 - f).toNat f) → (1000 - x).toNat < n5 → V K 3 0 0 N sh ad M L R [(0, .ref (ad 31)), (1, .int (iz f)), (2, .int (iz x))] [] 6 := by
    intro n5
    induction n5 with
    | zero => intro x hx hff hn6; exact absurd hn6 (Nat.not_lt_zero _)
    | succ n5 ih4 =>
      intro x hx hff hn6
      refine v_iload_n X 2 dX4_firstFree_6 rfl rfl ?_
      refine v_sipush X dX4_firstFree_7 (by decide) ?_
      refine v_icmp_ge X 30 dX4_firstFree_10 (by decide) ⟨by omega, by omega⟩ ⟨by decide, by decide⟩ (fun u7 => ?_) (fun u7 => ?_)
      · skip
        refine v_iconst X dX4_firstFree_30 ?_
        refine hret _ _ _ _ _ _ _ _ _ _ _ (some (.int (iz (-1)))) dX4_firstFree_31 ⟨rfl, _, rfl⟩ (by decide) (by decide) (fun hmok => ?_)
        refine ⟨rfl, rfl, rfl, rfl, rfl, rfl, (-1), rfl, ⟨by decide, by decide⟩, ?_⟩
        try dsimp only
        rw [← hff]
        rw [ff_high (by omega)]
      · skip
        refine v_aload_n X 0 dX4_firstFree_13 rfl rfl ?_
        refine gt_X4_taken X iwX4 (Std.lt hS rfl) (Std.k hS rfl rfl) (List.mem_cons_of_mem _ bw_6_10) dX4_firstFree_14 34 (Std.r hS 4 rfl) ?_
        refine v_iload_n X 2 dX4_firstFree_17 rfl rfl ?_
        refine v_zald X (M 34 x) (Std.lt hS rfl) (Std.at hS rfl rfl) (by omega) (by omega) dX4_firstFree_18 rfl (fun hr8 => ?_)
        refine v_if_ne X 24 dX4_firstFree_19 (by decide) ⟨by omega, by omega⟩ (fun u9 => ?_) (fun u9 => ?_)
        · skip
          refine v_iinc X 2 [(2, .int (iz (x + 1))), (0, .ref (ad 31)), (1, .int (iz f))] dX4_firstFree_24 rfl (by decide) rfl ?_
          refine v_goto X 6 dX4_firstFree_27 (by decide) ?_
          refine v_lv [1, 2, 0] rfl ?_
          exact ih4 (x + 1) (by omega) (by rw [← hff]; exact (ff_miss (l := x) (by omega) (decide_eq_true (by omega))).symm) (by omega)
        · skip
          refine v_iload_n X 2 dX4_firstFree_22 rfl rfl ?_
          refine hret _ _ _ _ _ _ _ _ _ _ _ (some (.int (iz x))) dX4_firstFree_23 ⟨rfl, _, rfl⟩ (by decide) (by decide) (fun hmok => ?_)
          refine ⟨rfl, rfl, rfl, rfl, rfl, rfl, x, rfl, ⟨by omega, by omega⟩, ?_⟩
          try dsimp only
          rw [← hff]
          rw [ff_hit (by omega) (decide_eq_false (by omega))]
  refine v_lv [1, 2, 0] rfl ?_
  exact hl3 _ x1 (by omega) (by rw [show x1 = f by omega]) (Nat.lt_succ_self _)

theorem ask9_d (M : MI) (x0 x1 x2 x3 x6 x8 : Int) : mu (mu (mu (mu (mu (mu M 32 0 x0) 32 1 x1) 32 2 x2) 32 3 x3) 32 6 x6) 32 8 x8 = mrow M 32 (ask9 (M 32) x0 x1 x2 x3 (M 32 4) (M 32 5) x6 (M 32 7) x8) := by
  rw [← ask9_eq]
  funext a b
  by_cases h : a = 32
  · subst h
    simp only [mu, if_true]
    by_cases h8 : b = 8
    · subst h8; rfl
    by_cases h7 : b = 7
    · subst h7; rfl
    by_cases h6 : b = 6
    · subst h6; rfl
    by_cases h5 : b = 5
    · subst h5; rfl
    by_cases h4 : b = 4
    · subst h4; rfl
    by_cases h3 : b = 3
    · subst h3; rfl
    by_cases h2 : b = 2
    · subst h2; rfl
    by_cases h1 : b = 1
    · subst h1; rfl
    by_cases h0 : b = 0
    · subst h0; rfl
    simp only [h0, h1, h2, h3, h4, h5, h6, h7, h8, if_false]
  · simp only [mu, h, if_false]
theorem ask9_b (M : MI) (x4 x5 x7 : Int) : mu (mu (mu M 32 4 x4) 32 5 x5) 32 7 x7 = mrow M 32 (ask9 (M 32) (M 32 0) (M 32 1) (M 32 2) (M 32 3) x4 x5 (M 32 6) x7 (M 32 8)) := by
  rw [← ask9_eq]
  funext a b
  by_cases h : a = 32
  · subst h
    simp only [mu, if_true]
    by_cases h8 : b = 8
    · subst h8; rfl
    by_cases h7 : b = 7
    · subst h7; rfl
    by_cases h6 : b = 6
    · subst h6; rfl
    by_cases h5 : b = 5
    · subst h5; rfl
    by_cases h4 : b = 4
    · subst h4; rfl
    by_cases h3 : b = 3
    · subst h3; rfl
    by_cases h2 : b = 2
    · subst h2; rfl
    by_cases h1 : b = 1
    · subst h1; rfl
    by_cases h0 : b = 0
    · subst h0; rfl
    simp only [h0, h1, h2, h3, h4, h5, h6, h7, h8, if_false]
  · simp only [mu, h, if_false]

-- describe
set_option maxHeartbeats 4000000 in
set_option maxRecDepth 100000 in
theorem c_X4_describe (l : Launch) (D : va_G) (cy : Nat → ClassId) {N : Nat} {sh : MS} {ad : Nat → Nat} {M L : MI} {R : MR} (hS : Std N sh R) (q : Nat) (a : Int) (ha : inR a) (hq : ActOk M R sh N q) (wo : Int → Int) (p : List Fl) (hO : ShowOk M R sh N) (hT : rT wo M p) (ho : okF (M 6 1) p) : Ctr l D cy yX4_describe wsX4_describe ({ frames := 2, cells := 0, slots := 0, locals := 45 } : Room) N sh ad M L R [.ref (ad 31), .ref (ad q), .int (iz a)] (eV N sh ad L R (fun M' => M' = mrow M 32 (ask9 (M 32) a (M q 0) (ahL (cKd M R) p) (smF (fun n => if cPi M R n = M q 1 then 1 else 0) p) (M 32 4) (M 32 5) (M 6 4) (M 32 7) (M q 2)))) := by
  refine Ctr.ofV (by decide) rfl (Nat.le_of_ble_eq_true rfl) ?_
  intro K hKl hKd hRm hnm X hret
  have X : VX K cX4_describe 4 wsX4_describe RX4 := X
  show V K 4 0 0 N sh ad M L R [(0, .ref (ad 31)), (1, .ref (ad q)), (2, .int (iz a))] [] 0
  have hO1 := hO.1
  have hq1 := hq.1
  have hq5 := hq.2.2.2.2.1
  have hla := rpX_last (by omega) ho hT
  refine v_aload_n X 0 dX4_describe_0 rfl rfl ?_
  refine gt_X4_show X iwX4 (Std.lt hS rfl) (Std.k hS rfl rfl) (List.mem_cons_of_mem _ bw_6_14) dX4_describe_1 6 (Std.r hS 0 rfl) ?_
  refine v_aload_n X 0 dX4_describe_4 rfl rfl ?_
  refine gt_X4_trial X iwX4 (Std.lt hS rfl) (Std.k hS rfl rfl) (List.mem_cons_of_mem _ bw_6_13) dX4_describe_5 41 (Std.r hS 6 rfl) ?_
  refine v_callV X [] hRm (c_X3_lastAct_41 _ _ _ hS) (gV bw_35_17 bw_35_18 bw_35_19 bw_2_19 bw_35_20) rfl ddX3_lastAct (by decide) (Std.lt hS rfl) (Std.k hS rfl rfl) ⟨rfl, by decide⟩ (Nat.le_of_ble_eq_true rfl) dX4_describe_8 (k_pI (fun r1 hr2 e3 => ?_))
  refine v_callV X [.int (iz r1)] hRm (c_X7_actAt _ _ _ hS r1 ⟨by omega, by omega⟩ hO) (gV bw_33_8 bw_24_6 bw_24_7 bw_1_22 bw_24_8) rfl ddX7_actAt (by decide) (Std.lt hS rfl) (Std.k hS rfl rfl) ⟨rfl, by decide⟩ (Nat.le_of_ble_eq_true rfl) dX4_describe_11 (k_pR (fun r4 e5 => ?_))
  rcases e5 with ⟨rfl, o7n⟩ | ⟨q6, rfl, o7r, o7b, o7k⟩
  · skip
    refine v_st (st' := [.null]) rfl ?_
    refine v_astore_nN X [(3, .null), (0, .ref (ad 31)), (1, .ref (ad q)), (2, .int (iz a))] dX4_describe_14 rfl (by decide) rfl ?_
    have hah : ahL (cKd M R) p = -1 := by
      cases p with
      | nil => rfl
      | cons f p => exfalso; have h1 := ho.1; have h2 : laA (f :: p) = fa f := rfl; omega
    refine v_aload_n X 1 dX4_describe_15 rfl rfl ?_
    refine gt_X4_vars X iwX4 (Std.lt hS rfl) (Std.k hS rfl rfl) (List.mem_cons_of_mem _ bw_6_7) dX4_describe_16 32 (Std.r hS 2 rfl) ?_
    refine v_iconst X dX4_describe_19 ?_
    refine v_iload_n X 3 dX4_describe_20 rfl rfl ?_
    refine v_iast X (Std.lt hS rfl) (Std.at hS rfl rfl) (by omega) (by omega) ⟨by omega, by omega⟩ dX4_describe_21 ?_
    refine v_aload_n X 1 dX4_describe_22 rfl rfl ?_
    refine gt_X4_vars X iwX4 (Std.lt hS rfl) (Std.k hS rfl rfl) (List.mem_cons_of_mem _ bw_6_7) dX4_describe_23 32 (Std.r hS 2 rfl) ?_
    refine v_iconst X dX4_describe_26 ?_
    refine v_aload_n X 2 dX4_describe_27 rfl rfl ?_
    refine gt_X0_kind X iwX0 hq.2.1 hq.2.2.1 (List.mem_cons_of_mem _ bw_35_14) dX4_describe_28 (M q 0) (by rw [mu_i _ _ _ (by omega)]) (fun hr8 => ?_)
    refine v_iast X (Std.lt hS rfl) (Std.at hS rfl rfl) (by omega) (by omega) ⟨by omega, by omega⟩ dX4_describe_31 ?_
    refine v_aload_n X 1 dX4_describe_32 rfl rfl ?_
    refine gt_X4_vars X iwX4 (Std.lt hS rfl) (Std.k hS rfl rfl) (List.mem_cons_of_mem _ bw_6_7) dX4_describe_33 32 (Std.r hS 2 rfl) ?_
    refine v_iconst X dX4_describe_36 ?_
    refine v_aload_nN X 0 dX4_describe_37 rfl rfl ?_
    refine v_ifnonnullN X dX4_describe_38 ?_
    refine v_iconst X dX4_describe_41 ?_
    refine v_goto X 49 dX4_describe_42 (by decide) ?_
    refine v_iast X (Std.lt hS rfl) (Std.at hS rfl rfl) (by omega) (by omega) ⟨by decide, by decide⟩ dX4_describe_49 ?_
    refine v_aload_n X 1 dX4_describe_50 rfl rfl ?_
    refine gt_X4_vars X iwX4 (Std.lt hS rfl) (Std.k hS rfl rfl) (List.mem_cons_of_mem _ bw_6_7) dX4_describe_51 32 (Std.r hS 2 rfl) ?_
    refine v_iconst X dX4_describe_54 ?_
    refine v_aload_n X 1 dX4_describe_55 rfl rfl ?_
    refine v_aload_n X 2 dX4_describe_56 rfl rfl ?_
    refine gt_X0_pilot X iwX0 hq.2.1 hq.2.2.1 (List.mem_cons_of_mem _ bw_35_15) dX4_describe_57 (M q 1) (by rw [mu_i _ _ _ (by omega), mu_i _ _ _ (by omega), mu_i _ _ _ (by omega)]) (fun hr9 => ?_)
    refine v_callV X [.int (iz (M q 1))] hRm (c_X4_flownBy _ _ _ hS (M q 1) ⟨by omega, by omega⟩ wo p (ShowOk_fr ⟨fun i hi => (by rw [mu_i _ _ _ (by omega), mu_i _ _ _ (by omega), mu_i _ _ _ (by omega)]), fun z hz => (show (mu (mu (mu M 32 0 a) 32 1 (M q 0)) 32 2 (-1)) 32 z = M 32 z by rw [mu_z _ _ _ (by omega), mu_z _ _ _ (by omega), mu_z _ _ _ (by omega)])⟩ hO) hT ho) (gV bw_35_21 bw_35_22 bw_35_23 bw_2_15 bw_36_0) rfl ddX4_flownBy (by decide) (Std.lt hS rfl) (Std.k hS rfl rfl) ⟨rfl, by decide⟩ (Nat.le_of_ble_eq_true rfl) dX4_describe_60 (k_pI (fun r10 hr11 e12 => ?_))
    rw [smF_pi ⟨fun i hi => (by rw [mu_i _ _ _ (by omega), mu_i _ _ _ (by omega), mu_i _ _ _ (by omega)]), fun z hz => (show (mu (mu (mu M 32 0 a) 32 1 (M q 0)) 32 2 (-1)) 32 z = M 32 z by rw [mu_z _ _ _ (by omega), mu_z _ _ _ (by omega), mu_z _ _ _ (by omega)])⟩ hO ho] at e12
    refine v_iast X (Std.lt hS rfl) (Std.at hS rfl rfl) (by omega) (by omega) ⟨by omega, by omega⟩ dX4_describe_63 ?_
    refine v_aload_n X 1 dX4_describe_64 rfl rfl ?_
    refine gt_X4_vars X iwX4 (Std.lt hS rfl) (Std.k hS rfl rfl) (List.mem_cons_of_mem _ bw_6_7) dX4_describe_65 32 (Std.r hS 2 rfl) ?_
    refine v_bipush X dX4_describe_68 (by decide) ?_
    refine v_aload_n X 1 dX4_describe_70 rfl rfl ?_
    refine gt_X4_show X iwX4 (Std.lt hS rfl) (Std.k hS rfl rfl) (List.mem_cons_of_mem _ bw_6_14) dX4_describe_71 6 (Std.r hS 0 rfl) ?_
    refine gt_X7_wind X iwX7 (Std.lt hS rfl) (Std.k hS rfl rfl) (List.mem_cons_of_mem _ bw_35_16) dX4_describe_74 (M 6 4) rfl (fun hr13 => ?_)
    refine v_iast X (Std.lt hS rfl) (Std.at hS rfl rfl) (by omega) (by omega) ⟨by omega, by omega⟩ dX4_describe_77 ?_
    refine v_aload_n X 1 dX4_describe_78 rfl rfl ?_
    refine gt_X4_vars X iwX4 (Std.lt hS rfl) (Std.k hS rfl rfl) (List.mem_cons_of_mem _ bw_6_7) dX4_describe_79 32 (Std.r hS 2 rfl) ?_
    refine v_bipush X dX4_describe_82 (by decide) ?_
    refine v_aload_n X 2 dX4_describe_84 rfl rfl ?_
    refine gt_X0_worth X iwX0 hq.2.1 hq.2.2.1 (List.mem_cons_of_mem _ bw_34_21) dX4_describe_85 (M q 2) (by rw [mu_i _ _ _ (by omega), mu_i _ _ _ (by omega), mu_i _ _ _ (by omega), mu_i _ _ _ (by omega), mu_i _ _ _ (by omega)]) (fun hr14 => ?_)
    refine v_iast X (Std.lt hS rfl) (Std.at hS rfl rfl) (by omega) (by omega) ⟨by omega, by omega⟩ dX4_describe_88 ?_
    refine hret _ _ _ _ _ _ _ _ _ _ _ none dX4_describe_89 ⟨rfl, rfl⟩ (by decide) (by decide) (fun hmok => ?_)
    refine ⟨rfl, rfl, rfl, rfl, rfl, rfl, ?_⟩
    try dsimp only
    rw [ask9_d, hah, ← e12]
  · skip
    have q6B : 112 ≤ q6 := o7k.1
    refine v_st (st' := [.ref (ad q6)]) rfl ?_
    refine v_astore_n X [(3, .ref (ad q6)), (0, .ref (ad 31)), (1, .ref (ad q)), (2, .int (iz a))] dX4_describe_14 rfl (by decide) rfl ?_
    have hah : ahL (cKd M R) p = M q6 0 := by
      cases p with
      | nil => exfalso; have h2 : laA [] = -1 := rfl; omega
      | cons f p => show M (aId R (fa f)) 0 = _; have h2 : laA (f :: p) = fa f := rfl; rw [show fa f = r1 by omega, aId_of o7r]
    refine v_aload_n X 1 dX4_describe_15 rfl rfl ?_
    refine gt_X4_vars X iwX4 (Std.lt hS rfl) (Std.k hS rfl rfl) (List.mem_cons_of_mem _ bw_6_7) dX4_describe_16 32 (Std.r hS 2 rfl) ?_
    refine v_iconst X dX4_describe_19 ?_
    refine v_iload_n X 3 dX4_describe_20 rfl rfl ?_
    refine v_iast X (Std.lt hS rfl) (Std.at hS rfl rfl) (by omega) (by omega) ⟨by omega, by omega⟩ dX4_describe_21 ?_
    refine v_aload_n X 1 dX4_describe_22 rfl rfl ?_
    refine gt_X4_vars X iwX4 (Std.lt hS rfl) (Std.k hS rfl rfl) (List.mem_cons_of_mem _ bw_6_7) dX4_describe_23 32 (Std.r hS 2 rfl) ?_
    refine v_iconst X dX4_describe_26 ?_
    refine v_aload_n X 2 dX4_describe_27 rfl rfl ?_
    refine gt_X0_kind X iwX0 hq.2.1 hq.2.2.1 (List.mem_cons_of_mem _ bw_35_14) dX4_describe_28 (M q 0) (by rw [mu_i _ _ _ (by omega)]) (fun hr15 => ?_)
    refine v_iast X (Std.lt hS rfl) (Std.at hS rfl rfl) (by omega) (by omega) ⟨by omega, by omega⟩ dX4_describe_31 ?_
    refine v_aload_n X 1 dX4_describe_32 rfl rfl ?_
    refine gt_X4_vars X iwX4 (Std.lt hS rfl) (Std.k hS rfl rfl) (List.mem_cons_of_mem _ bw_6_7) dX4_describe_33 32 (Std.r hS 2 rfl) ?_
    refine v_iconst X dX4_describe_36 ?_
    refine v_aload_n X 0 dX4_describe_37 rfl rfl ?_
    refine v_ifnonnull X 45 dX4_describe_38 (by decide) ?_
    refine v_aload_n X 0 dX4_describe_45 rfl rfl ?_
    refine gt_X0_kind X iwX0 o7k.2.1 o7k.2.2.1 (List.mem_cons_of_mem _ bw_35_14) dX4_describe_46 (M q6 0) (by rw [mu_i _ _ _ (by omega), mu_i _ _ _ (by omega)]) (fun hr16 => ?_)
    refine v_iast X (Std.lt hS rfl) (Std.at hS rfl rfl) (by omega) (by omega) ⟨by omega, by omega⟩ dX4_describe_49 ?_
    refine v_aload_n X 1 dX4_describe_50 rfl rfl ?_
    refine gt_X4_vars X iwX4 (Std.lt hS rfl) (Std.k hS rfl rfl) (List.mem_cons_of_mem _ bw_6_7) dX4_describe_51 32 (Std.r hS 2 rfl) ?_
    refine v_iconst X dX4_describe_54 ?_
    refine v_aload_n X 1 dX4_describe_55 rfl rfl ?_
    refine v_aload_n X 2 dX4_describe_56 rfl rfl ?_
    refine gt_X0_pilot X iwX0 hq.2.1 hq.2.2.1 (List.mem_cons_of_mem _ bw_35_15) dX4_describe_57 (M q 1) (by rw [mu_i _ _ _ (by omega), mu_i _ _ _ (by omega), mu_i _ _ _ (by omega)]) (fun hr17 => ?_)
    refine v_callV X [.int (iz (M q 1))] hRm (c_X4_flownBy _ _ _ hS (M q 1) ⟨by omega, by omega⟩ wo p (ShowOk_fr ⟨fun i hi => (by rw [mu_i _ _ _ (by omega), mu_i _ _ _ (by omega), mu_i _ _ _ (by omega)]), fun z hz => (show (mu (mu (mu M 32 0 a) 32 1 (M q 0)) 32 2 (M q6 0)) 32 z = M 32 z by rw [mu_z _ _ _ (by omega), mu_z _ _ _ (by omega), mu_z _ _ _ (by omega)])⟩ hO) hT ho) (gV bw_35_21 bw_35_22 bw_35_23 bw_2_15 bw_36_0) rfl ddX4_flownBy (by decide) (Std.lt hS rfl) (Std.k hS rfl rfl) ⟨rfl, by decide⟩ (Nat.le_of_ble_eq_true rfl) dX4_describe_60 (k_pI (fun r18 hr19 e20 => ?_))
    rw [smF_pi ⟨fun i hi => (by rw [mu_i _ _ _ (by omega), mu_i _ _ _ (by omega), mu_i _ _ _ (by omega)]), fun z hz => (show (mu (mu (mu M 32 0 a) 32 1 (M q 0)) 32 2 (M q6 0)) 32 z = M 32 z by rw [mu_z _ _ _ (by omega), mu_z _ _ _ (by omega), mu_z _ _ _ (by omega)])⟩ hO ho] at e20
    refine v_iast X (Std.lt hS rfl) (Std.at hS rfl rfl) (by omega) (by omega) ⟨by omega, by omega⟩ dX4_describe_63 ?_
    refine v_aload_n X 1 dX4_describe_64 rfl rfl ?_
    refine gt_X4_vars X iwX4 (Std.lt hS rfl) (Std.k hS rfl rfl) (List.mem_cons_of_mem _ bw_6_7) dX4_describe_65 32 (Std.r hS 2 rfl) ?_
    refine v_bipush X dX4_describe_68 (by decide) ?_
    refine v_aload_n X 1 dX4_describe_70 rfl rfl ?_
    refine gt_X4_show X iwX4 (Std.lt hS rfl) (Std.k hS rfl rfl) (List.mem_cons_of_mem _ bw_6_14) dX4_describe_71 6 (Std.r hS 0 rfl) ?_
    refine gt_X7_wind X iwX7 (Std.lt hS rfl) (Std.k hS rfl rfl) (List.mem_cons_of_mem _ bw_35_16) dX4_describe_74 (M 6 4) rfl (fun hr21 => ?_)
    refine v_iast X (Std.lt hS rfl) (Std.at hS rfl rfl) (by omega) (by omega) ⟨by omega, by omega⟩ dX4_describe_77 ?_
    refine v_aload_n X 1 dX4_describe_78 rfl rfl ?_
    refine gt_X4_vars X iwX4 (Std.lt hS rfl) (Std.k hS rfl rfl) (List.mem_cons_of_mem _ bw_6_7) dX4_describe_79 32 (Std.r hS 2 rfl) ?_
    refine v_bipush X dX4_describe_82 (by decide) ?_
    refine v_aload_n X 2 dX4_describe_84 rfl rfl ?_
    refine gt_X0_worth X iwX0 hq.2.1 hq.2.2.1 (List.mem_cons_of_mem _ bw_34_21) dX4_describe_85 (M q 2) (by rw [mu_i _ _ _ (by omega), mu_i _ _ _ (by omega), mu_i _ _ _ (by omega), mu_i _ _ _ (by omega), mu_i _ _ _ (by omega)]) (fun hr22 => ?_)
    refine v_iast X (Std.lt hS rfl) (Std.at hS rfl rfl) (by omega) (by omega) ⟨by omega, by omega⟩ dX4_describe_88 ?_
    refine hret _ _ _ _ _ _ _ _ _ _ _ none dX4_describe_89 ⟨rfl, rfl⟩ (by decide) (by decide) (fun hmok => ?_)
    refine ⟨rfl, rfl, rfl, rfl, rfl, rfl, ?_⟩
    try dsimp only
    rw [ask9_d, hah, ← e20]

-- describeBegin
set_option maxHeartbeats 4000000 in
set_option maxRecDepth 100000 in
theorem c_X4_describeBegin (l : Launch) (D : va_G) (cy : Nat → ClassId) {N : Nat} {sh : MS} {ad : Nat → Nat} {M L : MI} {R : MR} (hS : Std N sh R) (b m : Int) (hb : 0 ≤ b ∧ b < 240) (hm : inR m) : Ctr l D cy yX4_describeBegin wsX4_describeBegin ({ frames := 0, cells := 0, slots := 0, locals := 0 } : Room) N sh ad M L R [.ref (ad 31), .int (iz b), .int (iz m)] (eV N sh ad L R (fun M' => M' = mrow M 32 (ask9 (M 32) (M 32 0) (M 32 1) (M 32 2) (M 32 3) (M 14 b) b (M 32 6) m (M 32 8)))) := by
  refine Ctr.ofV (by decide) rfl (Nat.le_of_ble_eq_true rfl) ?_
  intro K hKl hKd hRm hnm X hret
  have X : VX K cX4_describeBegin 3 wsX4_describeBegin RX4 := X
  show V K 3 0 0 N sh ad M L R [(0, .ref (ad 31)), (1, .int (iz b)), (2, .int (iz m))] [] 0
  refine v_aload_n X 0 dX4_describeBegin_0 rfl rfl ?_
  refine gt_X4_vars X iwX4 (Std.lt hS rfl) (Std.k hS rfl rfl) (List.mem_cons_of_mem _ bw_6_7) dX4_describeBegin_1 32 (Std.r hS 2 rfl) ?_
  refine v_iconst X dX4_describeBegin_4 ?_
  refine v_aload_n X 0 dX4_describeBegin_5 rfl rfl ?_
  refine gt_X4_sky X iwX4 (Std.lt hS rfl) (Std.k hS rfl rfl) (List.mem_cons_of_mem _ bw_6_15) dX4_describeBegin_6 13 (Std.r hS 1 rfl) ?_
  refine gt_X8_base X iwX8 (Std.lt hS rfl) (Std.k hS rfl rfl) (List.mem_cons_of_mem _ bw_36_11) dX4_describeBegin_9 14 (Std.r hS 0 rfl) ?_
  refine v_iload_n X 1 dX4_describeBegin_12 rfl rfl ?_
  refine v_iald X (M 14 b) (Std.lt hS rfl) (Std.at hS rfl rfl) (by omega) (by omega) dX4_describeBegin_13 rfl (fun hr1 => ?_)
  refine v_iast X (Std.lt hS rfl) (Std.at hS rfl rfl) (by omega) (by omega) ⟨by omega, by omega⟩ dX4_describeBegin_14 ?_
  refine v_aload_n X 0 dX4_describeBegin_15 rfl rfl ?_
  refine gt_X4_vars X iwX4 (Std.lt hS rfl) (Std.k hS rfl rfl) (List.mem_cons_of_mem _ bw_6_7) dX4_describeBegin_16 32 (Std.r hS 2 rfl) ?_
  refine v_iconst X dX4_describeBegin_19 ?_
  refine v_iload_n X 1 dX4_describeBegin_20 rfl rfl ?_
  refine v_iast X (Std.lt hS rfl) (Std.at hS rfl rfl) (by omega) (by omega) ⟨by omega, by omega⟩ dX4_describeBegin_21 ?_
  refine v_aload_n X 0 dX4_describeBegin_22 rfl rfl ?_
  refine gt_X4_vars X iwX4 (Std.lt hS rfl) (Std.k hS rfl rfl) (List.mem_cons_of_mem _ bw_6_7) dX4_describeBegin_23 32 (Std.r hS 2 rfl) ?_
  refine v_bipush X dX4_describeBegin_26 (by decide) ?_
  refine v_iload_n X 2 dX4_describeBegin_28 rfl rfl ?_
  refine v_iast X (Std.lt hS rfl) (Std.at hS rfl rfl) (by omega) (by omega) ⟨by omega, by omega⟩ dX4_describeBegin_29 ?_
  refine hret _ _ _ _ _ _ _ _ _ _ _ none dX4_describeBegin_30 ⟨rfl, rfl⟩ (by decide) (by decide) (fun hmok => ?_)
  refine ⟨rfl, rfl, rfl, rfl, rfl, rfl, ?_⟩
  try dsimp only
  rw [ask9_b]

