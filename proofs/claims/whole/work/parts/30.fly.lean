/-! THE TEXT of the class, number t: kinds, starts, conditions, ends, code, stack lie behind it -/
def cP (M : MI) (t : Nat) (v : Int → Int) (k : Int) : Int → Bool := fun r => decide (M (t + 1) r = k) && (decide (M (t + 3) r = M (t + 4) r) || decide (cVal (M (t + 5)) v (M (t + 3) r) (M (t + 4) r) ≠ 0))
def cFst (M : MI) (t : Nat) (v : Int → Int) (k : Int) : Int := firstN (cP M t v k) (M t 7).toNat
def cAm (M : MI) (t : Nat) (v : Int → Int) (q : Int) : Int := if 0 ≤ q ∧ q < M t 7 then max 0 (min 30 (cVal (M (t + 5)) v (M (t + 2) q) (M (t + 3) q))) else 0
def cTxt (M : MI) (t : Nat) : Prop := (0 ≤ M t 7 ∧ M t 7 ≤ 16) ∧ ∀ r : Int, 0 ≤ r → r < M t 7 → (0 ≤ M (t + 2) r ∧ M (t + 2) r ≤ M (t + 3) r ∧ M (t + 3) r ≤ M (t + 4) r ∧ M (t + 4) r ≤ 400) ∧ (∀ v : Int → Int, M (t + 3) r ≠ M (t + 4) r → cRun (M (t + 5)) v (M (t + 3) r) (M (t + 4) r - M (t + 3) r).toNat ≠ []) ∧ (∀ v : Int → Int, M (t + 1) r ≠ 0 → cRun (M (t + 5)) v (M (t + 2) r) (M (t + 3) r - M (t + 2) r).toNat ≠ [])
def isT (t : Nat) : Prop := t = 17 ∨ t = 24
theorem isT.lt {t N : Nat} {sh : MS} {R : MR} (hS : Std N sh R) (h : isT t) : t < N := by
  rcases h with h | h <;> (rw [h]; exact Std.lt hS rfl)
theorem isT.k {t N : Nat} {sh : MS} {R : MR} (hS : Std N sh R) (h : isT t) : (sh t).1 = 10 := by
  rcases h with h | h <;> (rw [h]; exact Std.k hS rfl rfl)
theorem c_X10_first (l : Launch) (D : va_G) (cy : Nat → ClassId) {N : Nat} {sh : MS} {ad : Nat → Nat} {M L : MI} {R : MR} (hS : Std N sh R) (t : Nat) (ht : isT t) (k : Int) (hk : inR k) (hX : cTxt M t) : Ctr l D cy yX10_firstThatHolds wsX10_firstThatHolds ({ frames := 2, cells := 0, slots := 0, locals := 49 } : Room) N sh ad M L R [.ref (ad t), .int (iz k), .ref (ad 32)] (eI N sh ad L R (fun r M' => r = cFst M t (M 32) k ∧ ∃ g h : Int → Int, M' = mrow (mrow M 23 g) 30 h)) := by
  rcases ht with rfl | rfl
  · refine (c_X10_firstThatHolds_17 l D cy hS k hk hX.1 (fun r r1 r2 => ⟨(hX.2 r r1 r2).1, (hX.2 r r1 r2).2.1 (M 32), (hX.2 r r1 r2).2.2 (M 32)⟩)).mono ?_
    rintro rv N' sh' ad' M' L' R' ⟨e1, e2, e3, e4, e5, r, e6, e7, e8, g, e9⟩
    exact ⟨e1, e2, e3, e4, e5, r, e6, e7, e8, g, M 30, by rw [e9]; exact (mrow_self (mrow M 23 g) 30).symm⟩
  · refine (c_X10_firstThatHolds_24 l D cy hS k hk hX.1 (fun r r1 r2 => ⟨(hX.2 r r1 r2).1, (hX.2 r r1 r2).2.1 (M 32), (hX.2 r r1 r2).2.2 (M 32)⟩)).mono ?_
    rintro rv N' sh' ad' M' L' R' ⟨e1, e2, e3, e4, e5, r, e6, e7, e8, g, e9⟩
    exact ⟨e1, e2, e3, e4, e5, r, e6, e7, e8, M 23, g, by rw [e9, mrow_self]⟩
theorem c_X10_amount (l : Launch) (D : va_G) (cy : Nat → ClassId) {N : Nat} {sh : MS} {ad : Nat → Nat} {M L : MI} {R : MR} (hS : Std N sh R) (t : Nat) (ht : isT t) (q : Int) (hq : inR q) (hk0 : 0 ≤ q → q < M t 7 → M (t + 1) q ≠ 0) (hX : cTxt M t) : Ctr l D cy yX10_amountOf wsX10_amountOf ({ frames := 2, cells := 0, slots := 0, locals := 49 } : Room) N sh ad M L R [.ref (ad t), .int (iz q), .ref (ad 32)] (eI N sh ad L R (fun r M' => r = cAm M t (M 32) q ∧ ∃ g h : Int → Int, M' = mrow (mrow M 23 g) 30 h)) := by
  rcases ht with rfl | rfl
  · refine (c_X10_amountOf_17 l D cy hS q hq hX.1 hk0 (fun r r1 r2 => ⟨(hX.2 r r1 r2).1, (hX.2 r r1 r2).2.1 (M 32), (hX.2 r r1 r2).2.2 (M 32)⟩)).mono ?_
    rintro rv N' sh' ad' M' L' R' ⟨e1, e2, e3, e4, e5, r, e6, e7, e8, g, e9⟩
    exact ⟨e1, e2, e3, e4, e5, r, e6, e7, e8, g, M 30, by rw [e9]; exact (mrow_self (mrow M 23 g) 30).symm⟩
  · refine (c_X10_amountOf_24 l D cy hS q hq hX.1 hk0 (fun r r1 r2 => ⟨(hX.2 r r1 r2).1, (hX.2 r r1 r2).2.1 (M 32), (hX.2 r r1 r2).2.2 (M 32)⟩)).mono ?_
    rintro rv N' sh' ad' M' L' R' ⟨e1, e2, e3, e4, e5, r, e6, e7, e8, g, e9⟩
    exact ⟨e1, e2, e3, e4, e5, r, e6, e7, e8, M 23, g, by rw [e9, mrow_self]⟩
theorem isT_row {t : Nat} (h : isT t) {M M' : MI} (hf : frC M M') : M' t = M t ∧ M' (t + 1) = M (t + 1) ∧ M' (t + 2) = M (t + 2) ∧ M' (t + 3) = M (t + 3) ∧ M' (t + 4) = M (t + 4) ∧ M' (t + 5) = M (t + 5) := by
  rcases h with rfl | rfl <;> exact ⟨hf.1 _ (by omega), hf.1 _ (by omega), hf.1 _ (by omega), hf.1 _ (by omega), hf.1 _ (by omega), hf.1 _ (by omega)⟩
theorem cFst_fr {M M' : MI} (hf : frC M M') {t : Nat} (ht : isT t) (v : Int → Int) (k : Int) : cFst M' t v k = cFst M t v k := by
  obtain ⟨h0, h1, h2, h3, h4, h5⟩ := isT_row ht hf
  unfold cFst cP
  rw [h0, h1, h3, h4, h5]
theorem cAm_fr {M M' : MI} (hf : frC M M') {t : Nat} (ht : isT t) (v : Int → Int) (q : Int) : cAm M' t v q = cAm M t v q := by
  obtain ⟨h0, h1, h2, h3, h4, h5⟩ := isT_row ht hf
  unfold cAm
  rw [h0, h2, h3, h5]
theorem cTxt_fr {M M' : MI} (hf : frC M M') {t : Nat} (ht : isT t) (hX : cTxt M t) : cTxt M' t := by
  obtain ⟨h0, h1, h2, h3, h4, h5⟩ := isT_row ht hf
  unfold cTxt at hX ⊢
  rw [h0, h1, h2, h3, h4, h5]
  exact hX
theorem cAm_b (M : MI) (t : Nat) (v : Int → Int) (q : Int) : 0 ≤ cAm M t v q ∧ cAm M t v q ≤ 30 := by
  unfold cAm
  split <;> omega
theorem cFst_kind {M : MI} {t : Nat} {v : Int → Int} {k : Int} (hk : k ≠ 0) (h : 0 ≤ cFst M t v k) : M (t + 1) (cFst M t v k) ≠ 0 := by
  have := (firstN_yes (p := cP M t v k) (n := (M t 7).toNat) (by show cFst M t v k ≠ -1; omega)).2.2
  unfold cP at this
  rw [Bool.and_eq_true] at this
  have h1 := of_decide_eq_true this.1
  show M (t + 1) (firstN (cP M t v k) (M t 7).toNat) ≠ 0
  unfold cP
  omega
theorem lf_rK {M : MI} {p : List Fl} (h : rK M p) {lo : Int} (hlo : 0 ≤ lo) : ∀ (n : Nat) (t : Int), t < 240 → lf (fun m => decide (M 34 m ≠ 0)) lo n t = lf (tkL p) lo n t
  | 0, _, _ => rfl
  | n + 1, t, ht => by
    rw [lf, lf, lf_rK h hlo n (t - 1) (by omega)]
    by_cases z : t < lo
    · rw [if_pos z, if_pos z]
    · rw [if_neg z, if_neg z]
      have e : decide (M 34 t ≠ 0) = tkL p t := by
        rw [h t (by omega) ht]
        cases tkL p t <;> rfl
      rw [e]
theorem ff_rK {M : MI} {p : List Fl} (h : rK M p) : ∀ (n : Nat) (t : Int), 0 ≤ t → ff (fun m => decide (M 34 m ≠ 0)) n t = ff (tkL p) n t
  | 0, _, _ => rfl
  | n + 1, t, ht => by
    rw [ff, ff, ff_rK h n (t + 1) (by omega)]
    by_cases z : 240 ≤ t
    · rw [if_pos z, if_pos z]
    · rw [if_neg z, if_neg z]
      have e : decide (M 34 t ≠ 0) = tkL p t := by
        rw [h t ht (by omega)]
        cases tkL p t <;> rfl
      rw [e]
theorem ask9_ask9 (f : Int → Int) (x0 x1 x2 x3 x4 x5 x6 x7 x8 y0 y1 y2 y3 y4 y5 y6 y7 y8 : Int) : ask9 (ask9 f x0 x1 x2 x3 x4 x5 x6 x7 x8) y0 y1 y2 y3 y4 y5 y6 y7 y8 = ask9 f y0 y1 y2 y3 y4 y5 y6 y7 y8 := ask9_9 (fun _ hz => ask9_out hz) _ _ _ _ _ _ _ _ _
theorem ask9_self (f : Int → Int) : ask9 f (f 0) (f 1) (f 2) (f 3) (f 4) (f 5) (f 6) (f 7) (f 8) = f := by
  funext z
  unfold ask9
  repeat' split
  all_goals first | rfl | (rename_i h; rw [h])
def fT (M : MI) (p : List Fl) (q : Nat) (a b : Int) : Int := lf (tkL p) (M 16 a) (b - M q 3 - M 16 a + 1).toNat (b - M q 3)
def fL (M : MI) (p : List Fl) (q : Nat) (b m : Int) : Int := ff (tkL p) (240 - (b + m + M q 4)).toNat (b + m + M q 4)
def gRu (M : MI) (t : Nat) (p : List Fl) (v : Int → Int) : Int := if 0 < (p.length : Int) then cFst M t v 1 else -1
def flyOk (M : MI) (t : Nat) (p : List Fl) (q : Nat) (a b m : Int) (v : Int → Int) : Bool := decide (fT M p q a b ≠ -1 ∧ fL M p q b m ≠ -1 ∧ fL M p q b m - fT M p q a b ≤ M q 5) && (decide (cAm M t v (gRu M t p v) ≤ b - endL p) && (decide (fL M p q b m - fT M p q a b ≤ M q 5 - cAm M t v (cFst M t v 2)) && decide (cFst M t v 0 = -1)))
theorem flyOk_iff {M : MI} {t : Nat} {p : List Fl} {q : Nat} {a b m : Int} {v : Int → Int} : flyOk M t p q a b m v = true ↔ (fT M p q a b ≠ -1 ∧ fL M p q b m ≠ -1 ∧ fL M p q b m - fT M p q a b ≤ M q 5) ∧ cAm M t v (gRu M t p v) ≤ b - endL p ∧ fL M p q b m - fT M p q a b ≤ M q 5 - cAm M t v (cFst M t v 2) ∧ cFst M t v 0 = -1 := by
  unfold flyOk
  simp only [Bool.and_eq_true, decide_eq_true_eq]
theorem flyOk_fr {M M' : MI} (hf : frC M M') {t : Nat} (ht : isT t) {q : Nat} (hq : 112 ≤ q) (p : List Fl) (a b m : Int) (v : Int → Int) : flyOk M' t p q a b m v = flyOk M t p q a b m v := by
  unfold flyOk fT fL gRu
  rw [hf.1 q (by omega), hf.1 16 (by omega), cFst_fr hf ht, cFst_fr hf ht, cFst_fr hf ht, cAm_fr hf ht, cAm_fr hf ht]
theorem wL_b {A : Int} {w : Int → Int} (hw : ∀ a : Int, 0 ≤ a → a < A → 0 ≤ w a ∧ w a ≤ 100) : ∀ {p : List Fl}, okF A p → 0 ≤ wL w p ∧ wL w p ≤ 100 * (p.length : Int)
  | [], _ => ⟨Int.le_refl _, Int.le_refl _⟩
  | f :: p, o => by
    have h1 := wL_b hw o.2.2.2.2.2
    have h2 := hw (fa f) o.1.1 o.1.2
    show 0 ≤ wL w p + w (fa f) ∧ wL w p + w (fa f) ≤ 100 * ((p.length + 1 : Nat) : Int)
    omega
theorem rT_cons {wo : Int → Int} {M M' : MI} {p : List Fl} {f : Fl} {A : Int} (hA : A ≤ 6) (h : rT wo M p) (o : okF A (f :: p)) (hM : ∀ i : Nat, 41 ≤ i → i ≤ 46 → M' i = (mu (mu (mu (mu (mu (mu (mu M 42 (M 41 5) (fa f)) 43 (fa f) (fo f)) 44 (fa f) (fg f)) 45 (fa f) (fm f)) 46 (fa f) (fn f)) 41 5 (M 41 5 + 1)) 41 6 (M 41 6 + wo (fa f))) i) : rT wo M' (f :: p) := by
  obtain ⟨⟨h1, h2⟩, h3, h4, h5⟩ := h
  have hl := okF_le (n := 6) (by omega) o
  simp only [List.length_cons] at hl
  unfold rT
  rw [hM 41 (by decide) (by decide), hM 42 (by decide) (by decide), hM 43 (by decide) (by decide), hM 44 (by decide) (by decide), hM 45 (by decide) (by decide), hM 46 (by decide) (by decide)]
  refine ⟨⟨?_, ?_⟩, ⟨?_, ?_⟩, ?_, ?_⟩
  · show M 41 5 + 1 = ((p.length + 1 : Nat) : Int); omega
  · show M 41 6 + wo (fa f) = wL wo p + wo (fa f); rw [h2]
  · show (if (p.length : Int) = M 41 5 then fa f else M 42 (p.length : Int)) = fa f; rw [if_pos h1.symm]
  · refine rpO_congr h3 (fun k k1 k2 => ?_)
    show (if k = M 41 5 then fa f else M 42 k) = M 42 k
    rw [if_neg (by omega)]
  · intro k k1 k2
    simp only [List.length_cons] at k1
    show (if k = M 41 5 then fa f else M 42 k) = -1
    rw [if_neg (by omega)]
    exact h4 k (by omega) k2
  · intro a a1 a2
    have h6 := h5 a a1 a2
    refine ⟨?_, ?_, ?_, ?_⟩
    · show (if a = fa f then fo f else M 43 a) = (if fa f = a then fo f else lkF fo p a)
      by_cases z : a = fa f
      · rw [if_pos z, if_pos z.symm]
      · rw [if_neg z, if_neg (fun y => z y.symm), h6.1]
    · show (if a = fa f then fg f else M 44 a) = (if fa f = a then fg f else lkF fg p a)
      by_cases z : a = fa f
      · rw [if_pos z, if_pos z.symm]
      · rw [if_neg z, if_neg (fun y => z y.symm), h6.2.1]
    · show (if a = fa f then fm f else M 45 a) = (if fa f = a then fm f else lkF fm p a)
      by_cases z : a = fa f
      · rw [if_pos z, if_pos z.symm]
      · rw [if_neg z, if_neg (fun y => z y.symm), h6.2.2.1]
    · show (if a = fa f then fn f else M 46 a) = (if fa f = a then fn f else lkF fn p a)
      by_cases z : a = fa f
      · rw [if_pos z, if_pos z.symm]
      · rw [if_neg z, if_neg (fun y => z y.symm), h6.2.2.2]
theorem rK_cons {M M' : MI} {p : List Fl} {f : Fl} (h : rK M p) (hM : M' 34 = (mu (mu M 34 (fo f) 1) 34 (fn f) 1) 34) : rK M' (f :: p) := by
  intro m m1 m2
  rw [hM]
  show (if m = fn f then 1 else if m = fo f then 1 else M 34 m) = if (tkL p m || (decide (fo f = m) || decide (fn f = m))) = true then 1 else 0
  by_cases z : m = fn f
  · rw [if_pos z, decide_eq_true z.symm, Bool.or_true, Bool.or_true, if_pos rfl]
  · rw [if_neg z, show decide (fn f = m) = false from decide_eq_false (fun y => z y.symm), Bool.or_false]
    by_cases y : m = fo f
    · rw [if_pos y, decide_eq_true y.symm, Bool.or_true, if_pos rfl]
    · rw [if_neg y, decide_eq_false (fun x => y x.symm), Bool.or_false]
      exact h m m1 m2
/-- what the planner's rows keep to -/
def plPre (M : MI) : Prop := (∀ z : Int, 0 ≤ z → z < 60 → 0 ≤ M 33 z ∧ M 33 z ≤ 54) ∧ (∀ b : Int, 0 ≤ b → b < 240 → (0 ≤ M 14 b ∧ M 14 b ≤ 9) ∧ M 15 b ≤ 240) ∧ ∀ a : Int, 0 ≤ a → a < 6 → 0 ≤ M 16 a ∧ M 16 a < 240
theorem plPre_fr {M M' : MI} (hf : frC M M') (h : plPre M) : plPre M' := by
  unfold plPre at h ⊢
  rw [hf.1 33 (by omega), hf.1 14 (by omega), hf.1 15 (by omega), hf.1 16 (by omega)]
  exact h
theorem frC_tk {M : MI} {v g h : Int → Int} (hv : ∀ z, ¬ (0 ≤ z ∧ z ≤ 8) → v z = M 32 z) : frC M (mrow (mrow (mrow M 32 v) 23 g) 30 h) :=
  ⟨fun i hi => by rw [mrow_i _ _ (by omega), mrow_i _ _ (by omega), mrow_i _ _ (by omega)], fun z hz => hv z hz⟩

theorem mrow2 (M : MI) (g h g' h' : Int → Int) : mrow (mrow (mrow (mrow M 23 g) 30 h) 23 g') 30 h' = mrow (mrow M 23 g') 30 h' := by
  funext a b
  simp only [mrow]
  by_cases h1 : a = 30
  · simp only [h1, if_true]
  · by_cases h2 : a = 23
    · simp only [h2, if_true]
    · simp only [h1, h2, if_false]

-- outRuleFor
set_option maxHeartbeats 4000000 in
set_option maxRecDepth 100000 in
theorem c_X4_outRuleFor (l : Launch) (D : va_G) (cy : Nat → ClassId) {N : Nat} {sh : MS} {ad : Nat → Nat} {M L : MI} {R : MR} (hS : Std N sh R) (a b : Int) (ha : 0 ≤ a ∧ a < M 6 1) (hb : 0 ≤ b ∧ b < 240) (wo : Int → Int) (p : List Fl) (t : Nat) (ht : isT t) (hRt : R 31 7 = some t) (hX : cTxt M t) (hO : ShowOk M R sh N) (hT : rT wo M p) (ho : okF (M 6 1) p) (hP : plPre M) : Ctr l D cy yX4_outRuleFor wsX4_outRuleFor ({ frames := 3, cells := 0, slots := 0, locals := 73 } : Room) N sh ad M L R [.ref (ad 31), .int (iz a), .int (iz b)] (eI N sh ad L R (fun r M' => (r = if M 33 (a * 10 + M 14 b) = 0 then -1 else cFst M t (ask9 (M 32) a (cKd M R a) (ahL (cKd M R) p) (smF (fun n => if cPi M R n = cPi M R a then 1 else 0) p) (M 14 b) b (M 6 4) (M 33 (a * 10 + M 14 b)) (cWo M R a)) 0) ∧ frC M M')) := by
  refine Ctr.ofI (by decide) rfl (Nat.le_of_ble_eq_true rfl) ?_
  intro K hKl hKd hRm hnm X hret
  have X : VX K cX4_outRuleFor 5 wsX4_outRuleFor RX4 := X
  show V K 5 0 0 N sh ad M L R [(0, .ref (ad 31)), (1, .int (iz a)), (2, .int (iz b))] [] 0
  have hO1 := hO.1
  have hP2 := (hP.2.1 b hb.1 hb.2).1
  have hP1 := hP.1 (a * 10 + M 14 b) (by omega) (by omega)
  refine v_aload_n X 0 dX4_outRuleFor_0 rfl rfl ?_
  refine gt_X4_show X iwX4 (Std.lt hS rfl) (Std.k hS rfl rfl) (List.mem_cons_of_mem _ bw_6_14) dX4_outRuleFor_1 6 (Std.r hS 0 rfl) ?_
  refine v_iload_n X 1 dX4_outRuleFor_4 rfl rfl ?_
  refine v_callV X [.int (iz a)] hRm (c_X7_actAt _ _ _ hS a ⟨by omega, by omega⟩ hO) (gV bw_33_8 bw_24_6 bw_24_7 bw_1_22 bw_24_8) rfl ddX7_actAt (by decide) (Std.lt hS rfl) (Std.k hS rfl rfl) ⟨rfl, by decide⟩ (Nat.le_of_ble_eq_true rfl) dX4_outRuleFor_5 (k_pR (fun r1 e2 => ?_))
  rcases e2 with ⟨rfl, o4n⟩ | ⟨q3, rfl, o4r, o4b, o4k⟩
  · skip
    exfalso; omega
  · skip
    have q3B : 112 ≤ q3 := o4k.1
    refine v_st (st' := [.ref (ad q3)]) rfl ?_
    refine v_astore_n X [(3, .ref (ad q3)), (0, .ref (ad 31)), (1, .int (iz a)), (2, .int (iz b))] dX4_outRuleFor_8 rfl (by decide) rfl ?_
    refine v_aload_n X 1 dX4_outRuleFor_9 rfl rfl ?_
    refine v_iload_n X 2 dX4_outRuleFor_10 rfl rfl ?_
    refine v_iload_n X 3 dX4_outRuleFor_11 rfl rfl ?_
    refine v_callV X [.int (iz a), .int (iz b)] hRm (c_X4_minutesFrom _ _ _ hS a b (by omega) (by omega) hP2) (gV bw_36_7 bw_36_8 bw_36_9 bw_2_15 bw_36_10) rfl ddX4_minutesFrom (by decide) (Std.lt hS rfl) (Std.k hS rfl rfl) ⟨rfl, by decide⟩ (Nat.le_of_ble_eq_true rfl) dX4_outRuleFor_12 (k_pI (fun r5 hr6 e7 => ?_))
    refine v_istore X [(4, .int (iz r5)), (3, .ref (ad q3)), (0, .ref (ad 31)), (1, .int (iz a)), (2, .int (iz b))] dX4_outRuleFor_15 (by decide) rfl ?_
    refine v_aload_n X 1 dX4_outRuleFor_17 rfl rfl ?_
    refine v_ifnull X dX4_outRuleFor_18 ?_
    refine v_iload X 0 dX4_outRuleFor_21 rfl ?_
    refine v_if_ne X 28 dX4_outRuleFor_23 (by decide) ⟨by omega, by omega⟩ (fun u8 => ?_) (fun u8 => ?_)
    · skip
      refine v_aload_n X 2 dX4_outRuleFor_28 rfl rfl ?_
      refine v_aload_n X 1 dX4_outRuleFor_29 rfl rfl ?_
      refine v_iload_n X 3 dX4_outRuleFor_30 rfl rfl ?_
      refine v_callV X [.ref (ad q3), .int (iz a)] hRm (c_X4_describe _ _ _ hS q3 a ⟨by omega, by omega⟩ o4k wo p hO hT ho) (gV bw_35_10 bw_35_11 bw_35_12 bw_2_15 bw_35_13) rfl ddX4_describe (by decide) (Std.lt hS rfl) (Std.k hS rfl rfl) ⟨rfl, by decide⟩ (Nat.le_of_ble_eq_true rfl) dX4_outRuleFor_31 (k_eV (fun M10 e9 => ?_))
      replace e9 : M10 = (mrow M 32 (ask9 (M 32) a (M q3 0) (ahL (cKd M R) p) (smF (fun n => if cPi M R n = (M q3 1) then 1 else 0) p) (M 32 4) (M 32 5) (M 6 4) (M 32 7) (M q3 2))) := e9
      subst e9
      refine v_aload_n X 2 dX4_outRuleFor_34 rfl rfl ?_
      refine v_iload_n X 4 dX4_outRuleFor_35 rfl rfl ?_
      refine v_iload X 0 dX4_outRuleFor_36 rfl ?_
      refine v_callV X [.int (iz b), .int (iz r5)] hRm (c_X4_describeBegin _ _ _ hS b r5 (by omega) ⟨by omega, by omega⟩) (gV bw_37_4 bw_37_5 bw_37_6 bw_2_15 bw_37_7) rfl ddX4_describeBegin (by decide) (Std.lt hS rfl) (Std.k hS rfl rfl) ⟨rfl, by decide⟩ (Nat.le_of_ble_eq_true rfl) dX4_outRuleFor_38 (k_eV (fun M12 e11 => ?_))
      replace e11 : M12 = (mrow (mrow M 32 (ask9 (M 32) a (M q3 0) (ahL (cKd M R) p) (smF (fun n => if cPi M R n = (M q3 1) then 1 else 0) p) (M 32 4) (M 32 5) (M 6 4) (M 32 7) (M q3 2))) 32 (ask9 (ask9 (M 32) a (M q3 0) (ahL (cKd M R) p) (smF (fun n => if cPi M R n = (M q3 1) then 1 else 0) p) (M 32 4) (M 32 5) (M 6 4) (M 32 7) (M q3 2)) ((ask9 (M 32) a (M q3 0) (ahL (cKd M R) p) (smF (fun n => if cPi M R n = (M q3 1) then 1 else 0) p) (M 32 4) (M 32 5) (M 6 4) (M 32 7) (M q3 2)) 0) ((ask9 (M 32) a (M q3 0) (ahL (cKd M R) p) (smF (fun n => if cPi M R n = (M q3 1) then 1 else 0) p) (M 32 4) (M 32 5) (M 6 4) (M 32 7) (M q3 2)) 1) ((ask9 (M 32) a (M q3 0) (ahL (cKd M R) p) (smF (fun n => if cPi M R n = (M q3 1) then 1 else 0) p) (M 32 4) (M 32 5) (M 6 4) (M 32 7) (M q3 2)) 2) ((ask9 (M 32) a (M q3 0) (ahL (cKd M R) p) (smF (fun n => if cPi M R n = (M q3 1) then 1 else 0) p) (M 32 4) (M 32 5) (M 6 4) (M 32 7) (M q3 2)) 3) (M 14 b) b ((ask9 (M 32) a (M q3 0) (ahL (cKd M R) p) (smF (fun n => if cPi M R n = (M q3 1) then 1 else 0) p) (M 32 4) (M 32 5) (M 6 4) (M 32 7) (M q3 2)) 6) r5 ((ask9 (M 32) a (M q3 0) (ahL (cKd M R) p) (smF (fun n => if cPi M R n = (M q3 1) then 1 else 0) p) (M 32 4) (M 32 5) (M 6 4) (M 32 7) (M q3 2)) 8))) := e11
      subst e11
      refine v_aload_n X 2 dX4_outRuleFor_41 rfl rfl ?_
      refine gt_X4_text X iwX4 (Std.lt hS rfl) (Std.k hS rfl rfl) (List.mem_cons_of_mem _ bw_6_16) dX4_outRuleFor_42 t hRt ?_
      refine v_iconst X dX4_outRuleFor_45 ?_
      refine v_aload_n X 2 dX4_outRuleFor_46 rfl rfl ?_
      refine gt_X4_vars X iwX4 (Std.lt hS rfl) (Std.k hS rfl rfl) (List.mem_cons_of_mem _ bw_6_7) dX4_outRuleFor_47 32 (Std.r hS 2 rfl) ?_
      refine v_callV X [.int (iz 0), .ref (ad 32)] hRm (c_X10_first _ _ _ hS t ht 0 ⟨by decide, by decide⟩ (cTxt_fr ⟨fun i hi => (by rw [mrow_i _ _ (by omega), mrow_i _ _ (by omega)]), fun z hz => (ask9_out hz).trans (ask9_out hz)⟩ ht hX)) (gV bw_37_8 bw_37_9 bw_37_10 bw_2_10 bw_37_11) rfl ddX10_firstThatHolds (by decide) (isT.lt hS ht) (isT.k hS ht) ⟨rfl, by decide⟩ (Nat.le_of_ble_eq_true rfl) dX4_outRuleFor_50 (k_eI (fun r13 M14 hr15 e16 => ?_))
      obtain ⟨e16p, g17, h18, e16m⟩ := e16
      replace e16m : M14 = (mrow (mrow (mrow (mrow M 32 (ask9 (M 32) a (M q3 0) (ahL (cKd M R) p) (smF (fun n => if cPi M R n = (M q3 1) then 1 else 0) p) (M 32 4) (M 32 5) (M 6 4) (M 32 7) (M q3 2))) 32 (ask9 (ask9 (M 32) a (M q3 0) (ahL (cKd M R) p) (smF (fun n => if cPi M R n = (M q3 1) then 1 else 0) p) (M 32 4) (M 32 5) (M 6 4) (M 32 7) (M q3 2)) ((ask9 (M 32) a (M q3 0) (ahL (cKd M R) p) (smF (fun n => if cPi M R n = (M q3 1) then 1 else 0) p) (M 32 4) (M 32 5) (M 6 4) (M 32 7) (M q3 2)) 0) ((ask9 (M 32) a (M q3 0) (ahL (cKd M R) p) (smF (fun n => if cPi M R n = (M q3 1) then 1 else 0) p) (M 32 4) (M 32 5) (M 6 4) (M 32 7) (M q3 2)) 1) ((ask9 (M 32) a (M q3 0) (ahL (cKd M R) p) (smF (fun n => if cPi M R n = (M q3 1) then 1 else 0) p) (M 32 4) (M 32 5) (M 6 4) (M 32 7) (M q3 2)) 2) ((ask9 (M 32) a (M q3 0) (ahL (cKd M R) p) (smF (fun n => if cPi M R n = (M q3 1) then 1 else 0) p) (M 32 4) (M 32 5) (M 6 4) (M 32 7) (M q3 2)) 3) (M 14 b) b ((ask9 (M 32) a (M q3 0) (ahL (cKd M R) p) (smF (fun n => if cPi M R n = (M q3 1) then 1 else 0) p) (M 32 4) (M 32 5) (M 6 4) (M 32 7) (M q3 2)) 6) r5 ((ask9 (M 32) a (M q3 0) (ahL (cKd M R) p) (smF (fun n => if cPi M R n = (M q3 1) then 1 else 0) p) (M 32 4) (M 32 5) (M 6 4) (M 32 7) (M q3 2)) 8))) 23 g17) 30 h18) := e16m
      subst e16m
      replace e16p : r13 = cFst M t (ask9 (ask9 (M 32) a (M q3 0) (ahL (cKd M R) p) (smF (fun n => if cPi M R n = (M q3 1) then 1 else 0) p) (M 32 4) (M 32 5) (M 6 4) (M 32 7) (M q3 2)) ((ask9 (M 32) a (M q3 0) (ahL (cKd M R) p) (smF (fun n => if cPi M R n = (M q3 1) then 1 else 0) p) (M 32 4) (M 32 5) (M 6 4) (M 32 7) (M q3 2)) 0) ((ask9 (M 32) a (M q3 0) (ahL (cKd M R) p) (smF (fun n => if cPi M R n = (M q3 1) then 1 else 0) p) (M 32 4) (M 32 5) (M 6 4) (M 32 7) (M q3 2)) 1) ((ask9 (M 32) a (M q3 0) (ahL (cKd M R) p) (smF (fun n => if cPi M R n = (M q3 1) then 1 else 0) p) (M 32 4) (M 32 5) (M 6 4) (M 32 7) (M q3 2)) 2) ((ask9 (M 32) a (M q3 0) (ahL (cKd M R) p) (smF (fun n => if cPi M R n = (M q3 1) then 1 else 0) p) (M 32 4) (M 32 5) (M 6 4) (M 32 7) (M q3 2)) 3) (M 14 b) b ((ask9 (M 32) a (M q3 0) (ahL (cKd M R) p) (smF (fun n => if cPi M R n = (M q3 1) then 1 else 0) p) (M 32 4) (M 32 5) (M 6 4) (M 32 7) (M q3 2)) 6) r5 ((ask9 (M 32) a (M q3 0) (ahL (cKd M R) p) (smF (fun n => if cPi M R n = (M q3 1) then 1 else 0) p) (M 32 4) (M 32 5) (M 6 4) (M 32 7) (M q3 2)) 8)) 0 := e16p.trans (cFst_fr ⟨fun i hi => (by rw [mrow_i _ _ (by omega), mrow_i _ _ (by omega)]), fun z hz => (ask9_out hz).trans (ask9_out hz)⟩ ht _ _)
      refine hret _ _ _ _ _ _ _ _ _ _ _ (some (.int (iz r13))) dX4_outRuleFor_53 ⟨rfl, _, rfl⟩ (by decide) (by decide) (fun hmok => ?_)
      refine ⟨rfl, rfl, rfl, rfl, rfl, r13, rfl, ⟨by omega, by omega⟩, ?_⟩
      try dsimp only
      refine ⟨?_, ⟨fun i hi => (by rw [mrow_i _ _ (by omega), mrow_i _ _ (by omega), mrow_i _ _ (by omega), mrow_i _ _ (by omega)]), fun z hz => (ask9_out hz).trans (ask9_out hz)⟩⟩
      rw [if_neg (by omega), e16p]
      unfold cKd cPi cWo
      rw [aId_of o4r, ask9_ask9, e7]
      rfl
    · skip
      refine v_iconst X dX4_outRuleFor_26 ?_
      refine hret _ _ _ _ _ _ _ _ _ _ _ (some (.int (iz (-1)))) dX4_outRuleFor_27 ⟨rfl, _, rfl⟩ (by decide) (by decide) (fun hmok => ?_)
      refine ⟨rfl, rfl, rfl, rfl, rfl, (-1), rfl, ⟨by decide, by decide⟩, ?_⟩
      try dsimp only
      refine ⟨?_, frC_refl _⟩
      rw [if_pos (by omega)]

-- flyFrom
set_option maxHeartbeats 4000000 in
set_option maxRecDepth 100000 in
theorem c_X4_flyFrom (l : Launch) (D : va_G) (cy : Nat → ClassId) {N : Nat} {sh : MS} {ad : Nat → Nat} {M L : MI} {R : MR} (hS : Std N sh R) (q : Nat) (a b m : Int) (ha : 0 ≤ a ∧ a < M 6 1) (hq : ActOk M R sh N q) (hb : 0 ≤ b ∧ b < 240) (hm : 1 ≤ m ∧ m ≤ 54) (hbm : b + m ≤ 240) (wo : Int → Int) (p : List Fl) (t : Nat) (ht : isT t) (hRt : R 31 7 = some t) (hX : cTxt M t) (hO : ShowOk M R sh N) (hT : rT wo M p) (hK : rK M p) (ho : okF (M 6 1) p) (hin : inF p a = false) (hwa : wo a = M q 2) (hwo : ∀ a : Int, 0 ≤ a → a < M 6 1 → 0 ≤ wo a ∧ wo a ≤ 100) (h16 : 0 ≤ M 16 a ∧ M 16 a < 240) : Ctr l D cy yX4_flyFrom wsX4_flyFrom ({ frames := 3, cells := 0, slots := 0, locals := 73 } : Room) N sh ad M L R [.ref (ad 31), .ref (ad q), .int (iz a), .int (iz b), .int (iz m)] (eB N sh ad L R (fun M' => flyOk M t p q a b m (ask9 (M 32) (M 32 0) (M 32 1) (M 32 2) (M 32 3) (M 14 b) b (M 32 6) m (M 32 8)) = true ∧ okF (M 6 1) ((a, fT M p q a b, b, m, fL M p q b m) :: p) ∧ rT wo M' ((a, fT M p q a b, b, m, fL M p q b m) :: p) ∧ rK M' ((a, fT M p q a b, b, m, fL M p q b m) :: p) ∧ frC M M' ∧ ∀ i : Nat, 35 ≤ i → i ≤ 40 → M' i = M i) (fun M' => flyOk M t p q a b m (ask9 (M 32) (M 32 0) (M 32 1) (M 32 2) (M 32 3) (M 14 b) b (M 32 6) m (M 32 8)) = false ∧ ∃ (x4 x5 x7 : Int) (g h : Int → Int), M' = mrow (mrow (mrow M 32 (ask9 (M 32) (M 32 0) (M 32 1) (M 32 2) (M 32 3) x4 x5 (M 32 6) x7 (M 32 8))) 23 g) 30 h)) := by
  refine Ctr.ofZ (by decide) rfl (Nat.le_of_ble_eq_true rfl) ?_
  intro K hKl hKd hRm hnm X hret
  have X : VX K cX4_flyFrom 9 wsX4_flyFrom RX4 := X
  show V K 9 0 0 N sh ad M L R [(0, .ref (ad 31)), (1, .ref (ad q)), (2, .int (iz a)), (3, .int (iz b)), (4, .int (iz m))] [] 0
  have hO1 := hO.1
  have hq1 := hq.1
  have hq5 := hq.2.2.2.2.1
  have hla := rpX_last (by omega) ho hT
  have hen := rpX_end (by omega) ho hT
  have hei := endL_in ho
  have hwl := wL_b hwo ho
  have hlp : p.length < 6 := by rcases (show p.length < 6 ∨ p.length = 6 by have := okF_le (n := 6) (by omega) ho; omega) with z | z; exact z; exact absurd (okF_all (n := 6) (by omega) ho z a (by omega) (by omega)) (by rw [hin]; decide)
  have h41 := hT.1
  have hEE : ∀ k : Int, 0 ≤ k → k < 6 → inR (M 44 k + M 45 k) := fun k k1 k2 => by
    have z := hT.2.2.2 k k1 k2
    rw [z.2.1, z.2.2.1]
    rcases Bool.eq_false_or_eq_true (inF p k) with y | y
    · have x := lkF_in ho y
      exact ⟨by omega, by omega⟩
    · rw [lkF_no y, lkF_no y]; decide
  refine v_aload_n X 0 dX4_flyFrom_0 rfl rfl ?_
  refine v_aload_n X 0 dX4_flyFrom_1 rfl rfl ?_
  refine gt_X4_sky X iwX4 (Std.lt hS rfl) (Std.k hS rfl rfl) (List.mem_cons_of_mem _ bw_6_15) dX4_flyFrom_2 13 (Std.r hS 1 rfl) ?_
  refine gt_X8_ready X iwX8 (Std.lt hS rfl) (Std.k hS rfl rfl) (List.mem_cons_of_mem _ bw_35_6) dX4_flyFrom_5 16 (Std.r hS 2 rfl) ?_
  refine v_iload_n X 2 dX4_flyFrom_8 rfl rfl ?_
  refine v_iald X (M 16 a) (Std.lt hS rfl) (Std.at hS rfl rfl) (by omega) (by omega) dX4_flyFrom_9 rfl (fun hr1 => ?_)
  refine v_iload_n X 3 dX4_flyFrom_10 rfl rfl ?_
  refine v_aload_n X 1 dX4_flyFrom_11 rfl rfl ?_
  refine gt_X0_climb X iwX0 hq.2.1 hq.2.2.1 (List.mem_cons_of_mem _ bw_35_7) dX4_flyFrom_12 (M q 3) rfl (fun hr2 => ?_)
  refine v_isub X dX4_flyFrom_15 ?_
  refine v_callV X [.int (iz (M 16 a)), .int (iz (b - (M q 3)))] hRm (c_X4_lastFree _ _ _ hS (M 16 a) (b - (M q 3)) (by omega) (by omega)) (gV bw_36_19 bw_36_20 bw_36_21 bw_2_15 bw_36_22) rfl ddX4_lastFree (by decide) (Std.lt hS rfl) (Std.k hS rfl rfl) ⟨rfl, by decide⟩ (Nat.le_of_ble_eq_true rfl) dX4_flyFrom_16 (k_pI (fun r3 hr4 e5 => ?_))
  replace e5 : r3 = fT M p q a b := e5.trans (lf_rK hK h16.1 _ _ (by omega))
  refine v_istore X [(5, .int (iz r3)), (0, .ref (ad 31)), (1, .ref (ad q)), (2, .int (iz a)), (3, .int (iz b)), (4, .int (iz m))] dX4_flyFrom_19 (by decide) rfl ?_
  refine v_aload_n X 1 dX4_flyFrom_21 rfl rfl ?_
  refine v_iload_n X 4 dX4_flyFrom_22 rfl rfl ?_
  refine v_iload X 5 dX4_flyFrom_23 rfl ?_
  refine v_iadd X dX4_flyFrom_25 ?_
  refine v_aload_n X 2 dX4_flyFrom_26 rfl rfl ?_
  refine gt_X0_home X iwX0 hq.2.1 hq.2.2.1 (List.mem_cons_of_mem _ bw_36_16) dX4_flyFrom_27 (M q 4) rfl (fun hr6 => ?_)
  refine v_iadd X dX4_flyFrom_30 ?_
  refine v_callV X [.int (iz ((b + m) + (M q 4)))] hRm (c_X4_firstFree _ _ _ hS ((b + m) + (M q 4)) (by omega)) (gV bw_37_0 bw_37_1 bw_37_2 bw_2_15 bw_37_3) rfl ddX4_firstFree (by decide) (Std.lt hS rfl) (Std.k hS rfl rfl) ⟨rfl, by decide⟩ (Nat.le_of_ble_eq_true rfl) dX4_flyFrom_31 (k_pI (fun r7 hr8 e9 => ?_))
  replace e9 : r7 = fL M p q b m := e9.trans (ff_rK hK _ _ (by omega))
  have k1 := fun z => lf_in (tk := tkL p) (lo := M 16 a) (n := (b - M q 3 - M 16 a + 1).toNat) (b := b - M q 3) z
  rw [show lf (tkL p) (M 16 a) (b - M q 3 - M 16 a + 1).toNat (b - M q 3) = r3 from e5.symm] at k1
  have k2 := fun z => ff_in (tk := tkL p) (n := (240 - (b + m + M q 4)).toNat) (b := b + m + M q 4) z
  rw [show ff (tkL p) (240 - (b + m + M q 4)).toNat (b + m + M q 4) = r7 from e9.symm] at k2
  refine v_istore X [(6, .int (iz r7)), (5, .int (iz r3)), (0, .ref (ad 31)), (1, .ref (ad q)), (2, .int (iz a)), (3, .int (iz b)), (4, .int (iz m))] dX4_flyFrom_34 (by decide) rfl ?_
  refine v_iload X 1 dX4_flyFrom_36 rfl ?_
  refine v_iconst X dX4_flyFrom_38 ?_
  refine v_icmp_eq X 60 dX4_flyFrom_39 (by decide) ⟨by omega, by omega⟩ ⟨by decide, by decide⟩ (fun u10 => ?_) (fun u10 => ?_)
  · skip
    refine v_iconst X dX4_flyFrom_60 ?_
    refine hret _ _ _ _ _ _ _ _ _ _ _ (some (.int (iz 0))) dX4_flyFrom_61 ⟨rfl, 0, ⟨by omega, by omega⟩, rfl⟩ (by decide) (by decide) (fun hmok => ?_)
    refine ⟨rfl, rfl, rfl, rfl, rfl, 0, rfl, Or.inr ⟨rfl, Bool.eq_false_iff.mpr (fun z => ?_), ?_⟩⟩
    · have z := flyOk_iff.mp z
      rw [← e5, ← e9] at z
      omega
    · exact ⟨M 32 4, M 32 5, M 32 7, M 23, M 30, by rw [ask9_self, mrow_self, mrow_self, mrow_self]⟩
  · skip
    refine v_iload X 0 dX4_flyFrom_42 rfl ?_
    refine v_iconst X dX4_flyFrom_44 ?_
    refine v_icmp_eq X 60 dX4_flyFrom_45 (by decide) ⟨by omega, by omega⟩ ⟨by decide, by decide⟩ (fun u11 => ?_) (fun u11 => ?_)
    · skip
      refine v_iconst X dX4_flyFrom_60 ?_
      refine hret _ _ _ _ _ _ _ _ _ _ _ (some (.int (iz 0))) dX4_flyFrom_61 ⟨rfl, 0, ⟨by omega, by omega⟩, rfl⟩ (by decide) (by decide) (fun hmok => ?_)
      refine ⟨rfl, rfl, rfl, rfl, rfl, 0, rfl, Or.inr ⟨rfl, Bool.eq_false_iff.mpr (fun z => ?_), ?_⟩⟩
      · have z := flyOk_iff.mp z
        rw [← e5, ← e9] at z
        omega
      · exact ⟨M 32 4, M 32 5, M 32 7, M 23, M 30, by rw [ask9_self, mrow_self, mrow_self, mrow_self]⟩
    · skip
      refine v_iload X 0 dX4_flyFrom_48 rfl ?_
      refine v_iload X 1 dX4_flyFrom_50 rfl ?_
      refine v_isub X dX4_flyFrom_52 ?_
      refine v_aload_n X 3 dX4_flyFrom_53 rfl rfl ?_
      refine gt_X0_fuel X iwX0 hq.2.1 hq.2.2.1 (List.mem_cons_of_mem _ bw_36_17) dX4_flyFrom_54 (M q 5) rfl (fun hr12 => ?_)
      refine v_icmp_le X 62 dX4_flyFrom_57 (by decide) ⟨by omega, by omega⟩ ⟨by omega, by omega⟩ (fun u13 => ?_) (fun u13 => ?_)
      · skip
        have k3 := k1 (by omega)
        have k4 := k2 (by omega)
        refine v_aload_n X 2 dX4_flyFrom_62 rfl rfl ?_
        refine v_iload_n X 5 dX4_flyFrom_63 rfl rfl ?_
        refine v_iload X 6 dX4_flyFrom_64 rfl ?_
        refine v_callV X [.int (iz b), .int (iz m)] hRm (c_X4_describeBegin _ _ _ hS b m (by omega) ⟨by omega, by omega⟩) (gV bw_37_4 bw_37_5 bw_37_6 bw_2_15 bw_37_7) rfl ddX4_describeBegin (by decide) (Std.lt hS rfl) (Std.k hS rfl rfl) ⟨rfl, by decide⟩ (Nat.le_of_ble_eq_true rfl) dX4_flyFrom_66 (k_eV (fun M15 e14 => ?_))
        replace e14 : M15 = (mrow M 32 (ask9 (M 32) (M 32 0) (M 32 1) (M 32 2) (M 32 3) (M 14 b) b (M 32 6) m (M 32 8))) := e14
        subst e14
        refine v_aload_n X 2 dX4_flyFrom_69 rfl rfl ?_
        refine gt_X4_trial X iwX4 (Std.lt hS rfl) (Std.k hS rfl rfl) (List.mem_cons_of_mem _ bw_6_13) dX4_flyFrom_70 41 (Std.r hS 6 rfl) ?_
        refine gt_X3_size X iwX3 (Std.lt hS rfl) (Std.k hS rfl rfl) (List.mem_cons_of_mem _ bw_36_18) dX4_flyFrom_73 (M 41 5) rfl (fun hr16 => ?_)
        refine v_if_le X 94 dX4_flyFrom_76 (by decide) ⟨by omega, by omega⟩ (fun u17 => ?_) (fun u17 => ?_)
        · skip
          refine v_iconst X dX4_flyFrom_94 ?_
          have hgr : (-1 : Int) = gRu M t p (ask9 (M 32) (M 32 0) (M 32 1) (M 32 2) (M 32 3) (M 14 b) b (M 32 6) m (M 32 8)) := by unfold gRu; rw [if_neg (by omega)]
          refine v_istore X [(7, .int (iz (-1))), (6, .int (iz r7)), (5, .int (iz r3)), (0, .ref (ad 31)), (1, .ref (ad q)), (2, .int (iz a)), (3, .int (iz b)), (4, .int (iz m))] dX4_flyFrom_95 (by decide) rfl ?_
          refine v_iload_n X 6 dX4_flyFrom_97 rfl rfl ?_
          refine v_aload_n X 3 dX4_flyFrom_98 rfl rfl ?_
          refine gt_X4_trial X iwX4 (Std.lt hS rfl) (Std.k hS rfl rfl) (List.mem_cons_of_mem _ bw_6_13) dX4_flyFrom_99 41 (Std.r hS 6 rfl) ?_
          refine v_callV X [] hRm (c_X3_end_41 _ _ _ hS hEE) (gV bw_36_1 bw_36_2 bw_36_3 bw_2_19 bw_36_4) rfl ddX3_end (by decide) (Std.lt hS rfl) (Std.k hS rfl rfl) ⟨rfl, by decide⟩ (Nat.le_of_ble_eq_true rfl) dX4_flyFrom_102 (k_pI (fun r18 hr19 e20 => ?_))
          replace e20 : r18 = endL p := by rw [e20, ← hen, ← hla]; rfl
          refine v_isub X dX4_flyFrom_105 ?_
          refine v_aload_n X 3 dX4_flyFrom_106 rfl rfl ?_
          refine gt_X4_text X iwX4 (Std.lt hS rfl) (Std.k hS rfl rfl) (List.mem_cons_of_mem _ bw_6_16) dX4_flyFrom_107 t hRt ?_
          refine v_iload X 0 dX4_flyFrom_110 rfl ?_
          refine v_aload_n X 3 dX4_flyFrom_112 rfl rfl ?_
          refine gt_X4_vars X iwX4 (Std.lt hS rfl) (Std.k hS rfl rfl) (List.mem_cons_of_mem _ bw_6_7) dX4_flyFrom_113 32 (Std.r hS 2 rfl) ?_
          refine v_callV X [.int (iz (-1)), .ref (ad 32)] hRm (c_X10_amount _ _ _ hS t ht (-1) ⟨by omega, by omega⟩ (fun z => absurd z (by decide)) (cTxt_fr ⟨fun i hi => (by rw [mrow_i _ _ (by omega)]), fun z hz => ask9_out hz⟩ ht hX)) (gV bw_37_20 bw_37_21 bw_37_22 bw_2_10 bw_37_23) rfl ddX10_amountOf (by decide) (isT.lt hS ht) (isT.k hS ht) ⟨rfl, by decide⟩ (Nat.le_of_ble_eq_true rfl) dX4_flyFrom_116 (k_eI (fun r21 M22 hr23 e24 => ?_))
          obtain ⟨e24p, g25, h26, e24m⟩ := e24
          replace e24m : M22 = (mrow (mrow (mrow M 32 (ask9 (M 32) (M 32 0) (M 32 1) (M 32 2) (M 32 3) (M 14 b) b (M 32 6) m (M 32 8))) 23 g25) 30 h26) := e24m
          subst e24m
          replace e24p : r21 = cAm M t (ask9 (M 32) (M 32 0) (M 32 1) (M 32 2) (M 32 3) (M 14 b) b (M 32 6) m (M 32 8)) (-1) := e24p.trans (cAm_fr ⟨fun i hi => (by rw [mrow_i _ _ (by omega)]), fun z hz => ask9_out hz⟩ ht _ _)
          have hg9 := cAm_b M t (ask9 (M 32) (M 32 0) (M 32 1) (M 32 2) (M 32 3) (M 14 b) b (M 32 6) m (M 32 8)) (-1)
          rw [← e24p] at hg9
          rw [hgr] at e24p
          refine v_icmp_ge X 124 dX4_flyFrom_119 (by decide) ⟨by omega, by omega⟩ ⟨by omega, by omega⟩ (fun u27 => ?_) (fun u27 => ?_)
          · skip
            refine v_aload_n X 3 dX4_flyFrom_124 rfl rfl ?_
            refine gt_X4_text X iwX4 (Std.lt hS rfl) (Std.k hS rfl rfl) (List.mem_cons_of_mem _ bw_6_16) dX4_flyFrom_125 t hRt ?_
            refine v_iconst X dX4_flyFrom_128 ?_
            refine v_aload_n X 3 dX4_flyFrom_129 rfl rfl ?_
            refine gt_X4_vars X iwX4 (Std.lt hS rfl) (Std.k hS rfl rfl) (List.mem_cons_of_mem _ bw_6_7) dX4_flyFrom_130 32 (Std.r hS 2 rfl) ?_
            refine v_callV X [.int (iz 2), .ref (ad 32)] hRm (c_X10_first _ _ _ hS t ht 2 ⟨by decide, by decide⟩ (cTxt_fr ⟨fun i hi => (by rw [mrow_i _ _ (by omega), mrow_i _ _ (by omega), mrow_i _ _ (by omega)]), fun z hz => ask9_out hz⟩ ht hX)) (gV bw_37_8 bw_37_9 bw_37_10 bw_2_10 bw_37_11) rfl ddX10_firstThatHolds (by decide) (isT.lt hS ht) (isT.k hS ht) ⟨rfl, by decide⟩ (Nat.le_of_ble_eq_true rfl) dX4_flyFrom_133 (k_eI (fun r28 M29 hr30 e31 => ?_))
            obtain ⟨e31p, g32, h33, e31m⟩ := e31
            replace e31m : M29 = (mrow (mrow (mrow M 32 (ask9 (M 32) (M 32 0) (M 32 1) (M 32 2) (M 32 3) (M 14 b) b (M 32 6) m (M 32 8))) 23 g32) 30 h33) := e31m.trans (mrow2 _ _ _ _ _)
            subst e31m
            replace e31p : r28 = cFst M t (ask9 (M 32) (M 32 0) (M 32 1) (M 32 2) (M 32 3) (M 14 b) b (M 32 6) m (M 32 8)) 2 := e31p.trans (cFst_fr ⟨fun i hi => (by rw [mrow_i _ _ (by omega), mrow_i _ _ (by omega), mrow_i _ _ (by omega)]), fun z hz => ask9_out hz⟩ ht _ _)
            refine v_istore X [(8, .int (iz r28)), (7, .int (iz (-1))), (6, .int (iz r7)), (5, .int (iz r3)), (0, .ref (ad 31)), (1, .ref (ad q)), (2, .int (iz a)), (3, .int (iz b)), (4, .int (iz m))] dX4_flyFrom_136 (by decide) rfl ?_
            refine v_iload X 2 dX4_flyFrom_138 rfl ?_
            refine v_iload X 3 dX4_flyFrom_140 rfl ?_
            refine v_isub X dX4_flyFrom_142 ?_
            refine v_aload_n X 5 dX4_flyFrom_143 rfl rfl ?_
            refine gt_X0_fuel X iwX0 hq.2.1 hq.2.2.1 (List.mem_cons_of_mem _ bw_36_17) dX4_flyFrom_144 (M q 5) (by rw [mrow_i _ _ (by omega), mrow_i _ _ (by omega), mrow_i _ _ (by omega)]) (fun hr34 => ?_)
            refine v_aload_n X 4 dX4_flyFrom_147 rfl rfl ?_
            refine gt_X4_text X iwX4 (Std.lt hS rfl) (Std.k hS rfl rfl) (List.mem_cons_of_mem _ bw_6_16) dX4_flyFrom_148 t hRt ?_
            refine v_iload X 0 dX4_flyFrom_151 rfl ?_
            refine v_aload_n X 4 dX4_flyFrom_153 rfl rfl ?_
            refine gt_X4_vars X iwX4 (Std.lt hS rfl) (Std.k hS rfl rfl) (List.mem_cons_of_mem _ bw_6_7) dX4_flyFrom_154 32 (Std.r hS 2 rfl) ?_
            refine v_callV X [.int (iz r28), .ref (ad 32)] hRm (c_X10_amount _ _ _ hS t ht r28 ⟨by omega, by omega⟩ (fun z1 z2 => by rw [(isT_row ht (show frC M (mrow (mrow (mrow M 32 (ask9 (M 32) (M 32 0) (M 32 1) (M 32 2) (M 32 3) (M 14 b) b (M 32 6) m (M 32 8))) 23 g32) 30 h33) from ⟨fun i hi => (by rw [mrow_i _ _ (by omega), mrow_i _ _ (by omega), mrow_i _ _ (by omega)]), fun z hz => ask9_out hz⟩)).2.1, e31p]; exact cFst_kind (by decide) (by rw [← e31p]; exact z1)) (cTxt_fr ⟨fun i hi => (by rw [mrow_i _ _ (by omega), mrow_i _ _ (by omega), mrow_i _ _ (by omega)]), fun z hz => ask9_out hz⟩ ht hX)) (gV bw_37_20 bw_37_21 bw_37_22 bw_2_10 bw_37_23) rfl ddX10_amountOf (by decide) (isT.lt hS ht) (isT.k hS ht) ⟨rfl, by decide⟩ (Nat.le_of_ble_eq_true rfl) dX4_flyFrom_157 (k_eI (fun r35 M36 hr37 e38 => ?_))
            obtain ⟨e38p, g39, h40, e38m⟩ := e38
            replace e38m : M36 = (mrow (mrow (mrow M 32 (ask9 (M 32) (M 32 0) (M 32 1) (M 32 2) (M 32 3) (M 14 b) b (M 32 6) m (M 32 8))) 23 g39) 30 h40) := e38m.trans (mrow2 _ _ _ _ _)
            subst e38m
            replace e38p : r35 = cAm M t (ask9 (M 32) (M 32 0) (M 32 1) (M 32 2) (M 32 3) (M 14 b) b (M 32 6) m (M 32 8)) r28 := e38p.trans (cAm_fr ⟨fun i hi => (by rw [mrow_i _ _ (by omega), mrow_i _ _ (by omega), mrow_i _ _ (by omega)]), fun z hz => ask9_out hz⟩ ht _ _)
            have hs9 := cAm_b M t (ask9 (M 32) (M 32 0) (M 32 1) (M 32 2) (M 32 3) (M 14 b) b (M 32 6) m (M 32 8)) r28
            rw [← e38p] at hs9
            rw [e31p] at e38p
            refine v_isub X dX4_flyFrom_160 ?_
            refine v_icmp_le X 166 dX4_flyFrom_161 (by decide) ⟨by omega, by omega⟩ ⟨by omega, by omega⟩ (fun u41 => ?_) (fun u41 => ?_)
            · skip
              refine v_aload_n X 4 dX4_flyFrom_166 rfl rfl ?_
              refine gt_X4_text X iwX4 (Std.lt hS rfl) (Std.k hS rfl rfl) (List.mem_cons_of_mem _ bw_6_16) dX4_flyFrom_167 t hRt ?_
              refine v_iconst X dX4_flyFrom_170 ?_
              refine v_aload_n X 4 dX4_flyFrom_171 rfl rfl ?_
              refine gt_X4_vars X iwX4 (Std.lt hS rfl) (Std.k hS rfl rfl) (List.mem_cons_of_mem _ bw_6_7) dX4_flyFrom_172 32 (Std.r hS 2 rfl) ?_
              refine v_callV X [.int (iz 0), .ref (ad 32)] hRm (c_X10_first _ _ _ hS t ht 0 ⟨by decide, by decide⟩ (cTxt_fr ⟨fun i hi => (by rw [mrow_i _ _ (by omega), mrow_i _ _ (by omega), mrow_i _ _ (by omega)]), fun z hz => ask9_out hz⟩ ht hX)) (gV bw_37_8 bw_37_9 bw_37_10 bw_2_10 bw_37_11) rfl ddX10_firstThatHolds (by decide) (isT.lt hS ht) (isT.k hS ht) ⟨rfl, by decide⟩ (Nat.le_of_ble_eq_true rfl) dX4_flyFrom_175 (k_eI (fun r42 M43 hr44 e45 => ?_))
              obtain ⟨e45p, g46, h47, e45m⟩ := e45
              replace e45m : M43 = (mrow (mrow (mrow M 32 (ask9 (M 32) (M 32 0) (M 32 1) (M 32 2) (M 32 3) (M 14 b) b (M 32 6) m (M 32 8))) 23 g46) 30 h47) := e45m.trans (mrow2 _ _ _ _ _)
              subst e45m
              replace e45p : r42 = cFst M t (ask9 (M 32) (M 32 0) (M 32 1) (M 32 2) (M 32 3) (M 14 b) b (M 32 6) m (M 32 8)) 0 := e45p.trans (cFst_fr ⟨fun i hi => (by rw [mrow_i _ _ (by omega), mrow_i _ _ (by omega), mrow_i _ _ (by omega)]), fun z hz => ask9_out hz⟩ ht _ _)
              refine v_iconst X dX4_flyFrom_178 ?_
              refine v_icmp_eq X 184 dX4_flyFrom_179 (by decide) ⟨by omega, by omega⟩ ⟨by decide, by decide⟩ (fun u48 => ?_) (fun u48 => ?_)
              · skip
                refine v_aload_n X 4 dX4_flyFrom_184 rfl rfl ?_
                refine gt_X4_trial X iwX4 (Std.lt hS rfl) (Std.k hS rfl rfl) (List.mem_cons_of_mem _ bw_6_13) dX4_flyFrom_185 41 (Std.r hS 6 rfl) ?_
                refine v_iload_n X 6 dX4_flyFrom_188 rfl rfl ?_
                refine v_aload_n X 5 dX4_flyFrom_189 rfl rfl ?_
                refine gt_X0_worth X iwX0 hq.2.1 hq.2.2.1 (List.mem_cons_of_mem _ bw_34_21) dX4_flyFrom_190 (M q 2) (by rw [mrow_i _ _ (by omega), mrow_i _ _ (by omega), mrow_i _ _ (by omega)]) (fun hr49 => ?_)
                refine v_iload X 3 dX4_flyFrom_193 rfl ?_
                refine v_iload_n X 7 dX4_flyFrom_195 rfl rfl ?_
                refine v_iload X 8 dX4_flyFrom_196 rfl ?_
                refine v_iload X 2 dX4_flyFrom_198 rfl ?_
                refine v_callV X [.int (iz a), .int (iz (M q 2)), .int (iz r3), .int (iz b), .int (iz m), .int (iz r7)] hRm (c_X3_add_41 _ _ _ hS a (M q 2) r3 b m r7 (by omega) ⟨by omega, by omega⟩ ⟨by omega, by omega⟩ ⟨by omega, by omega⟩ ⟨by omega, by omega⟩ ⟨by omega, by omega⟩ (show 0 ≤ M 41 5 ∧ M 41 5 < 6 by omega) (show inR (M 41 6 + M q 2) from ⟨by omega, by omega⟩)) (gV bw_38_1 bw_38_2 bw_38_3 bw_2_19 bw_38_4) rfl ddX3_add (by decide) (Std.lt hS rfl) (Std.k hS rfl rfl) ⟨rfl, by decide⟩ (Nat.le_of_ble_eq_true rfl) dX4_flyFrom_200 (k_eV (fun M51 e50 => ?_))
                replace e50 : M51 = (mu (mu (mu (mu (mu (mu (mu (mrow (mrow (mrow M 32 (ask9 (M 32) (M 32 0) (M 32 1) (M 32 2) (M 32 3) (M 14 b) b (M 32 6) m (M 32 8))) 23 g46) 30 h47) 42 (M 41 5) a) 43 a r3) 44 a b) 45 a m) 46 a r7) 41 5 ((M 41 5) + 1)) 41 6 ((M 41 6) + (M q 2))) := e50
                subst e50
                refine v_aload_n X 4 dX4_flyFrom_203 rfl rfl ?_
                refine gt_X4_taken X iwX4 (Std.lt hS rfl) (Std.k hS rfl rfl) (List.mem_cons_of_mem _ bw_6_10) dX4_flyFrom_204 34 (Std.r hS 4 rfl) ?_
                refine v_iload X 3 dX4_flyFrom_207 rfl ?_
                refine v_iconst X dX4_flyFrom_209 ?_
                refine v_zast X (Std.lt hS rfl) (Std.at hS rfl rfl) (by omega) (by omega) ⟨by decide, by decide⟩ dX4_flyFrom_210 ?_
                refine v_aload_n X 4 dX4_flyFrom_211 rfl rfl ?_
                refine gt_X4_taken X iwX4 (Std.lt hS rfl) (Std.k hS rfl rfl) (List.mem_cons_of_mem _ bw_6_10) dX4_flyFrom_212 34 (Std.r hS 4 rfl) ?_
                refine v_iload X 2 dX4_flyFrom_215 rfl ?_
                refine v_iconst X dX4_flyFrom_217 ?_
                refine v_zast X (Std.lt hS rfl) (Std.at hS rfl rfl) (by omega) (by omega) ⟨by decide, by decide⟩ dX4_flyFrom_218 ?_
                refine v_iconst X dX4_flyFrom_219 ?_
                refine hret _ _ _ _ _ _ _ _ _ _ _ (some (.int (iz 1))) dX4_flyFrom_220 ⟨rfl, 1, ⟨by omega, by omega⟩, rfl⟩ (by decide) (by decide) (fun hmok => ?_)
                have hok : flyOk M t p q a b m (ask9 (M 32) (M 32 0) (M 32 1) (M 32 2) (M 32 3) (M 14 b) b (M 32 6) m (M 32 8)) = true := flyOk_iff.mpr ⟨⟨by rw [← e5]; omega, by rw [← e9]; omega, by rw [← e5, ← e9]; omega⟩, by rw [← e24p]; omega, by rw [← e5, ← e9, ← e38p]; omega, by rw [← e45p]; omega⟩
                have hof : okF (M 6 1) ((a, fT M p q a b, b, m, fL M p q b m) :: p) := ⟨ha, hin, ⟨show 0 ≤ fT M p q a b by rw [← e5]; omega, show fT M p q a b < fL M p q b m by rw [← e5, ← e9]; omega, show fL M p q b m < 240 by rw [← e9]; omega⟩, ⟨hb.1, hm.1, hbm⟩, ⟨show tkL p (fT M p q a b) = false by rw [← e5]; exact k3.2.2, show tkL p (fL M p q b m) = false by rw [← e9]; exact k4.2.2⟩, ho⟩
                refine ⟨rfl, rfl, rfl, rfl, rfl, 1, rfl, Or.inl ⟨rfl, hok, hof, ?_, ?_, ⟨fun i hi => (by rw [mu_i _ _ _ (by omega), mu_i _ _ _ (by omega), mu_i _ _ _ (by omega), mu_i _ _ _ (by omega), mu_i _ _ _ (by omega), mu_i _ _ _ (by omega), mu_i _ _ _ (by omega), mu_i _ _ _ (by omega), mu_i _ _ _ (by omega), mrow_i _ _ (by omega), mrow_i _ _ (by omega), mrow_i _ _ (by omega)]), fun z hz => ask9_out hz⟩, (fun i i1 i2 => (by rw [mu_i _ _ _ (by omega), mu_i _ _ _ (by omega), mu_i _ _ _ (by omega), mu_i _ _ _ (by omega), mu_i _ _ _ (by omega), mu_i _ _ _ (by omega), mu_i _ _ _ (by omega), mu_i _ _ _ (by omega), mu_i _ _ _ (by omega), mrow_i _ _ (by omega), mrow_i _ _ (by omega), mrow_i _ _ (by omega)]))⟩⟩
                · rw [← e5, ← e9] at hof ⊢
                  refine rT_cons (by omega) hT hof (fun i i1 i2 => ?_)
                  rw [mu_i _ _ _ (by omega), mu_i _ _ _ (by omega)]
                  show _ = mu (mu (mu (mu (mu (mu (mu M 42 (M 41 5) a) 43 a r3) 44 a b) 45 a m) 46 a r7) 41 5 (M 41 5 + 1)) 41 6 (M 41 6 + wo a) i
                  rw [hwa]
                  funext k
                  rcases (show i = 41 ∨ i = 42 ∨ i = 43 ∨ i = 44 ∨ i = 45 ∨ i = 46 by omega) with z | z | z | z | z | z <;> (subst z; rfl)
                · rw [← e5, ← e9]
                  exact rK_cons hK rfl
              · skip
                refine v_iconst X dX4_flyFrom_182 ?_
                refine hret _ _ _ _ _ _ _ _ _ _ _ (some (.int (iz 0))) dX4_flyFrom_183 ⟨rfl, 0, ⟨by omega, by omega⟩, rfl⟩ (by decide) (by decide) (fun hmok => ?_)
                refine ⟨rfl, rfl, rfl, rfl, rfl, 0, rfl, Or.inr ⟨rfl, Bool.eq_false_iff.mpr (fun z => ?_), ?_⟩⟩
                · have z := flyOk_iff.mp z
                  have z := z.2.2.2
                  rw [← e45p] at z
                  omega
                · exact ⟨_, _, _, _, _, rfl⟩
            · skip
              refine v_iconst X dX4_flyFrom_164 ?_
              refine hret _ _ _ _ _ _ _ _ _ _ _ (some (.int (iz 0))) dX4_flyFrom_165 ⟨rfl, 0, ⟨by omega, by omega⟩, rfl⟩ (by decide) (by decide) (fun hmok => ?_)
              refine ⟨rfl, rfl, rfl, rfl, rfl, 0, rfl, Or.inr ⟨rfl, Bool.eq_false_iff.mpr (fun z => ?_), ?_⟩⟩
              · have z := flyOk_iff.mp z
                rw [← e5, ← e9] at z
                have z := z.2.2.1
                rw [← e38p] at z
                omega
              · exact ⟨_, _, _, _, _, rfl⟩
          · skip
            refine v_iconst X dX4_flyFrom_122 ?_
            refine hret _ _ _ _ _ _ _ _ _ _ _ (some (.int (iz 0))) dX4_flyFrom_123 ⟨rfl, 0, ⟨by omega, by omega⟩, rfl⟩ (by decide) (by decide) (fun hmok => ?_)
            refine ⟨rfl, rfl, rfl, rfl, rfl, 0, rfl, Or.inr ⟨rfl, Bool.eq_false_iff.mpr (fun z => ?_), ?_⟩⟩
            · have z := flyOk_iff.mp z
              have z := z.2.1
              rw [← e24p] at z
              omega
            · exact ⟨_, _, _, _, _, rfl⟩
        · skip
          refine v_aload_n X 2 dX4_flyFrom_79 rfl rfl ?_
          refine gt_X4_text X iwX4 (Std.lt hS rfl) (Std.k hS rfl rfl) (List.mem_cons_of_mem _ bw_6_16) dX4_flyFrom_80 t hRt ?_
          refine v_iconst X dX4_flyFrom_83 ?_
          refine v_aload_n X 2 dX4_flyFrom_84 rfl rfl ?_
          refine gt_X4_vars X iwX4 (Std.lt hS rfl) (Std.k hS rfl rfl) (List.mem_cons_of_mem _ bw_6_7) dX4_flyFrom_85 32 (Std.r hS 2 rfl) ?_
          refine v_callV X [.int (iz 1), .ref (ad 32)] hRm (c_X10_first _ _ _ hS t ht 1 ⟨by decide, by decide⟩ (cTxt_fr ⟨fun i hi => (by rw [mrow_i _ _ (by omega)]), fun z hz => ask9_out hz⟩ ht hX)) (gV bw_37_8 bw_37_9 bw_37_10 bw_2_10 bw_37_11) rfl ddX10_firstThatHolds (by decide) (isT.lt hS ht) (isT.k hS ht) ⟨rfl, by decide⟩ (Nat.le_of_ble_eq_true rfl) dX4_flyFrom_88 (k_eI (fun r52 M53 hr54 e55 => ?_))
          obtain ⟨e55p, g56, h57, e55m⟩ := e55
          replace e55m : M53 = (mrow (mrow (mrow M 32 (ask9 (M 32) (M 32 0) (M 32 1) (M 32 2) (M 32 3) (M 14 b) b (M 32 6) m (M 32 8))) 23 g56) 30 h57) := e55m
          subst e55m
          replace e55p : r52 = cFst M t (ask9 (M 32) (M 32 0) (M 32 1) (M 32 2) (M 32 3) (M 14 b) b (M 32 6) m (M 32 8)) 1 := e55p.trans (cFst_fr ⟨fun i hi => (by rw [mrow_i _ _ (by omega)]), fun z hz => ask9_out hz⟩ ht _ _)
          refine v_goto X 95 dX4_flyFrom_91 (by decide) ?_
          have hgr : r52 = gRu M t p (ask9 (M 32) (M 32 0) (M 32 1) (M 32 2) (M 32 3) (M 14 b) b (M 32 6) m (M 32 8)) := by unfold gRu; rw [if_pos (by omega)]; exact e55p
          refine v_istore X [(7, .int (iz r52)), (6, .int (iz r7)), (5, .int (iz r3)), (0, .ref (ad 31)), (1, .ref (ad q)), (2, .int (iz a)), (3, .int (iz b)), (4, .int (iz m))] dX4_flyFrom_95 (by decide) rfl ?_
          refine v_iload_n X 6 dX4_flyFrom_97 rfl rfl ?_
          refine v_aload_n X 3 dX4_flyFrom_98 rfl rfl ?_
          refine gt_X4_trial X iwX4 (Std.lt hS rfl) (Std.k hS rfl rfl) (List.mem_cons_of_mem _ bw_6_13) dX4_flyFrom_99 41 (Std.r hS 6 rfl) ?_
          refine v_callV X [] hRm (c_X3_end_41 _ _ _ hS hEE) (gV bw_36_1 bw_36_2 bw_36_3 bw_2_19 bw_36_4) rfl ddX3_end (by decide) (Std.lt hS rfl) (Std.k hS rfl rfl) ⟨rfl, by decide⟩ (Nat.le_of_ble_eq_true rfl) dX4_flyFrom_102 (k_pI (fun r58 hr59 e60 => ?_))
          replace e60 : r58 = endL p := by rw [e60, ← hen, ← hla]; rfl
          refine v_isub X dX4_flyFrom_105 ?_
          refine v_aload_n X 3 dX4_flyFrom_106 rfl rfl ?_
          refine gt_X4_text X iwX4 (Std.lt hS rfl) (Std.k hS rfl rfl) (List.mem_cons_of_mem _ bw_6_16) dX4_flyFrom_107 t hRt ?_
          refine v_iload X 0 dX4_flyFrom_110 rfl ?_
          refine v_aload_n X 3 dX4_flyFrom_112 rfl rfl ?_
          refine gt_X4_vars X iwX4 (Std.lt hS rfl) (Std.k hS rfl rfl) (List.mem_cons_of_mem _ bw_6_7) dX4_flyFrom_113 32 (Std.r hS 2 rfl) ?_
          refine v_callV X [.int (iz r52), .ref (ad 32)] hRm (c_X10_amount _ _ _ hS t ht r52 ⟨by omega, by omega⟩ (fun z1 z2 => by rw [(isT_row ht (show frC M (mrow (mrow (mrow M 32 (ask9 (M 32) (M 32 0) (M 32 1) (M 32 2) (M 32 3) (M 14 b) b (M 32 6) m (M 32 8))) 23 g56) 30 h57) from ⟨fun i hi => (by rw [mrow_i _ _ (by omega), mrow_i _ _ (by omega), mrow_i _ _ (by omega)]), fun z hz => ask9_out hz⟩)).2.1, e55p]; exact cFst_kind (by decide) (by rw [← e55p]; exact z1)) (cTxt_fr ⟨fun i hi => (by rw [mrow_i _ _ (by omega), mrow_i _ _ (by omega), mrow_i _ _ (by omega)]), fun z hz => ask9_out hz⟩ ht hX)) (gV bw_37_20 bw_37_21 bw_37_22 bw_2_10 bw_37_23) rfl ddX10_amountOf (by decide) (isT.lt hS ht) (isT.k hS ht) ⟨rfl, by decide⟩ (Nat.le_of_ble_eq_true rfl) dX4_flyFrom_116 (k_eI (fun r61 M62 hr63 e64 => ?_))
          obtain ⟨e64p, g65, h66, e64m⟩ := e64
          replace e64m : M62 = (mrow (mrow (mrow M 32 (ask9 (M 32) (M 32 0) (M 32 1) (M 32 2) (M 32 3) (M 14 b) b (M 32 6) m (M 32 8))) 23 g65) 30 h66) := e64m.trans (mrow2 _ _ _ _ _)
          subst e64m
          replace e64p : r61 = cAm M t (ask9 (M 32) (M 32 0) (M 32 1) (M 32 2) (M 32 3) (M 14 b) b (M 32 6) m (M 32 8)) r52 := e64p.trans (cAm_fr ⟨fun i hi => (by rw [mrow_i _ _ (by omega), mrow_i _ _ (by omega), mrow_i _ _ (by omega)]), fun z hz => ask9_out hz⟩ ht _ _)
          have hg9 := cAm_b M t (ask9 (M 32) (M 32 0) (M 32 1) (M 32 2) (M 32 3) (M 14 b) b (M 32 6) m (M 32 8)) r52
          rw [← e64p] at hg9
          rw [hgr] at e64p
          refine v_icmp_ge X 124 dX4_flyFrom_119 (by decide) ⟨by omega, by omega⟩ ⟨by omega, by omega⟩ (fun u67 => ?_) (fun u67 => ?_)
          · skip
            refine v_aload_n X 3 dX4_flyFrom_124 rfl rfl ?_
            refine gt_X4_text X iwX4 (Std.lt hS rfl) (Std.k hS rfl rfl) (List.mem_cons_of_mem _ bw_6_16) dX4_flyFrom_125 t hRt ?_
            refine v_iconst X dX4_flyFrom_128 ?_
            refine v_aload_n X 3 dX4_flyFrom_129 rfl rfl ?_
            refine gt_X4_vars X iwX4 (Std.lt hS rfl) (Std.k hS rfl rfl) (List.mem_cons_of_mem _ bw_6_7) dX4_flyFrom_130 32 (Std.r hS 2 rfl) ?_
            refine v_callV X [.int (iz 2), .ref (ad 32)] hRm (c_X10_first _ _ _ hS t ht 2 ⟨by decide, by decide⟩ (cTxt_fr ⟨fun i hi => (by rw [mrow_i _ _ (by omega), mrow_i _ _ (by omega), mrow_i _ _ (by omega)]), fun z hz => ask9_out hz⟩ ht hX)) (gV bw_37_8 bw_37_9 bw_37_10 bw_2_10 bw_37_11) rfl ddX10_firstThatHolds (by decide) (isT.lt hS ht) (isT.k hS ht) ⟨rfl, by decide⟩ (Nat.le_of_ble_eq_true rfl) dX4_flyFrom_133 (k_eI (fun r68 M69 hr70 e71 => ?_))
            obtain ⟨e71p, g72, h73, e71m⟩ := e71
            replace e71m : M69 = (mrow (mrow (mrow M 32 (ask9 (M 32) (M 32 0) (M 32 1) (M 32 2) (M 32 3) (M 14 b) b (M 32 6) m (M 32 8))) 23 g72) 30 h73) := e71m.trans (mrow2 _ _ _ _ _)
            subst e71m
            replace e71p : r68 = cFst M t (ask9 (M 32) (M 32 0) (M 32 1) (M 32 2) (M 32 3) (M 14 b) b (M 32 6) m (M 32 8)) 2 := e71p.trans (cFst_fr ⟨fun i hi => (by rw [mrow_i _ _ (by omega), mrow_i _ _ (by omega), mrow_i _ _ (by omega)]), fun z hz => ask9_out hz⟩ ht _ _)
            refine v_istore X [(8, .int (iz r68)), (7, .int (iz r52)), (6, .int (iz r7)), (5, .int (iz r3)), (0, .ref (ad 31)), (1, .ref (ad q)), (2, .int (iz a)), (3, .int (iz b)), (4, .int (iz m))] dX4_flyFrom_136 (by decide) rfl ?_
            refine v_iload X 2 dX4_flyFrom_138 rfl ?_
            refine v_iload X 3 dX4_flyFrom_140 rfl ?_
            refine v_isub X dX4_flyFrom_142 ?_
            refine v_aload_n X 5 dX4_flyFrom_143 rfl rfl ?_
            refine gt_X0_fuel X iwX0 hq.2.1 hq.2.2.1 (List.mem_cons_of_mem _ bw_36_17) dX4_flyFrom_144 (M q 5) (by rw [mrow_i _ _ (by omega), mrow_i _ _ (by omega), mrow_i _ _ (by omega)]) (fun hr74 => ?_)
            refine v_aload_n X 4 dX4_flyFrom_147 rfl rfl ?_
            refine gt_X4_text X iwX4 (Std.lt hS rfl) (Std.k hS rfl rfl) (List.mem_cons_of_mem _ bw_6_16) dX4_flyFrom_148 t hRt ?_
            refine v_iload X 0 dX4_flyFrom_151 rfl ?_
            refine v_aload_n X 4 dX4_flyFrom_153 rfl rfl ?_
            refine gt_X4_vars X iwX4 (Std.lt hS rfl) (Std.k hS rfl rfl) (List.mem_cons_of_mem _ bw_6_7) dX4_flyFrom_154 32 (Std.r hS 2 rfl) ?_
            refine v_callV X [.int (iz r68), .ref (ad 32)] hRm (c_X10_amount _ _ _ hS t ht r68 ⟨by omega, by omega⟩ (fun z1 z2 => by rw [(isT_row ht (show frC M (mrow (mrow (mrow M 32 (ask9 (M 32) (M 32 0) (M 32 1) (M 32 2) (M 32 3) (M 14 b) b (M 32 6) m (M 32 8))) 23 g72) 30 h73) from ⟨fun i hi => (by rw [mrow_i _ _ (by omega), mrow_i _ _ (by omega), mrow_i _ _ (by omega)]), fun z hz => ask9_out hz⟩)).2.1, e71p]; exact cFst_kind (by decide) (by rw [← e71p]; exact z1)) (cTxt_fr ⟨fun i hi => (by rw [mrow_i _ _ (by omega), mrow_i _ _ (by omega), mrow_i _ _ (by omega)]), fun z hz => ask9_out hz⟩ ht hX)) (gV bw_37_20 bw_37_21 bw_37_22 bw_2_10 bw_37_23) rfl ddX10_amountOf (by decide) (isT.lt hS ht) (isT.k hS ht) ⟨rfl, by decide⟩ (Nat.le_of_ble_eq_true rfl) dX4_flyFrom_157 (k_eI (fun r75 M76 hr77 e78 => ?_))
            obtain ⟨e78p, g79, h80, e78m⟩ := e78
            replace e78m : M76 = (mrow (mrow (mrow M 32 (ask9 (M 32) (M 32 0) (M 32 1) (M 32 2) (M 32 3) (M 14 b) b (M 32 6) m (M 32 8))) 23 g79) 30 h80) := e78m.trans (mrow2 _ _ _ _ _)
            subst e78m
            replace e78p : r75 = cAm M t (ask9 (M 32) (M 32 0) (M 32 1) (M 32 2) (M 32 3) (M 14 b) b (M 32 6) m (M 32 8)) r68 := e78p.trans (cAm_fr ⟨fun i hi => (by rw [mrow_i _ _ (by omega), mrow_i _ _ (by omega), mrow_i _ _ (by omega)]), fun z hz => ask9_out hz⟩ ht _ _)
            have hs9 := cAm_b M t (ask9 (M 32) (M 32 0) (M 32 1) (M 32 2) (M 32 3) (M 14 b) b (M 32 6) m (M 32 8)) r68
            rw [← e78p] at hs9
            rw [e71p] at e78p
            refine v_isub X dX4_flyFrom_160 ?_
            refine v_icmp_le X 166 dX4_flyFrom_161 (by decide) ⟨by omega, by omega⟩ ⟨by omega, by omega⟩ (fun u81 => ?_) (fun u81 => ?_)
            · skip
              refine v_aload_n X 4 dX4_flyFrom_166 rfl rfl ?_
              refine gt_X4_text X iwX4 (Std.lt hS rfl) (Std.k hS rfl rfl) (List.mem_cons_of_mem _ bw_6_16) dX4_flyFrom_167 t hRt ?_
              refine v_iconst X dX4_flyFrom_170 ?_
              refine v_aload_n X 4 dX4_flyFrom_171 rfl rfl ?_
              refine gt_X4_vars X iwX4 (Std.lt hS rfl) (Std.k hS rfl rfl) (List.mem_cons_of_mem _ bw_6_7) dX4_flyFrom_172 32 (Std.r hS 2 rfl) ?_
              refine v_callV X [.int (iz 0), .ref (ad 32)] hRm (c_X10_first _ _ _ hS t ht 0 ⟨by decide, by decide⟩ (cTxt_fr ⟨fun i hi => (by rw [mrow_i _ _ (by omega), mrow_i _ _ (by omega), mrow_i _ _ (by omega)]), fun z hz => ask9_out hz⟩ ht hX)) (gV bw_37_8 bw_37_9 bw_37_10 bw_2_10 bw_37_11) rfl ddX10_firstThatHolds (by decide) (isT.lt hS ht) (isT.k hS ht) ⟨rfl, by decide⟩ (Nat.le_of_ble_eq_true rfl) dX4_flyFrom_175 (k_eI (fun r82 M83 hr84 e85 => ?_))
              obtain ⟨e85p, g86, h87, e85m⟩ := e85
              replace e85m : M83 = (mrow (mrow (mrow M 32 (ask9 (M 32) (M 32 0) (M 32 1) (M 32 2) (M 32 3) (M 14 b) b (M 32 6) m (M 32 8))) 23 g86) 30 h87) := e85m.trans (mrow2 _ _ _ _ _)
              subst e85m
              replace e85p : r82 = cFst M t (ask9 (M 32) (M 32 0) (M 32 1) (M 32 2) (M 32 3) (M 14 b) b (M 32 6) m (M 32 8)) 0 := e85p.trans (cFst_fr ⟨fun i hi => (by rw [mrow_i _ _ (by omega), mrow_i _ _ (by omega), mrow_i _ _ (by omega)]), fun z hz => ask9_out hz⟩ ht _ _)
              refine v_iconst X dX4_flyFrom_178 ?_
              refine v_icmp_eq X 184 dX4_flyFrom_179 (by decide) ⟨by omega, by omega⟩ ⟨by decide, by decide⟩ (fun u88 => ?_) (fun u88 => ?_)
              · skip
                refine v_aload_n X 4 dX4_flyFrom_184 rfl rfl ?_
                refine gt_X4_trial X iwX4 (Std.lt hS rfl) (Std.k hS rfl rfl) (List.mem_cons_of_mem _ bw_6_13) dX4_flyFrom_185 41 (Std.r hS 6 rfl) ?_
                refine v_iload_n X 6 dX4_flyFrom_188 rfl rfl ?_
                refine v_aload_n X 5 dX4_flyFrom_189 rfl rfl ?_
                refine gt_X0_worth X iwX0 hq.2.1 hq.2.2.1 (List.mem_cons_of_mem _ bw_34_21) dX4_flyFrom_190 (M q 2) (by rw [mrow_i _ _ (by omega), mrow_i _ _ (by omega), mrow_i _ _ (by omega)]) (fun hr89 => ?_)
                refine v_iload X 3 dX4_flyFrom_193 rfl ?_
                refine v_iload_n X 7 dX4_flyFrom_195 rfl rfl ?_
                refine v_iload X 8 dX4_flyFrom_196 rfl ?_
                refine v_iload X 2 dX4_flyFrom_198 rfl ?_
                refine v_callV X [.int (iz a), .int (iz (M q 2)), .int (iz r3), .int (iz b), .int (iz m), .int (iz r7)] hRm (c_X3_add_41 _ _ _ hS a (M q 2) r3 b m r7 (by omega) ⟨by omega, by omega⟩ ⟨by omega, by omega⟩ ⟨by omega, by omega⟩ ⟨by omega, by omega⟩ ⟨by omega, by omega⟩ (show 0 ≤ M 41 5 ∧ M 41 5 < 6 by omega) (show inR (M 41 6 + M q 2) from ⟨by omega, by omega⟩)) (gV bw_38_1 bw_38_2 bw_38_3 bw_2_19 bw_38_4) rfl ddX3_add (by decide) (Std.lt hS rfl) (Std.k hS rfl rfl) ⟨rfl, by decide⟩ (Nat.le_of_ble_eq_true rfl) dX4_flyFrom_200 (k_eV (fun M91 e90 => ?_))
                replace e90 : M91 = (mu (mu (mu (mu (mu (mu (mu (mrow (mrow (mrow M 32 (ask9 (M 32) (M 32 0) (M 32 1) (M 32 2) (M 32 3) (M 14 b) b (M 32 6) m (M 32 8))) 23 g86) 30 h87) 42 (M 41 5) a) 43 a r3) 44 a b) 45 a m) 46 a r7) 41 5 ((M 41 5) + 1)) 41 6 ((M 41 6) + (M q 2))) := e90
                subst e90
                refine v_aload_n X 4 dX4_flyFrom_203 rfl rfl ?_
                refine gt_X4_taken X iwX4 (Std.lt hS rfl) (Std.k hS rfl rfl) (List.mem_cons_of_mem _ bw_6_10) dX4_flyFrom_204 34 (Std.r hS 4 rfl) ?_
                refine v_iload X 3 dX4_flyFrom_207 rfl ?_
                refine v_iconst X dX4_flyFrom_209 ?_
                refine v_zast X (Std.lt hS rfl) (Std.at hS rfl rfl) (by omega) (by omega) ⟨by decide, by decide⟩ dX4_flyFrom_210 ?_
                refine v_aload_n X 4 dX4_flyFrom_211 rfl rfl ?_
                refine gt_X4_taken X iwX4 (Std.lt hS rfl) (Std.k hS rfl rfl) (List.mem_cons_of_mem _ bw_6_10) dX4_flyFrom_212 34 (Std.r hS 4 rfl) ?_
                refine v_iload X 2 dX4_flyFrom_215 rfl ?_
                refine v_iconst X dX4_flyFrom_217 ?_
                refine v_zast X (Std.lt hS rfl) (Std.at hS rfl rfl) (by omega) (by omega) ⟨by decide, by decide⟩ dX4_flyFrom_218 ?_
                refine v_iconst X dX4_flyFrom_219 ?_
                refine hret _ _ _ _ _ _ _ _ _ _ _ (some (.int (iz 1))) dX4_flyFrom_220 ⟨rfl, 1, ⟨by omega, by omega⟩, rfl⟩ (by decide) (by decide) (fun hmok => ?_)
                have hok : flyOk M t p q a b m (ask9 (M 32) (M 32 0) (M 32 1) (M 32 2) (M 32 3) (M 14 b) b (M 32 6) m (M 32 8)) = true := flyOk_iff.mpr ⟨⟨by rw [← e5]; omega, by rw [← e9]; omega, by rw [← e5, ← e9]; omega⟩, by rw [← e64p]; omega, by rw [← e5, ← e9, ← e78p]; omega, by rw [← e85p]; omega⟩
                have hof : okF (M 6 1) ((a, fT M p q a b, b, m, fL M p q b m) :: p) := ⟨ha, hin, ⟨show 0 ≤ fT M p q a b by rw [← e5]; omega, show fT M p q a b < fL M p q b m by rw [← e5, ← e9]; omega, show fL M p q b m < 240 by rw [← e9]; omega⟩, ⟨hb.1, hm.1, hbm⟩, ⟨show tkL p (fT M p q a b) = false by rw [← e5]; exact k3.2.2, show tkL p (fL M p q b m) = false by rw [← e9]; exact k4.2.2⟩, ho⟩
                refine ⟨rfl, rfl, rfl, rfl, rfl, 1, rfl, Or.inl ⟨rfl, hok, hof, ?_, ?_, ⟨fun i hi => (by rw [mu_i _ _ _ (by omega), mu_i _ _ _ (by omega), mu_i _ _ _ (by omega), mu_i _ _ _ (by omega), mu_i _ _ _ (by omega), mu_i _ _ _ (by omega), mu_i _ _ _ (by omega), mu_i _ _ _ (by omega), mu_i _ _ _ (by omega), mrow_i _ _ (by omega), mrow_i _ _ (by omega), mrow_i _ _ (by omega)]), fun z hz => ask9_out hz⟩, (fun i i1 i2 => (by rw [mu_i _ _ _ (by omega), mu_i _ _ _ (by omega), mu_i _ _ _ (by omega), mu_i _ _ _ (by omega), mu_i _ _ _ (by omega), mu_i _ _ _ (by omega), mu_i _ _ _ (by omega), mu_i _ _ _ (by omega), mu_i _ _ _ (by omega), mrow_i _ _ (by omega), mrow_i _ _ (by omega), mrow_i _ _ (by omega)]))⟩⟩
                · rw [← e5, ← e9] at hof ⊢
                  refine rT_cons (by omega) hT hof (fun i i1 i2 => ?_)
                  rw [mu_i _ _ _ (by omega), mu_i _ _ _ (by omega)]
                  show _ = mu (mu (mu (mu (mu (mu (mu M 42 (M 41 5) a) 43 a r3) 44 a b) 45 a m) 46 a r7) 41 5 (M 41 5 + 1)) 41 6 (M 41 6 + wo a) i
                  rw [hwa]
                  funext k
                  rcases (show i = 41 ∨ i = 42 ∨ i = 43 ∨ i = 44 ∨ i = 45 ∨ i = 46 by omega) with z | z | z | z | z | z <;> (subst z; rfl)
                · rw [← e5, ← e9]
                  exact rK_cons hK rfl
              · skip
                refine v_iconst X dX4_flyFrom_182 ?_
                refine hret _ _ _ _ _ _ _ _ _ _ _ (some (.int (iz 0))) dX4_flyFrom_183 ⟨rfl, 0, ⟨by omega, by omega⟩, rfl⟩ (by decide) (by decide) (fun hmok => ?_)
                refine ⟨rfl, rfl, rfl, rfl, rfl, 0, rfl, Or.inr ⟨rfl, Bool.eq_false_iff.mpr (fun z => ?_), ?_⟩⟩
                · have z := flyOk_iff.mp z
                  have z := z.2.2.2
                  rw [← e85p] at z
                  omega
                · exact ⟨_, _, _, _, _, rfl⟩
            · skip
              refine v_iconst X dX4_flyFrom_164 ?_
              refine hret _ _ _ _ _ _ _ _ _ _ _ (some (.int (iz 0))) dX4_flyFrom_165 ⟨rfl, 0, ⟨by omega, by omega⟩, rfl⟩ (by decide) (by decide) (fun hmok => ?_)
              refine ⟨rfl, rfl, rfl, rfl, rfl, 0, rfl, Or.inr ⟨rfl, Bool.eq_false_iff.mpr (fun z => ?_), ?_⟩⟩
              · have z := flyOk_iff.mp z
                rw [← e5, ← e9] at z
                have z := z.2.2.1
                rw [← e78p] at z
                omega
              · exact ⟨_, _, _, _, _, rfl⟩
          · skip
            refine v_iconst X dX4_flyFrom_122 ?_
            refine hret _ _ _ _ _ _ _ _ _ _ _ (some (.int (iz 0))) dX4_flyFrom_123 ⟨rfl, 0, ⟨by omega, by omega⟩, rfl⟩ (by decide) (by decide) (fun hmok => ?_)
            refine ⟨rfl, rfl, rfl, rfl, rfl, 0, rfl, Or.inr ⟨rfl, Bool.eq_false_iff.mpr (fun z => ?_), ?_⟩⟩
            · have z := flyOk_iff.mp z
              have z := z.2.1
              rw [← e64p] at z
              omega
            · exact ⟨_, _, _, _, _, rfl⟩
      · skip
        refine v_iconst X dX4_flyFrom_60 ?_
        refine hret _ _ _ _ _ _ _ _ _ _ _ (some (.int (iz 0))) dX4_flyFrom_61 ⟨rfl, 0, ⟨by omega, by omega⟩, rfl⟩ (by decide) (by decide) (fun hmok => ?_)
        refine ⟨rfl, rfl, rfl, rfl, rfl, 0, rfl, Or.inr ⟨rfl, Bool.eq_false_iff.mpr (fun z => ?_), ?_⟩⟩
        · have z := flyOk_iff.mp z
          rw [← e5, ← e9] at z
          omega
        · exact ⟨M 32 4, M 32 5, M 32 7, M 23, M 30, by rw [ask9_self, mrow_self, mrow_self, mrow_self]⟩

