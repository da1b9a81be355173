/-! THE SEARCH, by lists: worth, begins kept, last landing -/
def wL (w : Int → Int) : List Fl → Int
  | [] => 0
  | f :: p => wL w p + w (fa f)
def kpL (g : Int → Int) : List Fl → Int
  | [] => 0
  | f :: p => kpL g p + (if g (fa f) = fg f then 1 else 0)
def laL : List Fl → Int
  | [] => -1
  | f :: p => max (laL p) (fn f)
def betL (w g : Int → Int) (p q : List Fl) : Bool := decide (wL w q < wL w p ∨ (wL w p = wL w q ∧ (kpL g q < kpL g p ∨ (kpL g p = kpL g q ∧ laL p < laL q))))
def lkS (w g : Int → Int) (p q : List Fl) : List Fl := if betL w g p q = true then p else q
def kidsF (pl : Int → Option Fl) (F : List Fl → List Fl → List Fl) (p : List Fl) : Nat → Int → List Fl → List Fl
  | 0, _, q => q
  | k + 1, a, q => kidsF pl F p k (a + 1) (if inF p a = true then q else match pl a with
    | none => q
    | some f => F (f :: p) q)
def mS (pl : List Fl → Int → Option Fl) (w g : Int → Int) (A : Nat) : Nat → List Fl → List Fl → List Fl
  | 0, p, q => lkS w g p q
  | n + 1, p, q => kidsF (pl p) (mS pl w g A n) p A 0 (lkS w g p q)
/-- what is left to do where the numbers tried so far are tr -/
def mR (pl : List Fl → Int → Option Fl) (w g : Int → Int) (A : Nat) (tr : Int → Int) : List Fl → List Fl → List Fl
  | [], q => kidsF (pl []) (mS pl w g A 6) [] (A - (tr 0).toNat) (tr 0) q
  | f :: p, q => mR pl w g A tr p (kidsF (pl (f :: p)) (mS pl w g A (6 - (p.length + 1))) (f :: p) (A - (tr ((p.length : Int) + 1)).toNat) (tr ((p.length : Int) + 1)) q)
def mz (A : Nat) (tr : Int → Int) : List Fl → Nat
  | [] => (A + 1 - (tr 0).toNat) * 8 ^ 7
  | _ :: p => mz A tr p + (A + 1 - (tr ((p.length : Int) + 1)).toNat) * 8 ^ (6 - p.length)
theorem mR_congr {pl : List Fl → Int → Option Fl} {w g : Int → Int} {A : Nat} {tr tr' : Int → Int} : ∀ {p : List Fl}, (∀ k : Int, 0 ≤ k → k ≤ (p.length : Int) → tr' k = tr k) → ∀ q, mR pl w g A tr' p q = mR pl w g A tr p q
  | [], h, q => by unfold mR; rw [h 0 (by omega) (by simp)]
  | f :: p, h, q => by
    show mR pl w g A tr' p _ = mR pl w g A tr p _
    rw [h _ (by omega) (by simp only [List.length_cons]; omega), mR_congr (p := p) (fun k q1 q2 => h k q1 (by simp only [List.length_cons]; omega))]
theorem mz_congr {A : Nat} {tr tr' : Int → Int} : ∀ {p : List Fl}, (∀ k : Int, 0 ≤ k → k ≤ (p.length : Int) → tr' k = tr k) → mz A tr' p = mz A tr p
  | [], h => by unfold mz; rw [h 0 (by omega) (by simp)]
  | f :: p, h => by
    show mz A tr' p + _ = mz A tr p + _
    rw [h _ (by omega) (by simp only [List.length_cons]; omega), mz_congr (p := p) (fun k q1 q2 => h k q1 (by simp only [List.length_cons]; omega))]
/-- one number further on this level -/
theorem mR_next {pl : List Fl → Int → Option Fl} {w g : Int → Int} {A : Nat} {tr tr' : Int → Int} : ∀ {p : List Fl}, (∀ k : Int, 0 ≤ k → k < (p.length : Int) → tr' k = tr k) → tr' (p.length : Int) = tr (p.length : Int) + 1 → 0 ≤ tr (p.length : Int) → tr (p.length : Int) < (A : Int) → ∀ q, mR pl w g A tr p q = mR pl w g A tr' p (if inF p (tr (p.length : Int)) = true then q else match pl p (tr (p.length : Int)) with
    | none => q
    | some f => mS pl w g A (6 - p.length) (f :: p) q)
  | [], _, h2, h3, h4, q => by
    simp only [List.length_nil] at h2 h3 h4
    have h2 : tr' 0 = tr 0 + 1 := h2
    have h3 : 0 ≤ tr 0 := h3
    have h4 : tr 0 < (A : Int) := h4
    unfold mR
    rw [h2, show A - (tr 0).toNat = (A - (tr 0 + 1).toNat) + 1 by omega]
    rfl
  | f :: p, h1, h2, h3, h4, q => by
    simp only [List.length_cons] at h2 h3 h4
    have h2 : tr' ((p.length : Int) + 1) = tr ((p.length : Int) + 1) + 1 := h2
    have h3 : 0 ≤ tr ((p.length : Int) + 1) := h3
    have h4 : tr ((p.length : Int) + 1) < (A : Int) := h4
    show mR pl w g A tr p _ = mR pl w g A tr' p _
    rw [mR_congr (tr := tr) (tr' := tr') (p := p) (fun k q1 q2 => h1 k q1 (by simp only [List.length_cons]; omega)), h2, show A - (tr ((p.length : Int) + 1)).toNat = (A - (tr ((p.length : Int) + 1) + 1).toNat) + 1 by omega]
    rfl
theorem mz_next {A : Nat} {tr tr' : Int → Int} : ∀ {p : List Fl}, p.length ≤ 6 → (∀ k : Int, 0 ≤ k → k < (p.length : Int) → tr' k = tr k) → tr' (p.length : Int) = tr (p.length : Int) + 1 → 0 ≤ tr (p.length : Int) → tr (p.length : Int) < (A : Int) → mz A tr p = mz A tr' p + 8 ^ (7 - p.length)
  | [], _, _, h2, h3, h4 => by
    simp only [List.length_nil] at h2 h3 h4
    have h2 : tr' 0 = tr 0 + 1 := h2
    have h3 : 0 ≤ tr 0 := h3
    have h4 : tr 0 < (A : Int) := h4
    show (A + 1 - (tr 0).toNat) * 8 ^ 7 = (A + 1 - (tr' 0).toNat) * 8 ^ 7 + 8 ^ 7
    rw [h2, show A + 1 - (tr 0).toNat = (A + 1 - (tr 0 + 1).toNat) + 1 by omega, Nat.add_mul, Nat.one_mul]
  | f :: p, h0, h1, h2, h3, h4 => by
    simp only [List.length_cons] at h0 h2 h3 h4
    have h2 : tr' ((p.length : Int) + 1) = tr ((p.length : Int) + 1) + 1 := h2
    have h3 : 0 ≤ tr ((p.length : Int) + 1) := h3
    have h4 : tr ((p.length : Int) + 1) < (A : Int) := h4
    show mz A tr p + _ = mz A tr' p + _ + 8 ^ (7 - (p.length + 1))
    rw [mz_congr (tr := tr) (tr' := tr') (p := p) (fun k q1 q2 => h1 k q1 (by simp only [List.length_cons]; omega)), h2, show A + 1 - (tr ((p.length : Int) + 1)).toNat = (A + 1 - (tr ((p.length : Int) + 1) + 1).toNat) + 1 by omega, Nat.add_mul, Nat.one_mul, show 7 - (p.length + 1) = 6 - p.length by omega, Nat.add_assoc]
theorem mz_down {A : Nat} {tr : Int → Int} {p : List Fl} {f : Fl} (h0 : p.length < 6) (hA : A ≤ 6) (h1 : tr ((p.length : Int) + 1) = 0) : mz A tr (f :: p) < mz A tr p + 8 ^ (7 - p.length) := by
  show mz A tr p + (A + 1 - (tr ((p.length : Int) + 1)).toNat) * 8 ^ (6 - p.length) < _
  rw [h1, show 7 - p.length = (6 - p.length) + 1 by omega, Nat.pow_succ, Nat.mul_comm (8 ^ (6 - p.length)) 8]
  have := Nat.mul_lt_mul_of_pos_right (show A + 1 - (0 : Int).toNat < 8 by omega) (Nat.pow_pos (n := 6 - p.length) (show 0 < 8 by decide))
  omega
theorem mz_up {A : Nat} {tr : Int → Int} {p : List Fl} {f : Fl} (h1 : tr ((p.length : Int) + 1) ≤ (A : Int)) : mz A tr p < mz A tr (f :: p) := by
  show _ < mz A tr p + (A + 1 - (tr ((p.length : Int) + 1)).toNat) * 8 ^ (6 - p.length)
  have := Nat.mul_pos (show 0 < A + 1 - (tr ((p.length : Int) + 1)).toNat by omega) (Nat.pow_pos (n := 6 - p.length) (show 0 < 8 by decide))
  omega
theorem mz_pos {A : Nat} {tr : Int → Int} (h1 : tr 0 ≤ (A : Int)) : 0 < mz A tr [] := by
  show 0 < (A + 1 - (tr 0).toNat) * 8 ^ 7
  exact Nat.mul_pos (by omega) (by decide)
/-- counting: as many different acts as there are flights -/
def cnt (p : List Fl) : Nat → Nat
  | 0 => 0
  | n + 1 => cnt p n + (if inF p (n : Int) = true then 1 else 0)
theorem cnt_le (p : List Fl) : ∀ n : Nat, cnt p n ≤ n
  | 0 => Nat.le_refl _
  | n + 1 => by
    have := cnt_le p n
    show cnt p n + (if inF p (n : Int) = true then 1 else 0) ≤ n + 1
    split <;> omega
theorem cnt_full {p : List Fl} : ∀ {n : Nat}, cnt p n = n → ∀ a : Int, 0 ≤ a → a < (n : Int) → inF p a = true
  | 0, _, a, h1, h2 => absurd h2 (by omega)
  | n + 1, h, a, h1, h2 => by
    have hl := cnt_le p n
    have h : cnt p n + (if inF p (n : Int) = true then 1 else 0) = n + 1 := h
    by_cases z : inF p (n : Int) = true
    · rw [if_pos z] at h
      rcases (show a < (n : Int) ∨ a = (n : Int) by omega) with q | q
      · exact cnt_full (by omega) a h1 q
      · rw [q]; exact z
    · rw [if_neg z] at h; omega
theorem cnt_cons {f : Fl} {p : List Fl} (h1 : 0 ≤ fa f) (hn : inF p (fa f) = false) : ∀ n : Nat, cnt (f :: p) n = cnt p n + (if fa f < (n : Int) then 1 else 0)
  | 0 => by
    show 0 = 0 + (if fa f < ((0 : Nat) : Int) then 1 else 0)
    rw [if_neg (by omega)]
  | n + 1 => by
    show cnt (f :: p) n + (if (decide (fa f = (n : Int)) || inF p (n : Int)) = true then 1 else 0) = cnt p n + (if inF p (n : Int) = true then 1 else 0) + (if fa f < ((n + 1 : Nat) : Int) then 1 else 0)
    rw [cnt_cons h1 hn n]
    by_cases z : fa f = (n : Int)
    · rw [z] at hn
      rw [hn, decide_eq_true z, if_neg (show ¬ fa f < (n : Int) by omega), if_pos (show fa f < ((n + 1 : Nat) : Int) by omega)]
      rfl
    · rw [decide_eq_false z, Bool.false_or]
      by_cases y : fa f < (n : Int)
      · rw [if_pos y, if_pos (show fa f < ((n + 1 : Nat) : Int) by omega)]; omega
      · rw [if_neg y, if_neg (show ¬ fa f < ((n + 1 : Nat) : Int) by omega)]; omega
theorem cnt_len {A : Int} {n : Nat} (hA : A ≤ (n : Int)) : ∀ {p : List Fl}, okF A p → cnt p n = p.length
  | [], _ => by
    have : ∀ m : Nat, cnt [] m = 0 := by
      intro m
      induction m with
      | zero => rfl
      | succ m ih => show cnt [] m + (if false = true then 1 else 0) = 0; rw [ih]; rfl
    exact this n
  | f :: p, o => by
    have ih := cnt_len hA o.2.2.2.2.2
    rw [cnt_cons o.1.1 o.2.1, ih, if_pos (by have := o.1.2; omega)]
    rfl
theorem okF_le {A : Int} {n : Nat} (hA : A ≤ (n : Int)) {p : List Fl} (o : okF A p) : p.length ≤ n := by
  rw [← cnt_len hA o]; exact cnt_le p n
theorem okF_all {A : Int} {n : Nat} (hA : A ≤ (n : Int)) {p : List Fl} (o : okF A p) (h : p.length = n) (a : Int) (h1 : 0 ≤ a) (h2 : a < (n : Int)) : inF p a = true :=
  cnt_full (by rw [cnt_len hA o, h]) a h1 h2
def wN (w r : Int → Int) : Nat → Int
  | 0 => 0
  | n + 1 => wN w r n + w (r (n : Int))
def kN (g r b : Int → Int) : Nat → Int
  | 0 => 0
  | n + 1 => kN g r b n + (if g (r (n : Int)) = b (n : Int) then 1 else 0)
def laN (l : Int → Int) : Nat → Int
  | 0 => -1
  | n + 1 => max (laN l n) (l (n : Int))
def hsN (r : Int → Int) (a : Int) : Nat → Bool
  | 0 => false
  | n + 1 => decide (r (n : Int) = a) || hsN r a n
theorem wN_s (w r : Int → Int) (n : Nat) : wN w r (n + 1) = wN w r n + w (r (n : Int)) := rfl
theorem kN_s (g r b : Int → Int) (n : Nat) : kN g r b (n + 1) = kN g r b n + (if g (r (n : Int)) = b (n : Int) then 1 else 0) := rfl
theorem laN_s (l : Int → Int) (n : Nat) : laN l (n + 1) = max (laN l n) (l (n : Int)) := rfl
theorem hsN_s (r : Int → Int) (a : Int) (n : Nat) : hsN r a (n + 1) = (decide (r (n : Int) = a) || hsN r a n) := rfl
theorem wN_L {r t b e l : Int → Int} (w : Int → Int) : ∀ {p : List Fl}, rpG r t b e l p → wN w r p.length = wL w p
  | [], _ => rfl
  | f :: p, h => by
    show wN w r p.length + w (r (p.length : Int)) = wL w p + w (fa f)
    rw [wN_L w h.2, h.1.1]
theorem kN_L {r t b e l : Int → Int} (g : Int → Int) : ∀ {p : List Fl}, rpG r t b e l p → kN g r b p.length = kpL g p
  | [], _ => rfl
  | f :: p, h => by
    show kN g r b p.length + (if g (r (p.length : Int)) = b (p.length : Int) then 1 else 0) = kpL g p + (if g (fa f) = fg f then 1 else 0)
    rw [kN_L g h.2, h.1.1, h.1.2.2.1]
theorem laN_L {r t b e l : Int → Int} : ∀ {p : List Fl}, rpG r t b e l p → laN l p.length = laL p
  | [], _ => rfl
  | f :: p, h => by
    show max (laN l p.length) (l (p.length : Int)) = max (laL p) (fn f)
    rw [laN_L h.2, h.1.2.2.2.2]
theorem hsN_L {r t b e l : Int → Int} (a : Int) : ∀ {p : List Fl}, rpG r t b e l p → hsN r a p.length = inF p a
  | [], _ => rfl
  | f :: p, h => by
    show (decide (r (p.length : Int) = a) || hsN r a p.length) = (decide (fa f = a) || inF p a)
    rw [hsN_L a h.2, h.1.1]
theorem cpk {f g m : Int → Int} {i k : Int} (h1 : f = m) (h2 : k ≠ i → g k = m k) : (if k = i then f i else g k) = m k := by
  by_cases z : k = i
  · rw [if_pos z, z, h1]
  · rw [if_neg z]; exact h2 z
def rpB (w g : Int → Int) (M : MI) (q : List Fl) : Prop := (M 53 75 = (q.length : Int) ∧ M 53 76 = wL w q ∧ M 53 77 = kpL g q ∧ M 53 78 = laL q) ∧ rpG (M 106) (M 107) (M 108) (M 109) (M 110) q
def gM (e : Int) (M : MI) : Int → Int := if e = 1 then M 103 else fun _ => -1

-- looks
set_option maxHeartbeats 4000000 in
set_option maxRecDepth 100000 in
theorem c_X12_looks (l : Launch) (D : va_G) (cy : Nat → ClassId) {N : Nat} {sh : MS} {ad : Nat → Nat} {M L : MI} {R : MR} (hS : Std N sh R) (e : Int) (he : e = 0 ∨ e = 1) (p : List Fl) (hp : rpN M p) (ho : okF (M 53 37) p) (hA : 0 ≤ M 53 37 ∧ M 53 37 ≤ 6) (hW : ∀ a : Int, 0 ≤ a → a < M 53 37 → 0 ≤ M 78 a ∧ M 78 a ≤ 100) : Ctr l D cy yX12_looks wsX12_looks ({ frames := 0, cells := 0, slots := 0, locals := 0 } : Room) N sh ad M L R [.ref (ad 53), .int (iz e)] (eV N sh ad L R (fun M' => (∀ i : Nat, i ≠ 53 → ¬ (106 ≤ i ∧ i ≤ 110) → M' i = M i) ∧ (∀ z : Int, ¬ (75 ≤ z ∧ z ≤ 78) → M' 53 z = M 53 z) ∧ (M 53 75 = -1 → rpB (M 78) (gM e M) M' p) ∧ ∀ q : List Fl, rpB (M 78) (gM e M) M q → rpB (M 78) (gM e M) M' (lkS (M 78) (gM e M) p q))) := by
  refine Ctr.ofV (by decide) rfl (Nat.le_of_ble_eq_true rfl) ?_
  intro K hKl hKd hRm hnm X hret
  have X : VX K cX12_looks 6 wsX12_looks RX12 := X
  show V K 6 0 0 N sh ad M L R [(0, .ref (ad 53)), (1, .int (iz e))] [] 0
  have hin := rpG_in hp.2 ho
  have h62 := hp.1
  have hle := okF_le (n := 6) (by omega) ho
  refine v_iconst X dX12_looks_0 ?_
  refine v_istore_n X [(2, .int (iz 0)), (0, .ref (ad 53)), (1, .int (iz e))] dX12_looks_1 rfl (by decide) rfl ?_
  refine v_iconst X dX12_looks_2 ?_
  refine v_istore_n X [(3, .int (iz 0)), (2, .int (iz 0)), (0, .ref (ad 53)), (1, .int (iz e))] dX12_looks_3 rfl (by decide) rfl ?_
  refine v_iconst X dX12_looks_4 ?_
  refine v_istore X [(4, .int (iz (-1))), (3, .int (iz 0)), (2, .int (iz 0)), (0, .ref (ad 53)), (1, .int (iz e))] dX12_looks_5 (by decide) rfl ?_
  refine v_iconst X dX12_looks_7 ?_
  refine v_istore X [(5, .int (iz 0)), (4, .int (iz (-1))), (3, .int (iz 0)), (2, .int (iz 0)), (0, .ref (ad 53)), (1, .int (iz e))] dX12_looks_8 (by decide) rfl ?_
  have hl1 : ∀ (n3 : Nat) (al : Int) (sm : Int) (la : Int) (i : Int) (j : Nat), (i = (j : Int)) → (i ≤ M 53 62) → (al = wN (M 78) (M 96) j) → (0 ≤ al ∧ al ≤ 100 * i) → (sm = kN (gM e M) (M 96) (M 98) j) → (0 ≤ sm ∧ sm ≤ i) → (la = laN (M 100) j) → (-1 ≤ la ∧ la < 240) → (6 - i).toNat < n3 → V K 6 0 0 N sh ad M L R [(0, .ref (ad 53)), (1, .int (iz e)), (2, .int (iz al)), (3, .int (iz sm)), (4, .int (iz la)), (5, .int (iz i))] [] 10 := by
    intro n3
    induction n3 with
    | zero => intro al sm la i j ei hi hal hal2 hsm hsm2 hla hla2 hn4; exact absurd hn4 (Nat.not_lt_zero _)
    | succ n3 ih2 =>
      intro al sm la i j ei hi hal hal2 hsm hsm2 hla hla2 hn4
      refine v_iload X 5 dX12_looks_10 rfl ?_
      refine v_aload_n X 0 dX12_looks_12 rfl rfl ?_
      refine gt_X12_placed X iwX12 (Std.lt hS rfl) (Std.k hS rfl rfl) (List.mem_cons_of_mem _ bw_38_23) dX12_looks_13 (M 53 62) rfl (fun hr5 => ?_)
      refine v_icmp_ge X 90 dX12_looks_16 (by decide) ⟨by omega, by omega⟩ ⟨by omega, by omega⟩ (fun u6 => ?_) (fun u6 => ?_)
      · skip
        have hj : j = p.length := by omega
        subst hj
        rw [wN_L _ hp.2] at hal
        rw [kN_L _ hp.2] at hsm
        rw [laN_L hp.2] at hla
        have hj7 : ∀ (i5 : Int), (∀ q : List Fl, rpB (M 78) (gM e M) M q → betL (M 78) (gM e M) p q = true) →  V K 6 0 0 N sh ad M L R [(0, .ref (ad 53)), (1, .int (iz e)), (2, .int (iz al)), (3, .int (iz sm)), (4, .int (iz la)), (5, .int (iz i5))] [] 140 := by
          intro i5 hbt
          refine v_aload_n X 0 dX12_looks_140 rfl rfl ?_
          refine v_aload_n X 0 dX12_looks_141 rfl rfl ?_
          refine gt_X12_placed X iwX12 (Std.lt hS rfl) (Std.k hS rfl rfl) (List.mem_cons_of_mem _ bw_38_23) dX12_looks_142 (M 53 62) rfl (fun hr8 => ?_)
          refine pt_X12_bestMany X iwX12 (Std.lt hS rfl) (Std.k hS rfl rfl) (List.mem_cons_of_mem _ bw_39_0) ⟨by omega, by omega⟩ dX12_looks_145 ?_
          refine v_aload_n X 0 dX12_looks_148 rfl rfl ?_
          refine v_iload_n X 2 dX12_looks_149 rfl rfl ?_
          refine pt_X12_bestWorth X iwX12 (Std.lt hS rfl) (Std.k hS rfl rfl) (List.mem_cons_of_mem _ bw_39_3) ⟨by omega, by omega⟩ dX12_looks_150 ?_
          refine v_aload_n X 0 dX12_looks_153 rfl rfl ?_
          refine v_iload_n X 3 dX12_looks_154 rfl rfl ?_
          refine pt_X12_bestSame X iwX12 (Std.lt hS rfl) (Std.k hS rfl rfl) (List.mem_cons_of_mem _ bw_39_8) ⟨by omega, by omega⟩ dX12_looks_155 ?_
          refine v_aload_n X 0 dX12_looks_158 rfl rfl ?_
          refine v_iload X 4 dX12_looks_159 rfl ?_
          refine pt_X12_bestLast X iwX12 (Std.lt hS rfl) (Std.k hS rfl rfl) (List.mem_cons_of_mem _ bw_39_9) ⟨by omega, by omega⟩ dX12_looks_161 ?_
          refine v_iconst X dX12_looks_164 ?_
          refine v_istore X [(5, .int (iz 0)), (0, .ref (ad 53)), (1, .int (iz e)), (2, .int (iz al)), (3, .int (iz sm)), (4, .int (iz la))] dX12_looks_165 (by decide) rfl ?_
          have hl9 : ∀ (n11 : Nat) (Mx : MI) (i : Int), (0 ≤ i ∧ i ≤ M 53 62) → (∀ a : Nat, a ≠ 53 → ¬ (106 ≤ a ∧ a ≤ 110) → Mx a = M a) → (∀ z : Int, ¬ (75 ≤ z ∧ z ≤ 78) → Mx 53 z = M 53 z) → (Mx 53 75 = M 53 62 ∧ Mx 53 76 = al ∧ Mx 53 77 = sm ∧ Mx 53 78 = la) → (∀ k : Int, 0 ≤ k → k < i → Mx 106 k = M 96 k ∧ Mx 107 k = M 97 k ∧ Mx 108 k = M 98 k ∧ Mx 109 k = M 99 k ∧ Mx 110 k = M 100 k) → (6 - i).toNat < n11 → V K 6 0 0 N sh ad Mx L R [(0, .ref (ad 53)), (1, .int (iz e)), (2, .int (iz al)), (3, .int (iz sm)), (4, .int (iz la)), (5, .int (iz i))] [] 167 := by
            intro n11
            induction n11 with
            | zero => intro Mx i hi hf1 hf2 hb hr hn12; exact absurd hn12 (Nat.not_lt_zero _)
            | succ n11 ih10 =>
              intro Mx i hi hf1 hf2 hb hr hn12
              have g62 := hf2 62 (by decide)
              refine v_iload X 5 dX12_looks_167 rfl ?_
              refine v_aload_n X 0 dX12_looks_169 rfl rfl ?_
              refine gt_X12_placed X iwX12 (Std.lt hS rfl) (Std.k hS rfl rfl) (List.mem_cons_of_mem _ bw_38_23) dX12_looks_170 (Mx 53 62) rfl (fun hr13 => ?_)
              refine v_icmp_ge X 252 dX12_looks_173 (by decide) ⟨by omega, by omega⟩ ⟨by omega, by omega⟩ (fun u14 => ?_) (fun u14 => ?_)
              · skip
                refine hret _ _ _ _ _ _ _ _ _ _ _ none dX12_looks_252 ⟨rfl, rfl⟩ (by decide) (by decide) (fun hmok => ?_)
                refine ⟨rfl, rfl, rfl, rfl, rfl, rfl, ?_⟩
                try dsimp only
                have hB9 : rpB (M 78) (gM e M) Mx p := ⟨⟨by omega, by omega, by omega, by omega⟩, rpG_congr hp.2 (fun k q1 q2 => hr k q1 (by omega))⟩
                refine ⟨hf1, hf2, fun _ => hB9, fun q hq => ?_⟩
                unfold lkS
                rw [if_pos (hbt q hq)]
                exact hB9
              · skip
                refine v_aload_n X 0 dX12_looks_176 rfl rfl ?_
                refine gt_X12_bestRow X iwX12 (Std.lt hS rfl) (Std.k hS rfl rfl) (List.mem_cons_of_mem _ bw_9_20) dX12_looks_177 106 (Std.r hS 79 rfl) ?_
                refine v_iload X 5 dX12_looks_180 rfl ?_
                refine v_aload_n X 0 dX12_looks_182 rfl rfl ?_
                refine gt_X12_row X iwX12 (Std.lt hS rfl) (Std.k hS rfl rfl) (List.mem_cons_of_mem _ bw_9_10) dX12_looks_183 96 (Std.r hS 63 rfl) ?_
                refine v_iload X 5 dX12_looks_186 rfl ?_
                refine v_iald X (Mx 96 i) (Std.lt hS rfl) (Std.at hS rfl rfl) (by omega) (by omega) dX12_looks_188 rfl (fun hr15 => ?_)
                refine v_iast X (Std.lt hS rfl) (Std.at hS rfl rfl) (by omega) (by omega) ⟨by omega, by omega⟩ dX12_looks_189 ?_
                refine v_aload_n X 0 dX12_looks_190 rfl rfl ?_
                refine gt_X12_bestOff X iwX12 (Std.lt hS rfl) (Std.k hS rfl rfl) (List.mem_cons_of_mem _ bw_9_21) dX12_looks_191 107 (Std.r hS 80 rfl) ?_
                refine v_iload X 5 dX12_looks_194 rfl ?_
                refine v_aload_n X 0 dX12_looks_196 rfl rfl ?_
                refine gt_X12_takesOff X iwX12 (Std.lt hS rfl) (Std.k hS rfl rfl) (List.mem_cons_of_mem _ bw_9_11) dX12_looks_197 97 (Std.r hS 64 rfl) ?_
                refine v_iload X 5 dX12_looks_200 rfl ?_
                refine v_iald X (Mx 97 i) (Std.lt hS rfl) (Std.at hS rfl rfl) (by omega) (by omega) dX12_looks_202 rfl (fun hr16 => ?_)
                refine v_iast X (Std.lt hS rfl) (Std.at hS rfl rfl) (by omega) (by omega) ⟨by omega, by omega⟩ dX12_looks_203 ?_
                refine v_aload_n X 0 dX12_looks_204 rfl rfl ?_
                refine gt_X12_bestBegin X iwX12 (Std.lt hS rfl) (Std.k hS rfl rfl) (List.mem_cons_of_mem _ bw_9_22) dX12_looks_205 108 (Std.r hS 81 rfl) ?_
                refine v_iload X 5 dX12_looks_208 rfl ?_
                refine v_aload_n X 0 dX12_looks_210 rfl rfl ?_
                refine gt_X12_begins X iwX12 (Std.lt hS rfl) (Std.k hS rfl rfl) (List.mem_cons_of_mem _ bw_9_12) dX12_looks_211 98 (Std.r hS 65 rfl) ?_
                refine v_iload X 5 dX12_looks_214 rfl ?_
                refine v_iald X (Mx 98 i) (Std.lt hS rfl) (Std.at hS rfl rfl) (by omega) (by omega) dX12_looks_216 rfl (fun hr17 => ?_)
                refine v_iast X (Std.lt hS rfl) (Std.at hS rfl rfl) (by omega) (by omega) ⟨by omega, by omega⟩ dX12_looks_217 ?_
                refine v_aload_n X 0 dX12_looks_218 rfl rfl ?_
                refine gt_X12_bestEnd X iwX12 (Std.lt hS rfl) (Std.k hS rfl rfl) (List.mem_cons_of_mem _ bw_9_23) dX12_looks_219 109 (Std.r hS 82 rfl) ?_
                refine v_iload X 5 dX12_looks_222 rfl ?_
                refine v_aload_n X 0 dX12_looks_224 rfl rfl ?_
                refine gt_X12_ends X iwX12 (Std.lt hS rfl) (Std.k hS rfl rfl) (List.mem_cons_of_mem _ bw_9_13) dX12_looks_225 99 (Std.r hS 66 rfl) ?_
                refine v_iload X 5 dX12_looks_228 rfl ?_
                refine v_iald X (Mx 99 i) (Std.lt hS rfl) (Std.at hS rfl rfl) (by omega) (by omega) dX12_looks_230 rfl (fun hr18 => ?_)
                refine v_iast X (Std.lt hS rfl) (Std.at hS rfl rfl) (by omega) (by omega) ⟨by omega, by omega⟩ dX12_looks_231 ?_
                refine v_aload_n X 0 dX12_looks_232 rfl rfl ?_
                refine gt_X12_bestLand X iwX12 (Std.lt hS rfl) (Std.k hS rfl rfl) (List.mem_cons_of_mem _ bw_10_0) dX12_looks_233 110 (Std.r hS 83 rfl) ?_
                refine v_iload X 5 dX12_looks_236 rfl ?_
                refine v_aload_n X 0 dX12_looks_238 rfl rfl ?_
                refine gt_X12_lands X iwX12 (Std.lt hS rfl) (Std.k hS rfl rfl) (List.mem_cons_of_mem _ bw_9_14) dX12_looks_239 100 (Std.r hS 67 rfl) ?_
                refine v_iload X 5 dX12_looks_242 rfl ?_
                refine v_iald X (Mx 100 i) (Std.lt hS rfl) (Std.at hS rfl rfl) (by omega) (by omega) dX12_looks_244 rfl (fun hr19 => ?_)
                refine v_iast X (Std.lt hS rfl) (Std.at hS rfl rfl) (by omega) (by omega) ⟨by omega, by omega⟩ dX12_looks_245 ?_
                refine v_iinc X 5 [(5, .int (iz (i + 1))), (0, .ref (ad 53)), (1, .int (iz e)), (2, .int (iz al)), (3, .int (iz sm)), (4, .int (iz la))] dX12_looks_246 rfl (by decide) rfl ?_
                refine v_goto X 167 dX12_looks_249 (by decide) ?_
                refine v_lv [1, 2, 3, 4, 5, 0] rfl ?_
                exact ih10 (mu (mu (mu (mu (mu Mx 106 i (Mx 96 i)) 107 i (Mx 97 i)) 108 i (Mx 98 i)) 109 i (Mx 99 i)) 110 i (Mx 100 i)) (i + 1) (by omega) (fun a a1 a2 => (by rw [mu_i _ _ _ (by omega), mu_i _ _ _ (by omega), mu_i _ _ _ (by omega), mu_i _ _ _ (by omega), mu_i _ _ _ (by omega)]; exact hf1 a a1 a2)) (fun z hz => hf2 z hz) (hb) (fun k q1 q2 => ⟨cpk (hf1 96 (by decide) (by decide)) (fun z => (hr k q1 (by omega)).1), cpk (hf1 97 (by decide) (by decide)) (fun z => (hr k q1 (by omega)).2.1), cpk (hf1 98 (by decide) (by decide)) (fun z => (hr k q1 (by omega)).2.2.1), cpk (hf1 99 (by decide) (by decide)) (fun z => (hr k q1 (by omega)).2.2.2.1), cpk (hf1 100 (by decide) (by decide)) (fun z => (hr k q1 (by omega)).2.2.2.2)⟩) (by omega)
          refine v_lv [1, 2, 3, 4, 5, 0] rfl ?_
          exact hl9 _ (mu (mu (mu (mu M 53 75 (M 53 62)) 53 76 al) 53 77 sm) 53 78 la) 0 (by omega) (fun a a1 a2 => (by rw [mu_i _ _ _ a1, mu_i _ _ _ a1, mu_i _ _ _ a1, mu_i _ _ _ a1])) (fun z hz => (by rw [mu_z _ _ _ (by omega), mu_z _ _ _ (by omega), mu_z _ _ _ (by omega), mu_z _ _ _ (by omega)])) (⟨rfl, rfl, rfl, rfl⟩) (fun k q1 q2 => absurd q2 (by omega)) (Nat.lt_succ_self _)
        refine v_aload_n X 0 dX12_looks_90 rfl rfl ?_
        refine gt_X12_bestMany X iwX12 (Std.lt hS rfl) (Std.k hS rfl rfl) (List.mem_cons_of_mem _ bw_39_0) dX12_looks_91 (M 53 75) rfl (fun hr20 => ?_)
        refine v_iconst X dX12_looks_94 ?_
        refine v_icmp_eq X 140 dX12_looks_95 (by decide) ⟨by omega, by omega⟩ ⟨by decide, by decide⟩ (fun u21 => ?_) (fun u21 => ?_)
        · skip
          exact hj7 i (fun q hq => (by obtain ⟨⟨z1, z2, z3, z4⟩, _⟩ := hq; unfold betL; exact decide_eq_true (by omega))) 
        · skip
          refine v_iload_n X 2 dX12_looks_98 rfl rfl ?_
          refine v_aload_n X 0 dX12_looks_99 rfl rfl ?_
          refine gt_X12_bestWorth X iwX12 (Std.lt hS rfl) (Std.k hS rfl rfl) (List.mem_cons_of_mem _ bw_39_3) dX12_looks_100 (M 53 76) rfl (fun hr22 => ?_)
          refine v_icmp_lt X 139 dX12_looks_103 (by decide) ⟨by omega, by omega⟩ ⟨by omega, by omega⟩ (fun u23 => ?_) (fun u23 => ?_)
          · skip
            refine hret _ _ _ _ _ _ _ _ _ _ _ none dX12_looks_139 ⟨rfl, rfl⟩ (by decide) (by decide) (fun hmok => ?_)
            refine ⟨rfl, rfl, rfl, rfl, rfl, rfl, ?_⟩
            try dsimp only
            refine ⟨fun _ _ _ => rfl, fun _ _ => rfl, fun z => absurd z (by omega), fun q hq => ?_⟩
            have hn : ¬ betL (M 78) (gM e M) p q = true := by
              obtain ⟨⟨z1, z2, z3, z4⟩, _⟩ := hq
              unfold betL
              rw [decide_eq_true_iff]
              omega
            unfold lkS
            rw [if_neg hn]
            exact hq
          · skip
            refine v_iload_n X 2 dX12_looks_106 rfl rfl ?_
            refine v_aload_n X 0 dX12_looks_107 rfl rfl ?_
            refine gt_X12_bestWorth X iwX12 (Std.lt hS rfl) (Std.k hS rfl rfl) (List.mem_cons_of_mem _ bw_39_3) dX12_looks_108 (M 53 76) rfl (fun hr24 => ?_)
            refine v_icmp_ne X 140 dX12_looks_111 (by decide) ⟨by omega, by omega⟩ ⟨by omega, by omega⟩ (fun u25 => ?_) (fun u25 => ?_)
            · skip
              exact hj7 i (fun q hq => (by obtain ⟨⟨z1, z2, z3, z4⟩, _⟩ := hq; unfold betL; exact decide_eq_true (by omega))) 
            · skip
              refine v_iload_n X 3 dX12_looks_114 rfl rfl ?_
              refine v_aload_n X 0 dX12_looks_115 rfl rfl ?_
              refine gt_X12_bestSame X iwX12 (Std.lt hS rfl) (Std.k hS rfl rfl) (List.mem_cons_of_mem _ bw_39_8) dX12_looks_116 (M 53 77) rfl (fun hr26 => ?_)
              refine v_icmp_lt X 139 dX12_looks_119 (by decide) ⟨by omega, by omega⟩ ⟨by omega, by omega⟩ (fun u27 => ?_) (fun u27 => ?_)
              · skip
                refine hret _ _ _ _ _ _ _ _ _ _ _ none dX12_looks_139 ⟨rfl, rfl⟩ (by decide) (by decide) (fun hmok => ?_)
                refine ⟨rfl, rfl, rfl, rfl, rfl, rfl, ?_⟩
                try dsimp only
                refine ⟨fun _ _ _ => rfl, fun _ _ => rfl, fun z => absurd z (by omega), fun q hq => ?_⟩
                have hn : ¬ betL (M 78) (gM e M) p q = true := by
                  obtain ⟨⟨z1, z2, z3, z4⟩, _⟩ := hq
                  unfold betL
                  rw [decide_eq_true_iff]
                  omega
                unfold lkS
                rw [if_neg hn]
                exact hq
              · skip
                refine v_iload_n X 3 dX12_looks_122 rfl rfl ?_
                refine v_aload_n X 0 dX12_looks_123 rfl rfl ?_
                refine gt_X12_bestSame X iwX12 (Std.lt hS rfl) (Std.k hS rfl rfl) (List.mem_cons_of_mem _ bw_39_8) dX12_looks_124 (M 53 77) rfl (fun hr28 => ?_)
                refine v_icmp_ne X 140 dX12_looks_127 (by decide) ⟨by omega, by omega⟩ ⟨by omega, by omega⟩ (fun u29 => ?_) (fun u29 => ?_)
                · skip
                  exact hj7 i (fun q hq => (by obtain ⟨⟨z1, z2, z3, z4⟩, _⟩ := hq; unfold betL; exact decide_eq_true (by omega))) 
                · skip
                  refine v_iload X 4 dX12_looks_130 rfl ?_
                  refine v_aload_n X 0 dX12_looks_132 rfl rfl ?_
                  refine gt_X12_bestLast X iwX12 (Std.lt hS rfl) (Std.k hS rfl rfl) (List.mem_cons_of_mem _ bw_39_9) dX12_looks_133 (M 53 78) rfl (fun hr30 => ?_)
                  refine v_icmp_lt X 140 dX12_looks_136 (by decide) ⟨by omega, by omega⟩ ⟨by omega, by omega⟩ (fun u31 => ?_) (fun u31 => ?_)
                  · skip
                    exact hj7 i (fun q hq => (by obtain ⟨⟨z1, z2, z3, z4⟩, _⟩ := hq; unfold betL; exact decide_eq_true (by omega))) 
                  · skip
                    refine hret _ _ _ _ _ _ _ _ _ _ _ none dX12_looks_139 ⟨rfl, rfl⟩ (by decide) (by decide) (fun hmok => ?_)
                    refine ⟨rfl, rfl, rfl, rfl, rfl, rfl, ?_⟩
                    try dsimp only
                    refine ⟨fun _ _ _ => rfl, fun _ _ => rfl, fun z => absurd z (by omega), fun q hq => ?_⟩
                    have hn : ¬ betL (M 78) (gM e M) p q = true := by
                      obtain ⟨⟨z1, z2, z3, z4⟩, _⟩ := hq
                      unfold betL
                      rw [decide_eq_true_iff]
                      omega
                    unfold lkS
                    rw [if_neg hn]
                    exact hq
      · skip
        have q1 := hin i (by omega) (by omega)
        have q2 := hW (M 96 i) (by omega) (by omega)
        refine v_iload_n X 2 dX12_looks_19 rfl rfl ?_
        refine v_aload_n X 0 dX12_looks_20 rfl rfl ?_
        refine gt_X12_worth X iwX12 (Std.lt hS rfl) (Std.k hS rfl rfl) (List.mem_cons_of_mem _ bw_8_16) dX12_looks_21 78 (Std.r hS 40 rfl) ?_
        refine v_aload_n X 0 dX12_looks_24 rfl rfl ?_
        refine gt_X12_row X iwX12 (Std.lt hS rfl) (Std.k hS rfl rfl) (List.mem_cons_of_mem _ bw_9_10) dX12_looks_25 96 (Std.r hS 63 rfl) ?_
        refine v_iload X 5 dX12_looks_28 rfl ?_
        refine v_iald X (M 96 i) (Std.lt hS rfl) (Std.at hS rfl rfl) (by omega) (by omega) dX12_looks_30 rfl (fun hr32 => ?_)
        refine v_iald X (M 78 (M 96 i)) (Std.lt hS rfl) (Std.at hS rfl rfl) (by omega) (by omega) dX12_looks_31 rfl (fun hr33 => ?_)
        refine v_iadd X dX12_looks_32 ?_
        refine v_istore_n X [(2, .int (iz (al + (M 78 (M 96 i))))), (0, .ref (ad 53)), (1, .int (iz e)), (3, .int (iz sm)), (4, .int (iz la)), (5, .int (iz i))] dX12_looks_33 rfl (by decide) rfl ?_
        refine v_iload_n X 2 dX12_looks_34 rfl rfl ?_
        refine v_if_eq X 63 dX12_looks_35 (by decide) ⟨by omega, by omega⟩ (fun u34 => ?_) (fun u34 => ?_)
        · skip
          have hg9 : gM e M (M 96 i) = -1 := by unfold gM; rw [if_neg (by omega)]
          refine v_aload_n X 1 dX12_looks_63 rfl rfl ?_
          refine gt_X12_lands X iwX12 (Std.lt hS rfl) (Std.k hS rfl rfl) (List.mem_cons_of_mem _ bw_9_14) dX12_looks_64 100 (Std.r hS 67 rfl) ?_
          refine v_iload X 5 dX12_looks_67 rfl ?_
          refine v_iald X (M 100 i) (Std.lt hS rfl) (Std.at hS rfl rfl) (by omega) (by omega) dX12_looks_69 rfl (fun hr35 => ?_)
          refine v_iload X 4 dX12_looks_70 rfl ?_
          refine v_icmp_le X 84 dX12_looks_72 (by decide) ⟨by omega, by omega⟩ ⟨by omega, by omega⟩ (fun u36 => ?_) (fun u36 => ?_)
          · skip
            refine v_iinc X 5 [(5, .int (iz (i + 1))), (2, .int (iz (al + (M 78 (M 96 i))))), (0, .ref (ad 53)), (1, .int (iz e)), (3, .int (iz sm)), (4, .int (iz la))] dX12_looks_84 rfl (by decide) rfl ?_
            refine v_goto X 10 dX12_looks_87 (by decide) ?_
            refine v_lv [2, 3, 1, 4, 5, 0] rfl ?_
            exact ih2 (al + (M 78 (M 96 i))) sm la (i + 1) (j + 1) (by omega) (by omega) (by subst ei; rw [wN_s, ← hal]) (by omega) (by subst ei; rw [kN_s, ← hsm, hg9]; rw [if_neg (by omega)]; omega) (by omega) (by subst ei; rw [laN_s, ← hla]; omega) (by omega) (by omega)
          · skip
            refine v_aload_n X 1 dX12_looks_75 rfl rfl ?_
            refine gt_X12_lands X iwX12 (Std.lt hS rfl) (Std.k hS rfl rfl) (List.mem_cons_of_mem _ bw_9_14) dX12_looks_76 100 (Std.r hS 67 rfl) ?_
            refine v_iload X 5 dX12_looks_79 rfl ?_
            refine v_iald X (M 100 i) (Std.lt hS rfl) (Std.at hS rfl rfl) (by omega) (by omega) dX12_looks_81 rfl (fun hr37 => ?_)
            refine v_istore X [(4, .int (iz (M 100 i))), (2, .int (iz (al + (M 78 (M 96 i))))), (0, .ref (ad 53)), (1, .int (iz e)), (3, .int (iz sm)), (5, .int (iz i))] dX12_looks_82 (by decide) rfl ?_
            refine v_iinc X 5 [(5, .int (iz (i + 1))), (4, .int (iz (M 100 i))), (2, .int (iz (al + (M 78 (M 96 i))))), (0, .ref (ad 53)), (1, .int (iz e)), (3, .int (iz sm))] dX12_looks_84 rfl (by decide) rfl ?_
            refine v_goto X 10 dX12_looks_87 (by decide) ?_
            refine v_lv [3, 4, 2, 5, 1, 0] rfl ?_
            exact ih2 (al + (M 78 (M 96 i))) sm (M 100 i) (i + 1) (j + 1) (by omega) (by omega) (by subst ei; rw [wN_s, ← hal]) (by omega) (by subst ei; rw [kN_s, ← hsm, hg9]; rw [if_neg (by omega)]; omega) (by omega) (by subst ei; rw [laN_s, ← hla]; omega) (by omega) (by omega)
        · skip
          have hg9 : gM e M (M 96 i) = M 103 (M 96 i) := by unfold gM; rw [if_pos (by omega)]
          refine v_aload_n X 1 dX12_looks_38 rfl rfl ?_
          refine gt_X12_pBegin X iwX12 (Std.lt hS rfl) (Std.k hS rfl rfl) (List.mem_cons_of_mem _ bw_9_17) dX12_looks_39 103 (Std.r hS 72 rfl) ?_
          refine v_aload_n X 1 dX12_looks_42 rfl rfl ?_
          refine gt_X12_row X iwX12 (Std.lt hS rfl) (Std.k hS rfl rfl) (List.mem_cons_of_mem _ bw_9_10) dX12_looks_43 96 (Std.r hS 63 rfl) ?_
          refine v_iload X 5 dX12_looks_46 rfl ?_
          refine v_iald X (M 96 i) (Std.lt hS rfl) (Std.at hS rfl rfl) (by omega) (by omega) dX12_looks_48 rfl (fun hr38 => ?_)
          refine v_iald X (M 103 (M 96 i)) (Std.lt hS rfl) (Std.at hS rfl rfl) (by omega) (by omega) dX12_looks_49 rfl (fun hr39 => ?_)
          refine v_aload_n X 1 dX12_looks_50 rfl rfl ?_
          refine gt_X12_begins X iwX12 (Std.lt hS rfl) (Std.k hS rfl rfl) (List.mem_cons_of_mem _ bw_9_12) dX12_looks_51 98 (Std.r hS 65 rfl) ?_
          refine v_iload X 5 dX12_looks_54 rfl ?_
          refine v_iald X (M 98 i) (Std.lt hS rfl) (Std.at hS rfl rfl) (by omega) (by omega) dX12_looks_56 rfl (fun hr40 => ?_)
          refine v_icmp_ne X 63 dX12_looks_57 (by decide) ⟨by omega, by omega⟩ ⟨by omega, by omega⟩ (fun u41 => ?_) (fun u41 => ?_)
          · skip
            refine v_aload_n X 1 dX12_looks_63 rfl rfl ?_
            refine gt_X12_lands X iwX12 (Std.lt hS rfl) (Std.k hS rfl rfl) (List.mem_cons_of_mem _ bw_9_14) dX12_looks_64 100 (Std.r hS 67 rfl) ?_
            refine v_iload X 5 dX12_looks_67 rfl ?_
            refine v_iald X (M 100 i) (Std.lt hS rfl) (Std.at hS rfl rfl) (by omega) (by omega) dX12_looks_69 rfl (fun hr42 => ?_)
            refine v_iload X 4 dX12_looks_70 rfl ?_
            refine v_icmp_le X 84 dX12_looks_72 (by decide) ⟨by omega, by omega⟩ ⟨by omega, by omega⟩ (fun u43 => ?_) (fun u43 => ?_)
            · skip
              refine v_iinc X 5 [(5, .int (iz (i + 1))), (2, .int (iz (al + (M 78 (M 96 i))))), (0, .ref (ad 53)), (1, .int (iz e)), (3, .int (iz sm)), (4, .int (iz la))] dX12_looks_84 rfl (by decide) rfl ?_
              refine v_goto X 10 dX12_looks_87 (by decide) ?_
              refine v_lv [2, 3, 1, 4, 5, 0] rfl ?_
              exact ih2 (al + (M 78 (M 96 i))) sm la (i + 1) (j + 1) (by omega) (by omega) (by subst ei; rw [wN_s, ← hal]) (by omega) (by subst ei; rw [kN_s, ← hsm, hg9]; rw [if_neg (by omega)]; omega) (by omega) (by subst ei; rw [laN_s, ← hla]; omega) (by omega) (by omega)
            · skip
              refine v_aload_n X 1 dX12_looks_75 rfl rfl ?_
              refine gt_X12_lands X iwX12 (Std.lt hS rfl) (Std.k hS rfl rfl) (List.mem_cons_of_mem _ bw_9_14) dX12_looks_76 100 (Std.r hS 67 rfl) ?_
              refine v_iload X 5 dX12_looks_79 rfl ?_
              refine v_iald X (M 100 i) (Std.lt hS rfl) (Std.at hS rfl rfl) (by omega) (by omega) dX12_looks_81 rfl (fun hr44 => ?_)
              refine v_istore X [(4, .int (iz (M 100 i))), (2, .int (iz (al + (M 78 (M 96 i))))), (0, .ref (ad 53)), (1, .int (iz e)), (3, .int (iz sm)), (5, .int (iz i))] dX12_looks_82 (by decide) rfl ?_
              refine v_iinc X 5 [(5, .int (iz (i + 1))), (4, .int (iz (M 100 i))), (2, .int (iz (al + (M 78 (M 96 i))))), (0, .ref (ad 53)), (1, .int (iz e)), (3, .int (iz sm))] dX12_looks_84 rfl (by decide) rfl ?_
              refine v_goto X 10 dX12_looks_87 (by decide) ?_
              refine v_lv [3, 4, 2, 5, 1, 0] rfl ?_
              exact ih2 (al + (M 78 (M 96 i))) sm (M 100 i) (i + 1) (j + 1) (by omega) (by omega) (by subst ei; rw [wN_s, ← hal]) (by omega) (by subst ei; rw [kN_s, ← hsm, hg9]; rw [if_neg (by omega)]; omega) (by omega) (by subst ei; rw [laN_s, ← hla]; omega) (by omega) (by omega)
          · skip
            refine v_iinc X 3 [(3, .int (iz (sm + 1))), (2, .int (iz (al + (M 78 (M 96 i))))), (0, .ref (ad 53)), (1, .int (iz e)), (4, .int (iz la)), (5, .int (iz i))] dX12_looks_60 rfl (by decide) rfl ?_
            refine v_aload_n X 2 dX12_looks_63 rfl rfl ?_
            refine gt_X12_lands X iwX12 (Std.lt hS rfl) (Std.k hS rfl rfl) (List.mem_cons_of_mem _ bw_9_14) dX12_looks_64 100 (Std.r hS 67 rfl) ?_
            refine v_iload X 5 dX12_looks_67 rfl ?_
            refine v_iald X (M 100 i) (Std.lt hS rfl) (Std.at hS rfl rfl) (by omega) (by omega) dX12_looks_69 rfl (fun hr45 => ?_)
            refine v_iload X 4 dX12_looks_70 rfl ?_
            refine v_icmp_le X 84 dX12_looks_72 (by decide) ⟨by omega, by omega⟩ ⟨by omega, by omega⟩ (fun u46 => ?_) (fun u46 => ?_)
            · skip
              refine v_iinc X 5 [(5, .int (iz (i + 1))), (3, .int (iz (sm + 1))), (2, .int (iz (al + (M 78 (M 96 i))))), (0, .ref (ad 53)), (1, .int (iz e)), (4, .int (iz la))] dX12_looks_84 rfl (by decide) rfl ?_
              refine v_goto X 10 dX12_looks_87 (by decide) ?_
              refine v_lv [3, 4, 2, 1, 5, 0] rfl ?_
              exact ih2 (al + (M 78 (M 96 i))) (sm + 1) la (i + 1) (j + 1) (by omega) (by omega) (by subst ei; rw [wN_s, ← hal]) (by omega) (by subst ei; rw [kN_s, ← hsm, hg9]; rw [if_pos (by omega)]) (by omega) (by subst ei; rw [laN_s, ← hla]; omega) (by omega) (by omega)
            · skip
              refine v_aload_n X 2 dX12_looks_75 rfl rfl ?_
              refine gt_X12_lands X iwX12 (Std.lt hS rfl) (Std.k hS rfl rfl) (List.mem_cons_of_mem _ bw_9_14) dX12_looks_76 100 (Std.r hS 67 rfl) ?_
              refine v_iload X 5 dX12_looks_79 rfl ?_
              refine v_iald X (M 100 i) (Std.lt hS rfl) (Std.at hS rfl rfl) (by omega) (by omega) dX12_looks_81 rfl (fun hr47 => ?_)
              refine v_istore X [(4, .int (iz (M 100 i))), (3, .int (iz (sm + 1))), (2, .int (iz (al + (M 78 (M 96 i))))), (0, .ref (ad 53)), (1, .int (iz e)), (5, .int (iz i))] dX12_looks_82 (by decide) rfl ?_
              refine v_iinc X 5 [(5, .int (iz (i + 1))), (4, .int (iz (M 100 i))), (3, .int (iz (sm + 1))), (2, .int (iz (al + (M 78 (M 96 i))))), (0, .ref (ad 53)), (1, .int (iz e))] dX12_looks_84 rfl (by decide) rfl ?_
              refine v_goto X 10 dX12_looks_87 (by decide) ?_
              refine v_lv [4, 5, 3, 2, 1, 0] rfl ?_
              exact ih2 (al + (M 78 (M 96 i))) (sm + 1) (M 100 i) (i + 1) (j + 1) (by omega) (by omega) (by subst ei; rw [wN_s, ← hal]) (by omega) (by subst ei; rw [kN_s, ← hsm, hg9]; rw [if_pos (by omega)]) (by omega) (by subst ei; rw [laN_s, ← hla]; omega) (by omega) (by omega)
  refine v_lv [4, 5, 3, 2, 1, 0] rfl ?_
  exact hl1 _ 0 0 (-1) 0 0 (by omega) (by omega) (rfl) (by omega) (rfl) (by omega) (rfl) (by omega) (Nat.lt_succ_self _)

