/-! PLACING: the latest free minute down from t, the first free one up from l, the first minute that will do -/
def lf (tk : Int → Bool) (lo : Int) : Nat → Int → Int
  | 0, _ => -1
  | n + 1, t => if t < lo then -1 else if tk t = false then t else lf tk lo n (t - 1)
def ff (tk : Int → Bool) : Nat → Int → Int
  | 0, _ => -1
  | n + 1, l => if 240 ≤ l then -1 else if tk l = false then l else ff tk n (l + 1)
def fb (ok : Int → Bool) : Nat → Int → Int
  | 0, _ => -1
  | n + 1, b => if 240 ≤ b then -1 else if ok b = true then b else fb ok n (b + 1)
theorem lf_low {tk : Int → Bool} {lo t : Int} (h : t < lo) (n : Nat) : lf tk lo n t = -1 := by
  cases n with
  | zero => rfl
  | succ n => rw [lf, if_pos h]
theorem lf_hit {tk : Int → Bool} {lo t : Int} (h : lo ≤ t) (h1 : tk t = false) : lf tk lo (t - lo + 1).toNat t = t := by
  rw [show (t - lo + 1).toNat = (t - lo).toNat + 1 by omega, lf, if_neg (by omega), if_pos h1]
theorem lf_miss {tk : Int → Bool} {lo t : Int} (h : lo ≤ t) (h1 : tk t = true) : lf tk lo (t - lo + 1).toNat t = lf tk lo (t - 1 - lo + 1).toNat (t - 1) := by
  rw [show (t - lo + 1).toNat = (t - 1 - lo + 1).toNat + 1 by omega, lf, if_neg (by omega), if_neg (by rw [h1]; decide)]
theorem ff_high {tk : Int → Bool} {l : Int} (h : 240 ≤ l) (n : Nat) : ff tk n l = -1 := by
  cases n with
  | zero => rfl
  | succ n => rw [ff, if_pos h]
theorem ff_hit {tk : Int → Bool} {l : Int} (h : l < 240) (h1 : tk l = false) : ff tk (240 - l).toNat l = l := by
  rw [show (240 - l).toNat = (239 - l).toNat + 1 by omega, ff, if_neg (by omega), if_pos h1]
theorem ff_miss {tk : Int → Bool} {l : Int} (h : l < 240) (h1 : tk l = true) : ff tk (240 - l).toNat l = ff tk (240 - (l + 1)).toNat (l + 1) := by
  rw [show (240 - l).toNat = (240 - (l + 1)).toNat + 1 by omega, ff, if_neg (by omega), if_neg (by rw [h1]; decide)]
theorem fb_high {ok : Int → Bool} {b : Int} (h : 240 ≤ b) (n : Nat) : fb ok n b = -1 := by
  cases n with
  | zero => rfl
  | succ n => rw [fb, if_pos h]
theorem fb_hit {ok : Int → Bool} {b : Int} (h : b < 240) (h1 : ok b = true) : fb ok (240 - b).toNat b = b := by
  rw [show (240 - b).toNat = (239 - b).toNat + 1 by omega, fb, if_neg (by omega), if_pos h1]
theorem fb_miss {ok : Int → Bool} {b : Int} (h : b < 240) (h1 : ok b = false) : fb ok (240 - b).toNat b = fb ok (240 - (b + 1)).toNat (b + 1) := by
  rw [show (240 - b).toNat = (240 - (b + 1)).toNat + 1 by omega, fb, if_neg (by omega), if_neg (by rw [h1]; decide)]
def mAh (M : MI) : Int := if M 53 62 = 0 then -1 else M 76 (M 96 (M 53 62 - 1))
def mFst (M : MI) : Int := if M 53 62 = 0 then 0 else M 99 (M 53 62 - 1)
def smN (M : MI) (a : Int) : Nat → Int
  | 0 => 0
  | n + 1 => smN M a n + (if M 77 (M 96 (n : Int)) = M 77 a then 1 else 0)
theorem smN_s (M : MI) (a : Int) (n : Nat) : smN M a (n + 1) = smN M a n + (if M 77 (M 96 (n : Int)) = M 77 a then 1 else 0) := rfl
def mSm (M : MI) (a : Int) : Int := smN M a (M 53 62).toNat
def pLen (M : MI) (a b : Int) : Int := mLen M a (M 91 b)
def vR (M : MI) (a b : Int) : Int → Int := ask9 (M 94) a (M 76 a) (mAh M) (mSm M a) (M 91 b) b (M 53 51) (pLen M a b) (M 78 a)
def mV (M : MI) (a b : Int) : MI := mrow M 94 (vR M a b)
def tkN (M : MI) (m : Int) : Nat → Bool
  | 0 => false
  | n + 1 => tkN M m n || (decide (M 97 (n : Int) = m) || decide (M 100 (n : Int) = m))
theorem tkN_iff (M : MI) (m : Int) : ∀ n : Nat, tkN M m n = true ↔ ∃ k : Int, 0 ≤ k ∧ k < (n : Int) ∧ (M 97 k = m ∨ M 100 k = m)
  | 0 => ⟨fun h => (by cases h), fun ⟨k, h1, h2, _⟩ => (by omega)⟩
  | n + 1 => by
    show (tkN M m n || (decide (M 97 (n : Int) = m) || decide (M 100 (n : Int) = m))) = true ↔ _
    rw [Bool.or_eq_true, Bool.or_eq_true, decide_eq_true_iff, decide_eq_true_iff, tkN_iff M m n]
    constructor
    · rintro (⟨k, h1, h2, h3⟩ | h)
      · exact ⟨k, h1, by omega, h3⟩
      · exact ⟨(n : Int), by omega, by omega, h⟩
    · rintro ⟨k, h1, h2, h3⟩
      rcases (show k < (n : Int) ∨ k = (n : Int) by omega) with q | q
      · exact Or.inl ⟨k, h1, q, h3⟩
      · subst q; exact Or.inr h3
def mTk (M : MI) (m : Int) : Bool := tkN M m (M 53 62).toNat
theorem mTk_iff {M : MI} {m : Int} (h : 0 ≤ M 53 62) : mTk M m = true ↔ ∃ k : Int, 0 ≤ k ∧ k < M 53 62 ∧ (M 97 k = m ∨ M 100 k = m) := by
  unfold mTk
  rw [tkN_iff, show (((M 53 62).toNat : Nat) : Int) = M 53 62 by omega]
def opN (M : MI) (b : Int) : Nat → Bool
  | 0 => true
  | n + 1 => opN M b n && decide (M 92 (b + (n : Int)) = 0)
theorem opN_iff (M : MI) (b : Int) : ∀ n : Nat, opN M b n = true ↔ ∀ k : Int, b ≤ k → k < b + (n : Int) → M 92 k = 0
  | 0 => ⟨fun _ k h1 h2 => (by omega), fun _ => rfl⟩
  | n + 1 => by
    show (opN M b n && decide (M 92 (b + (n : Int)) = 0)) = true ↔ _
    rw [Bool.and_eq_true, decide_eq_true_iff, opN_iff M b n]
    constructor
    · rintro ⟨h1, h2⟩ k q1 q2
      rcases (show k < b + (n : Int) ∨ k = b + (n : Int) by omega) with q | q
      · exact h1 k q1 q
      · subst q; exact h2
    · intro h
      exact ⟨fun k q1 q2 => h k q1 (by omega), h _ (by omega) (by omega)⟩
def mT (M : MI) (a b : Int) : Int := lf (mTk M) (M 93 a) (b - M 79 a - M 93 a + 1).toNat (b - M 79 a)
def mL (M : MI) (a b : Int) : Int := ff (mTk M) (240 - (b + pLen M a b + M 80 a)).toNat (b + pLen M a b + M 80 a)
def mOk (M : MI) (a b : Int) : Bool := decide (pLen M a b ≠ 0 ∧ b + pLen M a b ≤ 240) && (opN M b (pLen M a b).toNat && (decide (M 53 62 ≤ 0 ∨ mFst M + mHeld (mV M a b) 1 ≤ b) && (decide (mRule (mV M a b) 0 = -1) && decide (mT M a b ≠ -1 ∧ mL M a b ≠ -1 ∧ mL M a b - mT M a b ≤ M 81 a - mHeld (mV M a b) 2))))
theorem mOk_iff {M : MI} {a b : Int} : mOk M a b = true ↔ (pLen M a b ≠ 0 ∧ b + pLen M a b ≤ 240) ∧ opN M b (pLen M a b).toNat = true ∧ (M 53 62 ≤ 0 ∨ mFst M + mHeld (mV M a b) 1 ≤ b) ∧ mRule (mV M a b) 0 = -1 ∧ (mT M a b ≠ -1 ∧ mL M a b ≠ -1 ∧ mL M a b - mT M a b ≤ M 81 a - mHeld (mV M a b) 2) := by
  unfold mOk
  simp only [Bool.and_eq_true, decide_eq_true_eq]
def mB (M : MI) (a : Int) : Int := fb (mOk M a) (240 - mFst M).toNat (mFst M)
theorem ask9_9 {h f : Int → Int} (hh : ∀ z, ¬ (0 ≤ z ∧ z ≤ 8) → h z = f z) (x0 x1 x2 x3 x4 x5 x6 x7 x8 : Int) : ask9 h x0 x1 x2 x3 x4 x5 x6 x7 x8 = ask9 f x0 x1 x2 x3 x4 x5 x6 x7 x8 := by
  funext z
  unfold ask9
  repeat' split
  all_goals first | rfl | exact hh z (by omega)
theorem ask9_out {f : Int → Int} {x0 x1 x2 x3 x4 x5 x6 x7 x8 z : Int} (h : ¬ (0 ≤ z ∧ z ≤ 8)) : ask9 f x0 x1 x2 x3 x4 x5 x6 x7 x8 z = f z := by
  unfold ask9
  rw [if_neg (by omega), if_neg (by omega), if_neg (by omega), if_neg (by omega), if_neg (by omega), if_neg (by omega), if_neg (by omega), if_neg (by omega), if_neg (by omega)]
theorem fAll_b {rf : Int → Bool} {mn : Int → Int} (h : ∀ k, 0 ≤ mn k ∧ mn k ≤ 9) : ∀ n : Nat, 0 ≤ fAll rf mn n ∧ fAll rf mn n ≤ 9 * (n : Int)
  | 0 => ⟨by simp [fAll], by simp [fAll]⟩
  | n + 1 => by
    have ih := fAll_b (rf := rf) h n
    have := h (n : Int)
    rw [fAll_s]
    split <;> omega
theorem mLen_b {M : MI} (hB : mBnd M) (a b : Int) : 0 ≤ mLen M a b ∧ mLen M a b ≤ 54 := by
  have h1 := hB.2.2.2.2.2.2.2.2.2 a
  have hm : ∀ k, 0 ≤ mMn M a k ∧ mMn M a k ≤ 9 := fun k => hB.2.2.2.2.2.2.2.2.1 _
  have h2 := fAll_b (rf := mRf M a) hm (M 82 a).toNat
  have h3 := fAll_b (rf := fun k => mRf M a k || mHi M a k) hm (M 82 a).toNat
  unfold mLen lenF
  repeat' split
  all_goals omega
theorem mHeld_b (M : MI) (s : Int) : 0 ≤ mHeld M s ∧ mHeld M s ≤ 30 := by
  unfold mHeld
  split <;> omega
/-- what places needs of the act and of the order so far -/
def mPre (M : MI) (a : Int) : Prop := (0 ≤ a ∧ a < 6) ∧ (0 ≤ M 53 62 ∧ M 53 62 < 6) ∧ (∀ k : Int, 0 ≤ k → k < M 53 62 → (0 ≤ M 96 k ∧ M 96 k < 6) ∧ (0 ≤ M 99 k ∧ M 99 k ≤ 240)) ∧ ((1 ≤ M 79 a ∧ M 79 a ≤ 20) ∧ (1 ≤ M 80 a ∧ M 80 a ≤ 20) ∧ (1 ≤ M 81 a ∧ M 81 a ≤ 120)) ∧ (0 ≤ M 93 a ∧ M 93 a < 240) ∧ ∀ b : Int, 0 ≤ b → b < 240 → 0 ≤ M 91 b ∧ M 91 b ≤ 9

theorem mrow_comm9 {M : MI} {f g h : Int → Int} : mrow (mrow (mrow M 94 h) 95 g) 94 f = mrow (mrow M 94 f) 95 g := by
  funext a b
  simp only [mrow]
  by_cases h1 : a = 94
  · subst h1; rfl
  · by_cases h2 : a = 95
    · subst h2; rfl
    · simp only [h1, h2, if_false]

-- places
set_option maxHeartbeats 4000000 in
set_option maxRecDepth 100000 in
theorem c_X12_places (l : Launch) (D : va_G) (cy : Nat → ClassId) {N : Nat} {sh : MS} {ad : Nat → Nat} {M L : MI} {R : MR} (hS : Std N sh R) (a : Int) (hB : mBnd M) (hT : mTxt M) (hp : mPre M a) : Ctr l D cy yX12_places wsX12_places ({ frames := 4, cells := 0, slots := 0, locals := 97 } : Room) N sh ad M L R [.ref (ad 53), .int (iz a)] (eB N sh ad L R (fun M' => mB M a ≠ -1 ∧ ∃ h g : Int → Int, (∀ z, ¬ (0 ≤ z ∧ z ≤ 8) → h z = M 94 z) ∧ M' = mu (mu (mu (mu (mu (mu (mrow (mrow M 94 h) 95 g) 96 (M 53 62) a) 97 (M 53 62) (mT M a (mB M a))) 98 (M 53 62) (mB M a)) 99 (M 53 62) (mB M a + pLen M a (mB M a))) 100 (M 53 62) (mL M a (mB M a))) 53 62 (M 53 62 + 1)) (fun M' => mB M a = -1 ∧ ∃ h g : Int → Int, (∀ z, ¬ (0 ≤ z ∧ z ≤ 8) → h z = M 94 z) ∧ M' = mrow (mrow M 94 h) 95 g)) := by
  refine Ctr.ofZ (by decide) rfl (Nat.le_of_ble_eq_true rfl) ?_
  intro K hKl hKd hRm hnm X hret
  have X : VX K cX12_places 8 wsX12_places RX12 := X
  show V K 8 0 0 N sh ad M L R [(0, .ref (ad 53)), (1, .int (iz a))] [] 0
  obtain ⟨p1, p2, p3, p4, p5, p6⟩ := hp
  have b1 := hB.1
  have hj1 : ∀ (fs : Int), (fs = mFst M) → (0 ≤ fs ∧ fs ≤ 240) →  V K 8 0 0 N sh ad M L R [(0, .ref (ad 53)), (1, .int (iz a))] [.int (iz fs)] 22 := by
    intro fs hfs hfs2
    refine v_istore_n X [(2, .int (iz fs)), (0, .ref (ad 53)), (1, .int (iz a))] dX12_places_22 rfl (by decide) rfl ?_
    refine v_iconst X dX12_places_23 ?_
    refine v_istore_n X [(3, .int (iz 0)), (2, .int (iz fs)), (0, .ref (ad 53)), (1, .int (iz a))] dX12_places_24 rfl (by decide) rfl ?_
    refine v_iconst X dX12_places_25 ?_
    refine v_istore X [(4, .int (iz 0)), (3, .int (iz 0)), (2, .int (iz fs)), (0, .ref (ad 53)), (1, .int (iz a))] dX12_places_26 (by decide) rfl ?_
    have hl2 : ∀ (n4 : Nat) (sm : Int) (i : Int) (j : Nat), (i = (j : Int)) → (i ≤ M 53 62) → (sm = smN M a j) → (0 ≤ sm ∧ sm ≤ i) → (6 - i).toNat < n4 → V K 8 0 0 N sh ad M L R [(0, .ref (ad 53)), (1, .int (iz a)), (2, .int (iz fs)), (3, .int (iz sm)), (4, .int (iz i))] [] 28 := by
      intro n4
      induction n4 with
      | zero => intro sm i j ei hi hsm hsm2 hn5; exact absurd hn5 (Nat.not_lt_zero _)
      | succ n4 ih3 =>
        intro sm i j ei hi hsm hsm2 hn5
        have q3 := p3 i (by omega)
        refine v_iload X 4 dX12_places_28 rfl ?_
        refine v_aload_n X 0 dX12_places_30 rfl rfl ?_
        refine gt_X12_placed X iwX12 (Std.lt hS rfl) (Std.k hS rfl rfl) (List.mem_cons_of_mem _ bw_38_23) dX12_places_31 (M 53 62) rfl (fun hr6 => ?_)
        refine v_icmp_ge X 67 dX12_places_34 (by decide) ⟨by omega, by omega⟩ ⟨by omega, by omega⟩ (fun u7 => ?_) (fun u7 => ?_)
        · skip
          refine v_iload_n X 2 dX12_places_67 rfl rfl ?_
          refine v_istore X [(4, .int (iz fs)), (0, .ref (ad 53)), (1, .int (iz a)), (2, .int (iz fs)), (3, .int (iz sm))] dX12_places_68 (by decide) rfl ?_
          have hl8 : ∀ (n10 : Nat) (b : Int) (h : Int → Int) (g : Int → Int), (0 ≤ b ∧ b ≤ 240) → (sm = mSm M a) → (0 ≤ sm ∧ sm ≤ 6) → (∀ z, ¬ (0 ≤ z ∧ z ≤ 8) → h z = M 94 z) → (fb (mOk M a) (240 - b).toNat b = mB M a) → (240 - b).toNat < n10 → V K 8 0 0 N sh ad (mrow (mrow M 94 h) 95 g) L R [(0, .ref (ad 53)), (1, .int (iz a)), (2, .int (iz fs)), (3, .int (iz sm)), (4, .int (iz b))] [] 70 := by
            intro n10
            induction n10 with
            | zero => intro b h g hbr hsm9 hsm8 hh hb0 hn11; exact absurd hn11 (Nat.not_lt_zero _)
            | succ n10 ih9 =>
              intro b h g hbr hsm9 hsm8 hh hb0 hn11
              refine v_iload X 4 dX12_places_70 rfl ?_
              refine v_sipush X dX12_places_72 (by decide) ?_
              refine v_icmp_ge X 384 dX12_places_75 (by decide) ⟨by omega, by omega⟩ ⟨by decide, by decide⟩ (fun u12 => ?_) (fun u12 => ?_)
              · skip
                refine v_iconst X dX12_places_384 ?_
                refine hret _ _ _ _ _ _ _ _ _ _ _ (some (.int (iz 0))) dX12_places_385 ⟨rfl, 0, ⟨by omega, by omega⟩, rfl⟩ (by decide) (by decide) (fun hmok => ?_)
                refine ⟨rfl, rfl, rfl, rfl, rfl, 0, rfl, Or.inr ⟨rfl, ?_, h, g, hh, rfl⟩⟩
                rw [← hb0, fb_high (by omega)]
              · skip
                refine v_aload_n X 0 dX12_places_78 rfl rfl ?_
                refine v_iload_n X 1 dX12_places_79 rfl rfl ?_
                refine v_aload_n X 0 dX12_places_80 rfl rfl ?_
                have q6 := p6 b (by omega) (by omega)
                refine gt_X12_bases X iwX12 (Std.lt hS rfl) (Std.k hS rfl rfl) (List.mem_cons_of_mem _ bw_9_5) dX12_places_81 91 (Std.r hS 57 rfl) ?_
                refine v_iload X 4 dX12_places_84 rfl ?_
                refine v_iald X (M 91 b) (Std.lt hS rfl) (Std.at hS rfl rfl) (by omega) (by omega) dX12_places_86 rfl (fun hr13 => ?_)
                refine v_callV X [.int (iz a), .int (iz (M 91 b))] hRm (c_X12_lengthOf _ _ _ hS a (M 91 b) (by omega) ⟨by omega, by omega⟩ hB) (gV bw_30_19 bw_30_20 bw_30_21 bw_1_5 bw_30_22) rfl ddX12_lengthOf (by decide) (Std.lt hS rfl) (Std.k hS rfl rfl) ⟨rfl, by decide⟩ (Nat.le_of_ble_eq_true rfl) dX12_places_87 (k_pI (fun r14 hr15 e16 => ?_))
                have hle : pLen M a b = r14 := by unfold pLen; exact e16.symm
                have hlb := mLen_b hB a (M 91 b)
                rw [show mLen M a (M 91 b) = r14 from e16.symm] at hlb
                refine v_istore X [(5, .int (iz r14)), (0, .ref (ad 53)), (1, .int (iz a)), (2, .int (iz fs)), (3, .int (iz sm)), (4, .int (iz b))] dX12_places_90 (by decide) rfl ?_
                refine v_iload X 0 dX12_places_92 rfl ?_
                refine v_if_eq X 378 dX12_places_94 (by decide) ⟨by omega, by omega⟩ (fun u17 => ?_) (fun u17 => ?_)
                · skip
                  refine v_iinc X 5 [(4, .int (iz (b + 1))), (5, .int (iz r14)), (0, .ref (ad 53)), (1, .int (iz a)), (2, .int (iz fs)), (3, .int (iz sm))] dX12_places_378 rfl (by decide) rfl ?_
                  refine v_goto X 70 dX12_places_381 (by decide) ?_
                  refine v_lv [2, 3, 4, 5, 0] rfl ?_
                  refine v_mem (M' := (mrow (mrow M 94 h) 95 g)) (by rfl) rfl rfl ?_
                  exact ih9 (b + 1) h g (by omega) (hsm9) (by omega) (hh) (by rw [← hb0]; exact (fb_miss (ok := mOk M a) (b := b) (by omega) (Bool.eq_false_iff.mpr (fun z => (by have z := mOk_iff.mp z; rw [hle] at z; omega)))).symm) (by omega)
                · skip
                  refine v_iload X 5 dX12_places_97 rfl ?_
                  refine v_iload X 0 dX12_places_99 rfl ?_
                  refine v_iadd X dX12_places_101 ?_
                  refine v_sipush X dX12_places_102 (by decide) ?_
                  refine v_icmp_gt X 378 dX12_places_105 (by decide) ⟨by omega, by omega⟩ ⟨by decide, by decide⟩ (fun u18 => ?_) (fun u18 => ?_)
                  · skip
                    refine v_iinc X 5 [(4, .int (iz (b + 1))), (5, .int (iz r14)), (0, .ref (ad 53)), (1, .int (iz a)), (2, .int (iz fs)), (3, .int (iz sm))] dX12_places_378 rfl (by decide) rfl ?_
                    refine v_goto X 70 dX12_places_381 (by decide) ?_
                    refine v_lv [2, 3, 4, 5, 0] rfl ?_
                    refine v_mem (M' := (mrow (mrow M 94 h) 95 g)) (by rfl) rfl rfl ?_
                    exact ih9 (b + 1) h g (by omega) (hsm9) (by omega) (hh) (by rw [← hb0]; exact (fb_miss (ok := mOk M a) (b := b) (by omega) (Bool.eq_false_iff.mpr (fun z => (by have z := mOk_iff.mp z; rw [hle] at z; omega)))).symm) (by omega)
                  · skip
                    refine v_aload_n X 1 dX12_places_108 rfl rfl ?_
                    refine v_iload X 5 dX12_places_109 rfl ?_
                    refine v_iload X 5 dX12_places_111 rfl ?_
                    refine v_iload X 0 dX12_places_113 rfl ?_
                    refine v_iadd X dX12_places_115 ?_
                    refine v_callV X [.int (iz b), .int (iz (b + r14))] hRm (c_X12_isOpen _ _ _ hS b (b + r14) (by omega) (by omega)) (gV bw_39_14 bw_39_15 bw_39_16 bw_1_5 bw_39_17) rfl ddX12_isOpen (by decide) (Std.lt hS rfl) (Std.k hS rfl rfl) ⟨rfl, by decide⟩ (Nat.le_of_ble_eq_true rfl) dX12_places_116 (k_pB (fun b19 => ?_) (fun b19 => ?_))
                    · skip
                      have hop : opN M b (r14).toNat = true := (opN_iff M b _).mpr (fun k q1 q2 => b19 k q1 (by omega))
                      refine v_if_ne X 125 dX12_places_119 (by decide) ⟨by decide, by decide⟩ (fun _ => ?_) (fun q => absurd (by decide) q)
                      have hj20 : ∀ (ah : Int), (ah = mAh M) → (inR ah) →  V K 8 0 0 N sh ad (mrow (mrow M 94 h) 95 g) L R [(0, .ref (ad 53)), (1, .int (iz a)), (2, .int (iz fs)), (3, .int (iz sm)), (4, .int (iz b)), (5, .int (iz r14))] [.int (iz ah), .int (iz b), .int (iz a), .ref (ad 53)] 156 := by
                        intro ah hah hah2
                        refine v_iload_n X 3 dX12_places_156 rfl rfl ?_
                        refine v_iload X 5 dX12_places_157 rfl ?_
                        refine v_callV X [.int (iz a), .int (iz b), .int (iz ah), .int (iz sm), .int (iz r14)] hRm (c_X12_asks2 _ _ _ hS a b ah sm r14 (by omega) (by omega) ⟨by omega, by omega⟩ ⟨by omega, by omega⟩ ⟨by omega, by omega⟩) (gV bw_39_18 bw_39_19 bw_39_20 bw_1_5 bw_39_21) rfl ddX12_asks (by decide) (Std.lt hS rfl) (Std.k hS rfl rfl) ⟨rfl, by decide⟩ (Nat.le_of_ble_eq_true rfl) dX12_places_159 (k_eV (fun M22 e21 => ?_))
                        replace e21 : M22 = (mrow (mrow (mrow M 94 h) 95 g) 94 (ask9 h a (M 76 a) ah sm (M 91 b) b (M 53 51) r14 (M 78 a))) := e21
                        subst e21
                        refine v_mem (M' := (mrow (mrow M 94 (vR M a b)) 95 g)) (by unfold vR; rw [ask9_9 hh, hah, hsm9, hle, mrow_comm9]) rfl rfl ?_
                        have hj23 : ∀ (g2 : Int → Int), (M 53 62 ≤ 0 ∨ mFst M + mHeld (mV M a b) 1 ≤ b) →  V K 8 0 0 N sh ad (mrow (mrow M 94 (vR M a b)) 95 g2) L R [(0, .ref (ad 53)), (1, .int (iz a)), (2, .int (iz fs)), (3, .int (iz sm)), (4, .int (iz b)), (5, .int (iz r14))] [] 181 := by
                          intro g2 hgap
                          refine v_aload_n X 0 dX12_places_181 rfl rfl ?_
                          refine v_iconst X dX12_places_182 ?_
                          refine v_callV X [.int (iz 0)] hRm (c_X12_ruleOf _ _ _ hS 0 ⟨by decide, by decide⟩ hT) (gV bw_40_2 bw_40_3 bw_40_4 bw_1_5 bw_40_5) rfl ddX12_ruleOf (by decide) (Std.lt hS rfl) (Std.k hS rfl rfl) ⟨rfl, by decide⟩ (Nat.le_of_ble_eq_true rfl) dX12_places_183 (k_eI (fun r24 M25 hr26 e27 => ?_))
                          obtain ⟨e27p, g28, e27m⟩ := e27
                          replace e27m : M25 = (mrow (mrow M 94 (vR M a b)) 95 g28) := e27m.trans (by first | rfl | exact mrow_mrow _ _ _ _)
                          subst e27m
                          replace e27p : r24 = mRule (mrow M 94 (vR M a b)) 0 := e27p
                          replace e27p : r24 = mRule (mV M a b) 0 := e27p
                          refine v_iconst X dX12_places_186 ?_
                          refine v_icmp_eq X 193 dX12_places_187 (by decide) ⟨by omega, by omega⟩ ⟨by decide, by decide⟩ (fun u29 => ?_) (fun u29 => ?_)
                          · skip
                            have hrul : mRule (mV M a b) 0 = -1 := by rw [← e27p]; omega
                            obtain ⟨T0, hT0⟩ : ∃ z, z = mT M a b := ⟨_, rfl⟩
                            obtain ⟨L0, hL0⟩ : ∃ z, z = mL M a b := ⟨_, rfl⟩
                            have hj30 : ∀ (tt : Int) (g3 : Int → Int), ((tt < M 93 a ∧ T0 = -1) ∨ (M 93 a ≤ tt ∧ T0 = tt)) → (-21 ≤ tt ∧ tt ≤ b) →  V K 8 0 0 N sh ad (mrow (mrow M 94 (vR M a b)) 95 g3) L R [(0, .ref (ad 53)), (1, .int (iz a)), (2, .int (iz fs)), (3, .int (iz sm)), (4, .int (iz b)), (5, .int (iz r14)), (6, .int (iz tt))] [] 230 := by
                              intro tt g3 hTT htr
                              have hj31 : ∀ (ll : Int) (g4 : Int → Int), ((240 ≤ ll ∧ L0 = -1) ∨ (ll < 240 ∧ L0 = ll)) → (b ≤ ll ∧ ll ≤ 400) →  V K 8 0 0 N sh ad (mrow (mrow M 94 (vR M a b)) 95 g4) L R [(0, .ref (ad 53)), (1, .int (iz a)), (2, .int (iz fs)), (3, .int (iz sm)), (4, .int (iz b)), (5, .int (iz r14)), (6, .int (iz tt)), (7, .int (iz ll))] [] 267 := by
                                intro ll g4 hLL hlr
                                refine v_iload X 6 dX12_places_267 rfl ?_
                                refine v_aload_n X 0 dX12_places_269 rfl rfl ?_
                                refine gt_X12_readyAt X iwX12 (Std.lt hS rfl) (Std.k hS rfl rfl) (List.mem_cons_of_mem _ bw_9_7) dX12_places_270 93 (Std.r hS 59 rfl) ?_
                                refine v_iload_n X 1 dX12_places_273 rfl rfl ?_
                                refine v_iald X (M 93 a) (Std.lt hS rfl) (Std.at hS rfl rfl) (by omega) (by omega) dX12_places_274 rfl (fun hr32 => ?_)
                                refine v_icmp_lt X 378 dX12_places_275 (by decide) ⟨by omega, by omega⟩ ⟨by omega, by omega⟩ (fun u33 => ?_) (fun u33 => ?_)
                                · skip
                                  refine v_iinc X 4 [(4, .int (iz (b + 1))), (0, .ref (ad 53)), (1, .int (iz a)), (2, .int (iz fs)), (3, .int (iz sm)), (5, .int (iz r14)), (6, .int (iz tt)), (7, .int (iz ll))] dX12_places_378 rfl (by decide) rfl ?_
                                  refine v_goto X 70 dX12_places_381 (by decide) ?_
                                  refine v_lv [1, 2, 3, 4, 0] rfl ?_
                                  refine v_mem (M' := (mrow (mrow M 94 (vR M a b)) 95 g4)) (by rfl) rfl rfl ?_
                                  exact ih9 (b + 1) (vR M a b) g4 (by omega) (hsm9) (by omega) (fun z hz => ask9_out hz) (by rw [← hb0]; exact (fb_miss (ok := mOk M a) (b := b) (by omega) (Bool.eq_false_iff.mpr (fun z => (by have z := mOk_iff.mp z; have := z.2.2.2.2; rw [← hT0, ← hL0] at this; omega)))).symm) (by omega)
                                · skip
                                  refine v_iload X 7 dX12_places_278 rfl ?_
                                  refine v_sipush X dX12_places_280 (by decide) ?_
                                  refine v_icmp_ge X 378 dX12_places_283 (by decide) ⟨by omega, by omega⟩ ⟨by decide, by decide⟩ (fun u34 => ?_) (fun u34 => ?_)
                                  · skip
                                    refine v_iinc X 4 [(4, .int (iz (b + 1))), (0, .ref (ad 53)), (1, .int (iz a)), (2, .int (iz fs)), (3, .int (iz sm)), (5, .int (iz r14)), (6, .int (iz tt)), (7, .int (iz ll))] dX12_places_378 rfl (by decide) rfl ?_
                                    refine v_goto X 70 dX12_places_381 (by decide) ?_
                                    refine v_lv [1, 2, 3, 4, 0] rfl ?_
                                    refine v_mem (M' := (mrow (mrow M 94 (vR M a b)) 95 g4)) (by rfl) rfl rfl ?_
                                    exact ih9 (b + 1) (vR M a b) g4 (by omega) (hsm9) (by omega) (fun z hz => ask9_out hz) (by rw [← hb0]; exact (fb_miss (ok := mOk M a) (b := b) (by omega) (Bool.eq_false_iff.mpr (fun z => (by have z := mOk_iff.mp z; have := z.2.2.2.2; rw [← hT0, ← hL0] at this; omega)))).symm) (by omega)
                                  · skip
                                    refine v_iload X 7 dX12_places_286 rfl ?_
                                    refine v_iload X 6 dX12_places_288 rfl ?_
                                    refine v_isub X dX12_places_290 ?_
                                    refine v_aload_n X 0 dX12_places_291 rfl rfl ?_
                                    refine gt_X12_fuel X iwX12 (Std.lt hS rfl) (Std.k hS rfl rfl) (List.mem_cons_of_mem _ bw_8_19) dX12_places_292 81 (Std.r hS 43 rfl) ?_
                                    refine v_iload_n X 1 dX12_places_295 rfl rfl ?_
                                    refine v_iald X (M 81 a) (Std.lt hS rfl) (Std.at hS rfl rfl) (by omega) (by omega) dX12_places_296 rfl (fun hr35 => ?_)
                                    refine v_aload_n X 0 dX12_places_297 rfl rfl ?_
                                    refine v_iconst X dX12_places_298 ?_
                                    refine v_callV X [.int (iz 2)] hRm (c_X12_heldOf _ _ _ hS 2 (by decide) hT) (gV bw_39_22 bw_39_23 bw_40_0 bw_1_5 bw_40_1) rfl ddX12_heldOf (by decide) (Std.lt hS rfl) (Std.k hS rfl rfl) ⟨rfl, by decide⟩ (Nat.le_of_ble_eq_true rfl) dX12_places_299 (k_eI (fun r36 M37 hr38 e39 => ?_))
                                    obtain ⟨e39p, g40, e39m⟩ := e39
                                    replace e39m : M37 = (mrow (mrow M 94 (vR M a b)) 95 g40) := e39m.trans (by first | rfl | exact mrow_mrow _ _ _ _)
                                    subst e39m
                                    replace e39p : r36 = mHeld (mrow M 94 (vR M a b)) 2 := e39p
                                    have hg8 : 0 ≤ r36 ∧ r36 ≤ 30 := by rw [e39p]; exact mHeld_b _ _
                                    replace e39p : r36 = mHeld (mV M a b) 2 := e39p
                                    refine v_isub X dX12_places_302 ?_
                                    refine v_icmp_le X 309 dX12_places_303 (by decide) ⟨by omega, by omega⟩ ⟨by omega, by omega⟩ (fun u41 => ?_) (fun u41 => ?_)
                                    · skip
                                      refine v_aload_n X 0 dX12_places_309 rfl rfl ?_
                                      refine gt_X12_row X iwX12 (Std.lt hS rfl) (Std.k hS rfl rfl) (List.mem_cons_of_mem _ bw_9_10) dX12_places_310 96 (Std.r hS 63 rfl) ?_
                                      refine v_aload_n X 0 dX12_places_313 rfl rfl ?_
                                      refine gt_X12_placed X iwX12 (Std.lt hS rfl) (Std.k hS rfl rfl) (List.mem_cons_of_mem _ bw_38_23) dX12_places_314 (M 53 62) rfl (fun hr42 => ?_)
                                      refine v_iload_n X 1 dX12_places_317 rfl rfl ?_
                                      refine v_iast X (Std.lt hS rfl) (Std.at hS rfl rfl) (by omega) (by omega) ⟨by omega, by omega⟩ dX12_places_318 ?_
                                      refine v_aload_n X 0 dX12_places_319 rfl rfl ?_
                                      refine gt_X12_takesOff X iwX12 (Std.lt hS rfl) (Std.k hS rfl rfl) (List.mem_cons_of_mem _ bw_9_11) dX12_places_320 97 (Std.r hS 64 rfl) ?_
                                      refine v_aload_n X 0 dX12_places_323 rfl rfl ?_
                                      refine gt_X12_placed X iwX12 (Std.lt hS rfl) (Std.k hS rfl rfl) (List.mem_cons_of_mem _ bw_38_23) dX12_places_324 (M 53 62) rfl (fun hr43 => ?_)
                                      refine v_iload X 6 dX12_places_327 rfl ?_
                                      refine v_iast X (Std.lt hS rfl) (Std.at hS rfl rfl) (by omega) (by omega) ⟨by omega, by omega⟩ dX12_places_329 ?_
                                      refine v_aload_n X 0 dX12_places_330 rfl rfl ?_
                                      refine gt_X12_begins X iwX12 (Std.lt hS rfl) (Std.k hS rfl rfl) (List.mem_cons_of_mem _ bw_9_12) dX12_places_331 98 (Std.r hS 65 rfl) ?_
                                      refine v_aload_n X 0 dX12_places_334 rfl rfl ?_
                                      refine gt_X12_placed X iwX12 (Std.lt hS rfl) (Std.k hS rfl rfl) (List.mem_cons_of_mem _ bw_38_23) dX12_places_335 (M 53 62) rfl (fun hr44 => ?_)
                                      refine v_iload X 4 dX12_places_338 rfl ?_
                                      refine v_iast X (Std.lt hS rfl) (Std.at hS rfl rfl) (by omega) (by omega) ⟨by omega, by omega⟩ dX12_places_340 ?_
                                      refine v_aload_n X 0 dX12_places_341 rfl rfl ?_
                                      refine gt_X12_ends X iwX12 (Std.lt hS rfl) (Std.k hS rfl rfl) (List.mem_cons_of_mem _ bw_9_13) dX12_places_342 99 (Std.r hS 66 rfl) ?_
                                      refine v_aload_n X 0 dX12_places_345 rfl rfl ?_
                                      refine gt_X12_placed X iwX12 (Std.lt hS rfl) (Std.k hS rfl rfl) (List.mem_cons_of_mem _ bw_38_23) dX12_places_346 (M 53 62) rfl (fun hr45 => ?_)
                                      refine v_iload X 4 dX12_places_349 rfl ?_
                                      refine v_iload X 5 dX12_places_351 rfl ?_
                                      refine v_iadd X dX12_places_353 ?_
                                      refine v_iast X (Std.lt hS rfl) (Std.at hS rfl rfl) (by omega) (by omega) ⟨by omega, by omega⟩ dX12_places_354 ?_
                                      refine v_aload_n X 0 dX12_places_355 rfl rfl ?_
                                      refine gt_X12_lands X iwX12 (Std.lt hS rfl) (Std.k hS rfl rfl) (List.mem_cons_of_mem _ bw_9_14) dX12_places_356 100 (Std.r hS 67 rfl) ?_
                                      refine v_aload_n X 0 dX12_places_359 rfl rfl ?_
                                      refine gt_X12_placed X iwX12 (Std.lt hS rfl) (Std.k hS rfl rfl) (List.mem_cons_of_mem _ bw_38_23) dX12_places_360 (M 53 62) rfl (fun hr46 => ?_)
                                      refine v_iload X 7 dX12_places_363 rfl ?_
                                      refine v_iast X (Std.lt hS rfl) (Std.at hS rfl rfl) (by omega) (by omega) ⟨by omega, by omega⟩ dX12_places_365 ?_
                                      refine v_aload_n X 0 dX12_places_366 rfl rfl ?_
                                      refine v_dup X dX12_places_367 rfl ?_
                                      refine gt_X12_placed X iwX12 (Std.lt hS rfl) (Std.k hS rfl rfl) (List.mem_cons_of_mem _ bw_38_23) dX12_places_368 (M 53 62) rfl (fun hr47 => ?_)
                                      refine v_iconst X dX12_places_371 ?_
                                      refine v_iadd X dX12_places_372 ?_
                                      refine pt_X12_placed X iwX12 (Std.lt hS rfl) (Std.k hS rfl rfl) (List.mem_cons_of_mem _ bw_38_23) ⟨by omega, by omega⟩ dX12_places_373 ?_
                                      refine v_iconst X dX12_places_376 ?_
                                      refine hret _ _ _ _ _ _ _ _ _ _ _ (some (.int (iz 1))) dX12_places_377 ⟨rfl, 1, ⟨by omega, by omega⟩, rfl⟩ (by decide) (by decide) (fun hmok => ?_)
                                      have hok : mOk M a b = true := mOk_iff.mpr ⟨⟨by rw [hle]; omega, by rw [hle]; omega⟩, by rw [hle]; exact hop, hgap, hrul, by omega, by omega, by rw [e39p.symm]; omega⟩
                                      have hbb : mB M a = b := by rw [← hb0, fb_hit (by omega) hok]
                                      refine ⟨rfl, rfl, rfl, rfl, rfl, 1, rfl, Or.inl ⟨rfl, by omega, ?_⟩⟩
                                      rw [hbb, ← hT0, ← hL0, hle, show tt = T0 by omega, show ll = L0 by omega]
                                      exact ⟨_, _, fun z hz => ask9_out hz, rfl⟩
                                    · skip
                                      refine v_goto X 378 dX12_places_306 (by decide) ?_
                                      refine v_iinc X 4 [(4, .int (iz (b + 1))), (0, .ref (ad 53)), (1, .int (iz a)), (2, .int (iz fs)), (3, .int (iz sm)), (5, .int (iz r14)), (6, .int (iz tt)), (7, .int (iz ll))] dX12_places_378 rfl (by decide) rfl ?_
                                      refine v_goto X 70 dX12_places_381 (by decide) ?_
                                      refine v_lv [1, 2, 3, 4, 0] rfl ?_
                                      refine v_mem (M' := (mrow (mrow M 94 (vR M a b)) 95 g40)) (by rfl) rfl rfl ?_
                                      exact ih9 (b + 1) (vR M a b) g40 (by omega) (hsm9) (by omega) (fun z hz => ask9_out hz) (by rw [← hb0]; exact (fb_miss (ok := mOk M a) (b := b) (by omega) (Bool.eq_false_iff.mpr (fun z => (by have z := mOk_iff.mp z; have := z.2.2.2.2; rw [← hT0, ← hL0] at this; rw [← e39p] at this; omega)))).symm) (by omega)
                              refine v_iload X 4 dX12_places_230 rfl ?_
                              refine v_iload X 5 dX12_places_232 rfl ?_
                              refine v_iadd X dX12_places_234 ?_
                              refine v_aload_n X 0 dX12_places_235 rfl rfl ?_
                              refine gt_X12_home X iwX12 (Std.lt hS rfl) (Std.k hS rfl rfl) (List.mem_cons_of_mem _ bw_8_18) dX12_places_236 80 (Std.r hS 42 rfl) ?_
                              refine v_iload_n X 1 dX12_places_239 rfl rfl ?_
                              refine v_iald X (M 80 a) (Std.lt hS rfl) (Std.at hS rfl rfl) (by omega) (by omega) dX12_places_240 rfl (fun hr48 => ?_)
                              refine v_iadd X dX12_places_241 ?_
                              refine v_istore X [(7, .int (iz ((b + r14) + (M 80 a)))), (0, .ref (ad 53)), (1, .int (iz a)), (2, .int (iz fs)), (3, .int (iz sm)), (4, .int (iz b)), (5, .int (iz r14)), (6, .int (iz tt))] dX12_places_242 (by decide) rfl ?_
                              have hl49 : ∀ (n51 : Nat) (lx : Int), (b ≤ lx ∧ lx ≤ 400) → (ff (mTk M) (240 - lx).toNat lx = L0) → (400 - lx).toNat < n51 → V K 8 0 0 N sh ad (mrow (mrow M 94 (vR M a b)) 95 g3) L R [(0, .ref (ad 53)), (1, .int (iz a)), (2, .int (iz fs)), (3, .int (iz sm)), (4, .int (iz b)), (5, .int (iz r14)), (6, .int (iz tt)), (7, .int (iz lx))] [] 244 := by
                                intro n51
                                induction n51 with
                                | zero => intro lx hlr hff hn52; exact absurd hn52 (Nat.not_lt_zero _)
                                | succ n51 ih50 =>
                                  intro lx hlr hff hn52
                                  refine v_iload X 7 dX12_places_244 rfl ?_
                                  refine v_sipush X dX12_places_246 (by decide) ?_
                                  refine v_icmp_ge X 267 dX12_places_249 (by decide) ⟨by omega, by omega⟩ ⟨by decide, by decide⟩ (fun u53 => ?_) (fun u53 => ?_)
                                  · skip
                                    exact hj31 lx g3 (Or.inl ⟨by omega, by rw [← hff, ff_high (by omega)]⟩) (by omega) 
                                  · skip
                                    refine v_aload_n X 0 dX12_places_252 rfl rfl ?_
                                    refine v_iload X 7 dX12_places_253 rfl ?_
                                    refine v_callV X [.int (iz lx)] hRm (c_X12_isTaken _ _ _ hS lx ⟨by omega, by omega⟩ (show 0 ≤ M 53 62 ∧ M 53 62 ≤ 6 from ⟨by omega, by omega⟩)) (gV bw_40_14 bw_40_15 bw_40_16 bw_1_5 bw_40_17) rfl ddX12_isTaken (by decide) (Std.lt hS rfl) (Std.k hS rfl rfl) ⟨rfl, by decide⟩ (Nat.le_of_ble_eq_true rfl) dX12_places_255 (k_pB (fun b54 => ?_) (fun b54 => ?_))
                                    · skip
                                      replace b54 : (∃ k : Int, 0 ≤ k ∧ k < M 53 62 ∧ (M 97 k = lx ∨ M 100 k = lx)) := b54
                                      refine v_if_eq X 267 dX12_places_258 (by decide) ⟨by decide, by decide⟩ (fun q => absurd q (by decide)) (fun _ => ?_)
                                      refine v_iinc X 7 [(7, .int (iz (lx + 1))), (0, .ref (ad 53)), (1, .int (iz a)), (2, .int (iz fs)), (3, .int (iz sm)), (4, .int (iz b)), (5, .int (iz r14)), (6, .int (iz tt))] dX12_places_261 rfl (by decide) rfl ?_
                                      refine v_goto X 244 dX12_places_264 (by decide) ?_
                                      refine v_lv [1, 2, 3, 4, 5, 6, 7, 0] rfl ?_
                                      refine v_mem (M' := (mrow (mrow M 94 (vR M a b)) 95 g3)) (by rfl) rfl rfl ?_
                                      exact ih50 (lx + 1) (by omega) (by rw [← hff]; exact (ff_miss (l := lx) (by omega) ((mTk_iff (by omega)).mpr b54)).symm) (by omega)
                                    · skip
                                      replace b54 : ¬ (∃ k : Int, 0 ≤ k ∧ k < M 53 62 ∧ (M 97 k = lx ∨ M 100 k = lx)) := b54
                                      refine v_if_eq X 267 dX12_places_258 (by decide) ⟨by decide, by decide⟩ (fun _ => ?_) (fun q => absurd (by decide) q)
                                      exact hj31 lx g3 (Or.inr ⟨by omega, by rw [← hff, ff_hit (by omega) (Bool.eq_false_iff.mpr (fun z => b54 ((mTk_iff (by omega)).mp z)))]⟩) (by omega) 
                              refine v_lv [1, 2, 3, 4, 5, 6, 7, 0] rfl ?_
                              refine v_mem (M' := (mrow (mrow M 94 (vR M a b)) 95 g3)) (by rfl) rfl rfl ?_
                              exact hl49 _ ((b + r14) + (M 80 a)) (by omega) (by rw [hL0]; unfold mL; rw [hle]) (Nat.lt_succ_self _)
                            refine v_iload X 4 dX12_places_193 rfl ?_
                            refine v_aload_n X 0 dX12_places_195 rfl rfl ?_
                            refine gt_X12_climb X iwX12 (Std.lt hS rfl) (Std.k hS rfl rfl) (List.mem_cons_of_mem _ bw_8_17) dX12_places_196 79 (Std.r hS 41 rfl) ?_
                            refine v_iload_n X 1 dX12_places_199 rfl rfl ?_
                            refine v_iald X (M 79 a) (Std.lt hS rfl) (Std.at hS rfl rfl) (by omega) (by omega) dX12_places_200 rfl (fun hr55 => ?_)
                            refine v_isub X dX12_places_201 ?_
                            refine v_istore X [(6, .int (iz (b - (M 79 a)))), (0, .ref (ad 53)), (1, .int (iz a)), (2, .int (iz fs)), (3, .int (iz sm)), (4, .int (iz b)), (5, .int (iz r14))] dX12_places_202 (by decide) rfl ?_
                            have hl56 : ∀ (n58 : Nat) (t : Int) (g5 : Int → Int), (-1 ≤ t + 20 ∧ t ≤ b - 1 ∧ M 93 a - 1 ≤ t ∨ (t < M 93 a ∧ -21 ≤ t ∧ t ≤ b)) → (lf (mTk M) (M 93 a) (t - M 93 a + 1).toNat t = T0) → (t + 22).toNat < n58 → V K 8 0 0 N sh ad (mrow (mrow M 94 (vR M a b)) 95 g5) L R [(0, .ref (ad 53)), (1, .int (iz a)), (2, .int (iz fs)), (3, .int (iz sm)), (4, .int (iz b)), (5, .int (iz r14)), (6, .int (iz t))] [] 204 := by
                              intro n58
                              induction n58 with
                              | zero => intro t g5 htr hlf hn59; exact absurd hn59 (Nat.not_lt_zero _)
                              | succ n58 ih57 =>
                                intro t g5 htr hlf hn59
                                refine v_iload X 6 dX12_places_204 rfl ?_
                                refine v_aload_n X 0 dX12_places_206 rfl rfl ?_
                                refine gt_X12_readyAt X iwX12 (Std.lt hS rfl) (Std.k hS rfl rfl) (List.mem_cons_of_mem _ bw_9_7) dX12_places_207 93 (Std.r hS 59 rfl) ?_
                                refine v_iload_n X 1 dX12_places_210 rfl rfl ?_
                                refine v_iald X (M 93 a) (Std.lt hS rfl) (Std.at hS rfl rfl) (by omega) (by omega) dX12_places_211 rfl (fun hr60 => ?_)
                                refine v_icmp_lt X 230 dX12_places_212 (by decide) ⟨by omega, by omega⟩ ⟨by omega, by omega⟩ (fun u61 => ?_) (fun u61 => ?_)
                                · skip
                                  exact hj30 t g5 (Or.inl ⟨by omega, by rw [← hlf, lf_low (by omega)]⟩) (by omega) 
                                · skip
                                  refine v_aload_n X 0 dX12_places_215 rfl rfl ?_
                                  refine v_iload X 6 dX12_places_216 rfl ?_
                                  refine v_callV X [.int (iz t)] hRm (c_X12_isTaken _ _ _ hS t ⟨by omega, by omega⟩ (show 0 ≤ M 53 62 ∧ M 53 62 ≤ 6 from ⟨by omega, by omega⟩)) (gV bw_40_14 bw_40_15 bw_40_16 bw_1_5 bw_40_17) rfl ddX12_isTaken (by decide) (Std.lt hS rfl) (Std.k hS rfl rfl) ⟨rfl, by decide⟩ (Nat.le_of_ble_eq_true rfl) dX12_places_218 (k_pB (fun b62 => ?_) (fun b62 => ?_))
                                  · skip
                                    replace b62 : (∃ k : Int, 0 ≤ k ∧ k < M 53 62 ∧ (M 97 k = t ∨ M 100 k = t)) := b62
                                    refine v_if_eq X 230 dX12_places_221 (by decide) ⟨by decide, by decide⟩ (fun q => absurd q (by decide)) (fun _ => ?_)
                                    refine v_iinc X 6 [(6, .int (iz (t + (-1)))), (0, .ref (ad 53)), (1, .int (iz a)), (2, .int (iz fs)), (3, .int (iz sm)), (4, .int (iz b)), (5, .int (iz r14))] dX12_places_224 rfl (by decide) rfl ?_
                                    refine v_goto X 204 dX12_places_227 (by decide) ?_
                                    refine v_lv [1, 2, 3, 4, 5, 6, 0] rfl ?_
                                    refine v_mem (M' := (mrow (mrow M 94 (vR M a b)) 95 g5)) (by rfl) rfl rfl ?_
                                    exact ih57 (t + (-1)) g5 (by omega) (by rw [← hlf]; exact (lf_miss (t := t) (by omega) ((mTk_iff (by omega)).mpr b62)).symm) (by omega)
                                  · skip
                                    replace b62 : ¬ (∃ k : Int, 0 ≤ k ∧ k < M 53 62 ∧ (M 97 k = t ∨ M 100 k = t)) := b62
                                    refine v_if_eq X 230 dX12_places_221 (by decide) ⟨by decide, by decide⟩ (fun _ => ?_) (fun q => absurd (by decide) q)
                                    exact hj30 t g5 (Or.inr ⟨by omega, by rw [← hlf, lf_hit (by omega) (Bool.eq_false_iff.mpr (fun z => b62 ((mTk_iff (by omega)).mp z)))]⟩) (by omega) 
                            refine v_lv [1, 2, 3, 4, 5, 6, 0] rfl ?_
                            refine v_mem (M' := (mrow (mrow M 94 (vR M a b)) 95 g28)) (by rfl) rfl rfl ?_
                            exact hl56 _ (b - (M 79 a)) g28 (by omega) (by rw [hT0]; rfl) (Nat.lt_succ_self _)
                          · skip
                            refine v_goto X 378 dX12_places_190 (by decide) ?_
                            refine v_iinc X 4 [(4, .int (iz (b + 1))), (0, .ref (ad 53)), (1, .int (iz a)), (2, .int (iz fs)), (3, .int (iz sm)), (5, .int (iz r14))] dX12_places_378 rfl (by decide) rfl ?_
                            refine v_goto X 70 dX12_places_381 (by decide) ?_
                            refine v_lv [1, 2, 3, 4, 0] rfl ?_
                            refine v_mem (M' := (mrow (mrow M 94 (vR M a b)) 95 g28)) (by rfl) rfl rfl ?_
                            exact ih9 (b + 1) (vR M a b) g28 (by omega) (hsm9) (by omega) (fun z hz => ask9_out hz) (by rw [← hb0]; exact (fb_miss (ok := mOk M a) (b := b) (by omega) (Bool.eq_false_iff.mpr (fun z => (by have z := mOk_iff.mp z; have := z.2.2.2.1; rw [← e27p] at this; omega)))).symm) (by omega)
                        refine v_aload_n X 0 dX12_places_162 rfl rfl ?_
                        refine gt_X12_placed X iwX12 (Std.lt hS rfl) (Std.k hS rfl rfl) (List.mem_cons_of_mem _ bw_38_23) dX12_places_163 (M 53 62) rfl (fun hr63 => ?_)
                        refine v_if_le X 181 dX12_places_166 (by decide) ⟨by omega, by omega⟩ (fun u64 => ?_) (fun u64 => ?_)
                        · skip
                          exact hj23 g (Or.inl (by omega)) 
                        · skip
                          refine v_iload X 4 dX12_places_169 rfl ?_
                          refine v_iload_n X 2 dX12_places_171 rfl rfl ?_
                          refine v_aload_n X 0 dX12_places_172 rfl rfl ?_
                          refine v_iconst X dX12_places_173 ?_
                          refine v_callV X [.int (iz 1)] hRm (c_X12_heldOf _ _ _ hS 1 (by decide) hT) (gV bw_39_22 bw_39_23 bw_40_0 bw_1_5 bw_40_1) rfl ddX12_heldOf (by decide) (Std.lt hS rfl) (Std.k hS rfl rfl) ⟨rfl, by decide⟩ (Nat.le_of_ble_eq_true rfl) dX12_places_174 (k_eI (fun r65 M66 hr67 e68 => ?_))
                          obtain ⟨e68p, g69, e68m⟩ := e68
                          replace e68m : M66 = (mrow (mrow M 94 (vR M a b)) 95 g69) := e68m.trans (by first | rfl | exact mrow_mrow _ _ _ _)
                          subst e68m
                          replace e68p : r65 = mHeld (mrow M 94 (vR M a b)) 1 := e68p
                          have hg9 : 0 ≤ r65 ∧ r65 ≤ 30 := by rw [e68p]; exact mHeld_b _ _
                          replace e68p : r65 = mHeld (mV M a b) 1 := e68p
                          refine v_iadd X dX12_places_177 ?_
                          refine v_icmp_lt X 378 dX12_places_178 (by decide) ⟨by omega, by omega⟩ ⟨by omega, by omega⟩ (fun u70 => ?_) (fun u70 => ?_)
                          · skip
                            refine v_iinc X 4 [(4, .int (iz (b + 1))), (0, .ref (ad 53)), (1, .int (iz a)), (2, .int (iz fs)), (3, .int (iz sm)), (5, .int (iz r14))] dX12_places_378 rfl (by decide) rfl ?_
                            refine v_goto X 70 dX12_places_381 (by decide) ?_
                            refine v_lv [1, 2, 3, 4, 0] rfl ?_
                            refine v_mem (M' := (mrow (mrow M 94 (vR M a b)) 95 g69)) (by rfl) rfl rfl ?_
                            exact ih9 (b + 1) (vR M a b) g69 (by omega) (hsm9) (by omega) (fun z hz => ask9_out hz) (by rw [← hb0]; exact (fb_miss (ok := mOk M a) (b := b) (by omega) (Bool.eq_false_iff.mpr (fun z => (by have z := mOk_iff.mp z; have := z.2.2.1; rw [← e68p] at this; omega)))).symm) (by omega)
                          · skip
                            exact hj23 g69 (by rw [← e68p]; omega) 
                      refine v_aload_n X 1 dX12_places_125 rfl rfl ?_
                      refine v_iload_n X 2 dX12_places_126 rfl rfl ?_
                      refine v_iload X 5 dX12_places_127 rfl ?_
                      refine v_aload_n X 1 dX12_places_129 rfl rfl ?_
                      refine gt_X12_placed X iwX12 (Std.lt hS rfl) (Std.k hS rfl rfl) (List.mem_cons_of_mem _ bw_38_23) dX12_places_130 (M 53 62) rfl (fun hr71 => ?_)
                      refine v_if_ne X 140 dX12_places_133 (by decide) ⟨by omega, by omega⟩ (fun u72 => ?_) (fun u72 => ?_)
                      · skip
                        refine v_aload_n X 1 dX12_places_140 rfl rfl ?_
                        refine gt_X12_kind X iwX12 (Std.lt hS rfl) (Std.k hS rfl rfl) (List.mem_cons_of_mem _ bw_8_14) dX12_places_141 76 (Std.r hS 38 rfl) ?_
                        have q7 := p3 (M 53 62 - 1) (by omega) (by omega)
                        refine v_aload_n X 1 dX12_places_144 rfl rfl ?_
                        refine gt_X12_row X iwX12 (Std.lt hS rfl) (Std.k hS rfl rfl) (List.mem_cons_of_mem _ bw_9_10) dX12_places_145 96 (Std.r hS 63 rfl) ?_
                        refine v_aload_n X 1 dX12_places_148 rfl rfl ?_
                        refine gt_X12_placed X iwX12 (Std.lt hS rfl) (Std.k hS rfl rfl) (List.mem_cons_of_mem _ bw_38_23) dX12_places_149 (M 53 62) rfl (fun hr73 => ?_)
                        refine v_iconst X dX12_places_152 ?_
                        refine v_isub X dX12_places_153 ?_
                        refine v_iald X (M 96 ((M 53 62) - 1)) (Std.lt hS rfl) (Std.at hS rfl rfl) (by omega) (by omega) dX12_places_154 rfl (fun hr74 => ?_)
                        refine v_iald X (M 76 (M 96 ((M 53 62) - 1))) (Std.lt hS rfl) (Std.at hS rfl rfl) (by omega) (by omega) dX12_places_155 rfl (fun hr75 => ?_)
                        refine v_lv [1, 2, 3, 4, 5, 0] rfl ?_
                        exact hj20 (M 76 (M 96 ((M 53 62) - 1))) (by unfold mAh; rw [if_neg (by omega)]) (⟨by omega, by omega⟩) 
                      · skip
                        refine v_iconst X dX12_places_136 ?_
                        refine v_goto X 156 dX12_places_137 (by decide) ?_
                        refine v_lv [1, 2, 3, 4, 5, 0] rfl ?_
                        exact hj20 (-1) (by unfold mAh; rw [if_pos (by omega)]) (⟨by omega, by omega⟩) 
                    · skip
                      have hnop : ¬ opN M b (r14).toNat = true := fun z => b19 (fun k q1 q2 => (opN_iff M b _).mp z k q1 (by omega))
                      refine v_if_ne X 125 dX12_places_119 (by decide) ⟨by decide, by decide⟩ (fun q => absurd q (by decide)) (fun _ => ?_)
                      refine v_goto X 378 dX12_places_122 (by decide) ?_
                      refine v_iinc X 5 [(4, .int (iz (b + 1))), (5, .int (iz r14)), (0, .ref (ad 53)), (1, .int (iz a)), (2, .int (iz fs)), (3, .int (iz sm))] dX12_places_378 rfl (by decide) rfl ?_
                      refine v_goto X 70 dX12_places_381 (by decide) ?_
                      refine v_lv [2, 3, 4, 5, 0] rfl ?_
                      refine v_mem (M' := (mrow (mrow M 94 h) 95 g)) (by rfl) rfl rfl ?_
                      exact ih9 (b + 1) h g (by omega) (hsm9) (by omega) (hh) (by rw [← hb0]; exact (fb_miss (ok := mOk M a) (b := b) (by omega) (Bool.eq_false_iff.mpr (fun z => (by have z := mOk_iff.mp z; exact hnop (by have := z.2.1; rw [hle] at this; exact this))))).symm) (by omega)
          refine v_lv [1, 2, 3, 4, 0] rfl ?_
          refine v_mem (M' := (mrow (mrow M 94 (M 94)) 95 (M 95))) (by rw [mrow_self]; exact (mrow_self M 95).symm) rfl rfl ?_
          exact hl8 _ fs (M 94) (M 95) (by omega) (by unfold mSm; rw [show (M 53 62).toNat = j by omega]; exact hsm) (by omega) (fun _ _ => rfl) (by rw [hfs]; rfl) (Nat.lt_succ_self _)
        · skip
          have q4 := q3 (by omega)
          refine v_aload_n X 0 dX12_places_37 rfl rfl ?_
          refine gt_X12_pilot X iwX12 (Std.lt hS rfl) (Std.k hS rfl rfl) (List.mem_cons_of_mem _ bw_8_15) dX12_places_38 77 (Std.r hS 39 rfl) ?_
          refine v_aload_n X 0 dX12_places_41 rfl rfl ?_
          refine gt_X12_row X iwX12 (Std.lt hS rfl) (Std.k hS rfl rfl) (List.mem_cons_of_mem _ bw_9_10) dX12_places_42 96 (Std.r hS 63 rfl) ?_
          refine v_iload X 4 dX12_places_45 rfl ?_
          refine v_iald X (M 96 i) (Std.lt hS rfl) (Std.at hS rfl rfl) (by omega) (by omega) dX12_places_47 rfl (fun hr76 => ?_)
          refine v_iald X (M 77 (M 96 i)) (Std.lt hS rfl) (Std.at hS rfl rfl) (by omega) (by omega) dX12_places_48 rfl (fun hr77 => ?_)
          refine v_aload_n X 0 dX12_places_49 rfl rfl ?_
          refine gt_X12_pilot X iwX12 (Std.lt hS rfl) (Std.k hS rfl rfl) (List.mem_cons_of_mem _ bw_8_15) dX12_places_50 77 (Std.r hS 39 rfl) ?_
          refine v_iload_n X 1 dX12_places_53 rfl rfl ?_
          refine v_iald X (M 77 a) (Std.lt hS rfl) (Std.at hS rfl rfl) (by omega) (by omega) dX12_places_54 rfl (fun hr78 => ?_)
          refine v_icmp_ne X 61 dX12_places_55 (by decide) ⟨by omega, by omega⟩ ⟨by omega, by omega⟩ (fun u79 => ?_) (fun u79 => ?_)
          · skip
            refine v_iinc X 4 [(4, .int (iz (i + 1))), (0, .ref (ad 53)), (1, .int (iz a)), (2, .int (iz fs)), (3, .int (iz sm))] dX12_places_61 rfl (by decide) rfl ?_
            refine v_goto X 28 dX12_places_64 (by decide) ?_
            refine v_lv [1, 2, 3, 4, 0] rfl ?_
            exact ih3 sm (i + 1) (j + 1) (by omega) (by omega) (by rw [smN_s, ← hsm]; subst ei; (first | rw [if_pos (by omega)] | rw [if_neg (by omega)]) <;> omega) (by omega) (by omega)
          · skip
            refine v_iinc X 3 [(3, .int (iz (sm + 1))), (0, .ref (ad 53)), (1, .int (iz a)), (2, .int (iz fs)), (4, .int (iz i))] dX12_places_58 rfl (by decide) rfl ?_
            refine v_iinc X 4 [(4, .int (iz (i + 1))), (3, .int (iz (sm + 1))), (0, .ref (ad 53)), (1, .int (iz a)), (2, .int (iz fs))] dX12_places_61 rfl (by decide) rfl ?_
            refine v_goto X 28 dX12_places_64 (by decide) ?_
            refine v_lv [2, 3, 4, 1, 0] rfl ?_
            exact ih3 (sm + 1) (i + 1) (j + 1) (by omega) (by omega) (by rw [smN_s, ← hsm]; subst ei; (first | rw [if_pos (by omega)] | rw [if_neg (by omega)]) <;> omega) (by omega) (by omega)
    refine v_lv [3, 4, 2, 1, 0] rfl ?_
    exact hl2 _ 0 0 0 (by omega) (by omega) (rfl) (by omega) (Nat.lt_succ_self _)
  refine v_aload_n X 0 dX12_places_0 rfl rfl ?_
  refine gt_X12_placed X iwX12 (Std.lt hS rfl) (Std.k hS rfl rfl) (List.mem_cons_of_mem _ bw_38_23) dX12_places_1 (M 53 62) rfl (fun hr80 => ?_)
  refine v_if_ne X 11 dX12_places_4 (by decide) ⟨by omega, by omega⟩ (fun u81 => ?_) (fun u81 => ?_)
  · skip
    refine v_aload_n X 0 dX12_places_11 rfl rfl ?_
    refine gt_X12_ends X iwX12 (Std.lt hS rfl) (Std.k hS rfl rfl) (List.mem_cons_of_mem _ bw_9_13) dX12_places_12 99 (Std.r hS 66 rfl) ?_
    refine v_aload_n X 0 dX12_places_15 rfl rfl ?_
    refine gt_X12_placed X iwX12 (Std.lt hS rfl) (Std.k hS rfl rfl) (List.mem_cons_of_mem _ bw_38_23) dX12_places_16 (M 53 62) rfl (fun hr82 => ?_)
    refine v_iconst X dX12_places_19 ?_
    refine v_isub X dX12_places_20 ?_
    refine v_iald X (M 99 ((M 53 62) - 1)) (Std.lt hS rfl) (Std.at hS rfl rfl) (by omega) (by omega) dX12_places_21 rfl (fun hr83 => ?_)
    exact hj1 (M 99 ((M 53 62) - 1)) (by unfold mFst; rw [if_neg (by omega)]) (by have := p3 (M 53 62 - 1) (by omega) (by omega); omega) 
  · skip
    refine v_iconst X dX12_places_7 ?_
    refine v_goto X 22 dX12_places_8 (by decide) ?_
    exact hj1 0 (by unfold mFst; rw [if_pos (by omega)]) (by omega) 

