/-! THE CALLS: the class's, then the model's: one answer, and alike again -/
def Two (y1 : MethodName) (w1 : List Cond) (m1 : Room) (y2 : MethodName) (w2 : List Cond) (m2 : Room) (As : List Value) : Prop :=
  ∀ (l : Launch) (D : va_G) (cy : Nat → ClassId) (N : Nat) (sh : MS) (ad : Nat → Nat) (M L : MI) (R : MR), Inv N sh M L R → iDis N sh R →
    Ctr l D cy y1 w1 m1 N sh ad M L R (.ref (ad 0) :: As) (fun rv N1 sh1 ad1 M1 L1 R1 => ∃ r : Int, rv = some (.int (iz r)) ∧ inR r ∧ (∀ j : Nat, j < N → ad1 j = ad j) ∧ Std N1 sh1 R1 ∧
      Ctr l D cy y2 w2 m2 N1 sh1 ad1 M1 L1 R1 (.ref (ad1 53) :: As) (fun rv2 N2 sh2 ad2 M2 L2 R2 => ∃ r2 : Int, rv2 = some (.int (iz r2)) ∧ inR r2 ∧ r = r2 ∧ ad2 = ad1 ∧ Inv N2 sh2 M2 L2 R2 ∧ iDis N2 sh2 R2))
section TwoS
variable {N : Nat} {sh : MS} {M M1 L : MI} {R : MR}
theorem fr_B (e : ∀ i : Nat, 53 ≤ i → i ≤ 111 → M1 i = M i) (h : mBnd M) : mBnd M1 := by
  unfold mBnd at *
  rw [e 53 (by decide) (by decide), e 87 (by decide) (by decide), e 84 (by decide) (by decide), e 85 (by decide) (by decide), e 83 (by decide) (by decide), e 82 (by decide) (by decide)]
  exact h
theorem fr_A (e : ∀ i : Nat, 53 ≤ i → i ≤ 111 → M1 i = M i) (h : mActs M) : mActs M1 := by
  unfold mActs at *
  rw [e 53 (by decide) (by decide), e 79 (by decide) (by decide), e 80 (by decide) (by decide), e 81 (by decide) (by decide), e 78 (by decide) (by decide)]
  exact h
theorem fr_T (e : ∀ i : Nat, 53 ≤ i → i ≤ 111 → M1 i = M i) (h : mTxt M) : mTxt M1 := by
  unfold mTxt mRel at *
  rw [e 53 (by decide) (by decide), e 61 (by decide) (by decide), e 62 (by decide) (by decide), e 63 (by decide) (by decide), e 64 (by decide) (by decide), e 65 (by decide) (by decide), e 66 (by decide) (by decide), e 69 (by decide) (by decide), e 70 (by decide) (by decide), e 71 (by decide) (by decide), e 73 (by decide) (by decide), e 74 (by decide) (by decide)]
  exact h
theorem fr_F (e : ∀ i : Nat, 53 ≤ i → i ≤ 111 → M1 i = M i) (h : ∀ k : Int, 0 ≤ k → k < M 53 53 → FactOk (M 88 k) (M 89 k) (M 90 k)) : ∀ k : Int, 0 ≤ k → k < M1 53 53 → FactOk (M1 88 k) (M1 89 k) (M1 90 k) := by
  rw [e 53 (by decide) (by decide), e 88 (by decide) (by decide), e 89 (by decide) (by decide), e 90 (by decide) (by decide)]
  exact h
theorem in_B (h : Inv N sh M L R) : mBnd M := h.2.2.2.2.2.1.2.1
theorem in_O (h : Inv N sh M L R) : ShowOk M R sh N := h.2.2.2.2.2.1.1
theorem in_A (h : Inv N sh M L R) : mActs M := by
  intro a a0 a1
  have h61 := h.2.2.2.2.2.1.2.2.1
  have q := (h.2.2.2.2.2.1.2.2.2.2.2.2.2 a a0 (by omega)).1
  have k := (actId (in_O h) a0 (by omega)).2.2.2.2.2.1
  obtain ⟨_, _, q2, q3, q4, q5, _⟩ := q
  rw [← q2, ← q3, ← q4, ← q5]
  exact ⟨⟨k.2.2.2.1, k.2.2.2.2.1, k.2.2.2.2.2⟩, k.2.2.1⟩
theorem in_F (h : Inv N sh M L R) : (∀ k : Int, 0 ≤ k → k < M 9 3 → FactOk (M 10 k) (M 11 k) (M 12 k) ∧ M 10 k ≠ 3) ∧ ∀ k : Int, 0 ≤ k → k < M 53 53 → FactOk (M 88 k) (M 89 k) (M 90 k) := by
  have f := h.2.2.2.2.2.2.1
  exact ⟨fun k k0 k1 => (f.2.2 k k0 k1).1, fun k k0 k1 => (f.2.2 k k0 (by have := f.1; omega)).2.1⟩
theorem in_Z (h : Inv N sh M L R) : 0 ≤ M 9 3 ∧ M 9 3 ≤ 100 := h.2.2.2.2.2.2.1.2.1
theorem in_T (h : Inv N sh M L R) : ∃ t : Nat, R 0 8 = some t ∧ isT t ∧ cTxt M t ∧ mTxt M ∧ (0 ≤ M 53 18 ∧ M 53 18 ≤ 1) := by
  obtain ⟨t, t', _, r8, _, hx⟩ := h.2.2.2.2.1
  have q := txt_of h r8
  exact ⟨t, r8, q.2, TxEq_c q.1, TxEq_m q.1, by rcases hx.1 with e | e <;> rw [e] <;> decide⟩
theorem fig_big (h : Inv N sh M L R) {a : Int} {f : Nat} (a0 : 0 ≤ a) (a1 : a < M 6 1) (hf : R (aId R a) 6 = some f) : 112 ≤ f := by
  obtain ⟨f2, k1, k2, _⟩ := (actId (in_O h) a0 a1).2.2.2.2.2.2
  have ef : f2 = f := Option.some.inj (k1.symm.trans hf)
  omega
end TwoS

theorem two_feed {a b c d e : Int} (ha : inR a) (hb : inR b) (hc : inR c) (hd : inR d) (he : inR e) : Two yX11_feed wsX11_feed ({ frames := 1, cells := 0, slots := 0, locals := 22 } : Room) yX12_feed wsX12_feed ({ frames := 1, cells := 0, slots := 0, locals := 22 } : Room) [.int (iz a), .int (iz b), .int (iz c), .int (iz d), .int (iz e)] := by
  intro l D cy N sh ad M L R h hD
  refine Ctr.mono (c_X11_feed l D cy h.1 a b c d e ha hb hc hd he h.2.2.1.2.1) ?_
  rintro rv N1 sh1 ad1 M1 L1 R1 ⟨rfl, rfl, rfl, rfl, rfl, r, rfl, hr, p1⟩
  have eF : ∀ i : Nat, 53 ≤ i → i ≤ 111 → M1 i = M i := fun i i0 i1 => by
    have p0 := p1
    split at p0
    · rw [p0.2, mrow_i _ _ (by omega), mu_i _ _ _ (by omega)]
    · rw [p0.2]
  refine ⟨r, rfl, hr, fun _ _ => rfl, h.1, ?_⟩
  refine Ctr.mono (c_X12_feed l D cy h.1 a b c d e ha hb hc hd he (by rw [eF 53 (by decide) (by decide), ← h.2.2.1.1]; exact h.2.2.1.2.1)) ?_
  rintro rv2 N2 sh2 ad2 M2 L2 R2 ⟨rfl, rfl, rfl, rfl, rfl, r2, rfl, hr2, p2⟩
  have q := s_feed h p1 p2
  exact ⟨r2, rfl, hr2, q.1, rfl, q.2, hD⟩
theorem two_back {a : Int} (ha : inR a) : Two yX11_back wsX11_back ({ frames := 1, cells := 0, slots := 0, locals := 22 } : Room) yX12_back wsX12_back ({ frames := 0, cells := 0, slots := 0, locals := 0 } : Room) [.int (iz a)] := by
  intro l D cy N sh ad M L R h hD
  refine Ctr.mono (c_X11_back l D cy h.1 a ha ) ?_
  rintro rv N1 sh1 ad1 M1 L1 R1 ⟨rfl, rfl, rfl, rfl, rfl, r, rfl, hr, p1⟩
  have eF : ∀ i : Nat, 53 ≤ i → i ≤ 111 → M1 i = M i := fun i i0 i1 => by
    have p0 := p1
    split at p0
    · rw [p0.2, mu_i _ _ _ (by omega)]
    · rw [p0.2]
  refine ⟨r, rfl, hr, fun _ _ => rfl, h.1, ?_⟩
  refine Ctr.mono (c_X12_back l D cy h.1 a ha ) ?_
  rintro rv2 N2 sh2 ad2 M2 L2 R2 ⟨rfl, rfl, rfl, rfl, rfl, r2, rfl, hr2, p2⟩
  have q := s_back h p1 p2
  exact ⟨r2, rfl, hr2, q.1, rfl, q.2, hD⟩
theorem two_falls {a : Int} (ha : inR a) : Two yX11_falls wsX11_falls ({ frames := 2, cells := 0, slots := 0, locals := 44 } : Room) yX12_falls wsX12_falls ({ frames := 0, cells := 0, slots := 0, locals := 0 } : Room) [.int (iz a)] := by
  intro l D cy N sh ad M L R h hD
  refine Ctr.mono (c_X11_falls l D cy h.1 a ha ) ?_
  rintro rv N1 sh1 ad1 M1 L1 R1 ⟨rfl, rfl, rfl, rfl, rfl, r, rfl, hr, p1⟩
  have eF : ∀ i : Nat, 53 ≤ i → i ≤ 111 → M1 i = M i := fun i i0 i1 => by
    have p0 := p1
    split at p0
    · rw [p0.2, mrow_i _ _ (by omega), mu_i _ _ _ (by omega)]
    · rw [p0.2]
  refine ⟨r, rfl, hr, fun _ _ => rfl, h.1, ?_⟩
  refine Ctr.mono (c_X12_falls l D cy h.1 a ha ) ?_
  rintro rv2 N2 sh2 ad2 M2 L2 R2 ⟨rfl, rfl, rfl, rfl, rfl, r2, rfl, hr2, p2⟩
  have q := s_falls h p1 p2
  exact ⟨r2, rfl, hr2, q.1, rfl, q.2, hD⟩
theorem two_cell {a b : Int} (ha : inR a) (hb : inR b) : Two yX11_cell wsX11_cell ({ frames := 1, cells := 0, slots := 0, locals := 22 } : Room) yX12_cell wsX12_cell ({ frames := 0, cells := 0, slots := 0, locals := 0 } : Room) [.int (iz a), .int (iz b)] := by
  intro l D cy N sh ad M L R h hD
  refine Ctr.mono (c_X11_cell l D cy h.1 a b ha hb ) ?_
  rintro rv N1 sh1 ad1 M1 L1 R1 ⟨rfl, rfl, rfl, rfl, rfl, r, rfl, hr, p1⟩
  have eF : ∀ i : Nat, 53 ≤ i → i ≤ 111 → M1 i = M i := fun i i0 i1 => by
    have p0 := p1
    split at p0
    · rw [p0.2, mu_i _ _ _ (by omega)]
    · rw [p0.2]
  refine ⟨r, rfl, hr, fun _ _ => rfl, h.1, ?_⟩
  refine Ctr.mono (c_X12_cell l D cy h.1 a b ha hb (fr_B eF (in_B h))) ?_
  rintro rv2 N2 sh2 ad2 M2 L2 R2 ⟨rfl, rfl, rfl, rfl, rfl, r2, rfl, hr2, p2⟩
  have q := s_cell h p1 p2
  exact ⟨r2, rfl, hr2, q.1, rfl, q.2, hD⟩
theorem two_ground {a b : Int} (ha : inR a) (hb : inR b) : Two yX11_ground wsX11_ground ({ frames := 1, cells := 0, slots := 0, locals := 22 } : Room) yX12_ground wsX12_ground ({ frames := 0, cells := 0, slots := 0, locals := 0 } : Room) [.int (iz a), .int (iz b)] := by
  intro l D cy N sh ad M L R h hD
  refine Ctr.mono (c_X11_ground l D cy h.1 a b ha hb ) ?_
  rintro rv N1 sh1 ad1 M1 L1 R1 ⟨rfl, rfl, rfl, rfl, rfl, r, rfl, hr, p1⟩
  have eF : ∀ i : Nat, 53 ≤ i → i ≤ 111 → M1 i = M i := fun i i0 i1 => by
    have p0 := p1
    split at p0
    · rw [p0.2, mu_i _ _ _ (by omega), mu_i _ _ _ (by omega)]
    · rw [p0.2]
  refine ⟨r, rfl, hr, fun _ _ => rfl, h.1, ?_⟩
  refine Ctr.mono (c_X12_ground l D cy h.1 a b ha hb ) ?_
  rintro rv2 N2 sh2 ad2 M2 L2 R2 ⟨rfl, rfl, rfl, rfl, rfl, r2, rfl, hr2, p2⟩
  have q := s_ground h p1 p2
  exact ⟨r2, rfl, hr2, q.1, rfl, q.2, hD⟩
theorem two_base {a b : Int} (ha : inR a) (hb : inR b) : Two yX11_base wsX11_base ({ frames := 2, cells := 0, slots := 0, locals := 42 } : Room) yX12_base wsX12_base ({ frames := 1, cells := 0, slots := 0, locals := 23 } : Room) [.int (iz a), .int (iz b)] := by
  intro l D cy N sh ad M L R h hD
  refine Ctr.mono (c_X11_base l D cy h.1 a b ha hb (in_Z h)) ?_
  rintro rv N1 sh1 ad1 M1 L1 R1 ⟨rfl, rfl, rfl, rfl, rfl, r, rfl, hr, p1⟩
  have eF : ∀ i : Nat, 53 ≤ i → i ≤ 111 → M1 i = M i := fun i i0 i1 => by
    have p0 := p1
    split at p0
    · rw [p0.2, mu_i _ _ _ (by omega), mu_i _ _ _ (by omega), mu_i _ _ _ (by omega), mu_i _ _ _ (by omega)]
    · rw [p0.2]
  refine ⟨r, rfl, hr, fun _ _ => rfl, h.1, ?_⟩
  refine Ctr.mono (c_X12_base l D cy h.1 a b ha hb (fr_B eF (in_B h))) ?_
  rintro rv2 N2 sh2 ad2 M2 L2 R2 ⟨rfl, rfl, rfl, rfl, rfl, r2, rfl, hr2, p2⟩
  have q := s_base h p1 p2
  exact ⟨r2, rfl, hr2, q.1, rfl, q.2, hD⟩
theorem two_birds {a b : Int} (ha : inR a) (hb : inR b) : Two yX11_birds wsX11_birds ({ frames := 2, cells := 0, slots := 0, locals := 45 } : Room) yX12_birds wsX12_birds ({ frames := 1, cells := 0, slots := 0, locals := 23 } : Room) [.int (iz a), .int (iz b)] := by
  intro l D cy N sh ad M L R h hD
  refine Ctr.mono (c_X11_birds l D cy h.1 a b ha hb (in_Z h)) ?_
  rintro rv N1 sh1 ad1 M1 L1 R1 ⟨rfl, rfl, rfl, rfl, rfl, r, rfl, hr, p1⟩
  have eF : ∀ i : Nat, 53 ≤ i → i ≤ 111 → M1 i = M i := fun i i0 i1 => by
    have p0 := p1
    split at p0
    · rw [p0.2, mu_i _ _ _ (by omega), mu_i _ _ _ (by omega), mu_i _ _ _ (by omega), mu_i _ _ _ (by omega)]
    · rw [p0.2]
  refine ⟨r, rfl, hr, fun _ _ => rfl, h.1, ?_⟩
  refine Ctr.mono (c_X12_birds l D cy h.1 a b ha hb (fr_B eF (in_B h))) ?_
  rintro rv2 N2 sh2 ad2 M2 L2 R2 ⟨rfl, rfl, rfl, rfl, rfl, r2, rfl, hr2, p2⟩
  have q := s_birds h p1 p2
  exact ⟨r2, rfl, hr2, q.1, rfl, q.2, hD⟩
theorem two_away {a b : Int} (ha : inR a) (hb : inR b) : Two yX11_away wsX11_away ({ frames := 2, cells := 0, slots := 0, locals := 45 } : Room) yX12_away wsX12_away ({ frames := 1, cells := 0, slots := 0, locals := 23 } : Room) [.int (iz a), .int (iz b)] := by
  intro l D cy N sh ad M L R h hD
  refine Ctr.mono (c_X11_away l D cy h.1 a b ha hb (in_Z h)) ?_
  rintro rv N1 sh1 ad1 M1 L1 R1 ⟨rfl, rfl, rfl, rfl, rfl, r, rfl, hr, p1⟩
  have eF : ∀ i : Nat, 53 ≤ i → i ≤ 111 → M1 i = M i := fun i i0 i1 => by
    have p0 := p1
    split at p0
    · rw [p0.2, mu_i _ _ _ (by omega), mu_i _ _ _ (by omega), mu_i _ _ _ (by omega), mu_i _ _ _ (by omega)]
    · rw [p0.2]
  refine ⟨r, rfl, hr, fun _ _ => rfl, h.1, ?_⟩
  refine Ctr.mono (c_X12_away l D cy h.1 a b ha hb (fr_B eF (in_B h))) ?_
  rintro rv2 N2 sh2 ad2 M2 L2 R2 ⟨rfl, rfl, rfl, rfl, rfl, r2, rfl, hr2, p2⟩
  have q := s_away h p1 p2
  exact ⟨r2, rfl, hr2, q.1, rfl, q.2, hD⟩
theorem two_ready {a b : Int} (ha : inR a) (hb : inR b) : Two yX11_ready wsX11_ready ({ frames := 2, cells := 0, slots := 0, locals := 42 } : Room) yX12_ready wsX12_ready ({ frames := 1, cells := 0, slots := 0, locals := 23 } : Room) [.int (iz a), .int (iz b)] := by
  intro l D cy N sh ad M L R h hD
  refine Ctr.mono (c_X11_ready l D cy h.1 a b ha hb (in_Z h) (in_O h)) ?_
  rintro rv N1 sh1 ad1 M1 L1 R1 ⟨rfl, rfl, rfl, rfl, rfl, r, rfl, hr, p1⟩
  have eF : ∀ i : Nat, 53 ≤ i → i ≤ 111 → M1 i = M i := fun i i0 i1 => by
    have p0 := p1
    split at p0
    · rw [p0.2, mu_i _ _ _ (by omega), mu_i _ _ _ (by omega), mu_i _ _ _ (by omega), mu_i _ _ _ (by omega)]
    · rw [p0.2]
  refine ⟨r, rfl, hr, fun _ _ => rfl, h.1, ?_⟩
  refine Ctr.mono (c_X12_ready l D cy h.1 a b ha hb (fr_B eF (in_B h))) ?_
  rintro rv2 N2 sh2 ad2 M2 L2 R2 ⟨rfl, rfl, rfl, rfl, rfl, r2, rfl, hr2, p2⟩
  have q := s_ready h p1 p2
  exact ⟨r2, rfl, hr2, q.1, rfl, q.2, hD⟩
theorem two_baseIn {m n : Int} (hm : inR m) (hn : inR n) : Two yX11_baseIn wsX11_baseIn ({ frames := 3, cells := 0, slots := 0, locals := 59 } : Room) yX12_baseIn wsX12_baseIn ({ frames := 1, cells := 0, slots := 0, locals := 23 } : Room) [.int (iz m), .int (iz n)] := by
  intro l D cy N sh ad M L R h hD
  refine Ctr.mono (c_X11_baseIn l D cy h.1 m n hm hn (in_Z h) (in_F h).1) ?_
  rintro rv N1 sh1 ad1 M1 L1 R1 ⟨rfl, rfl, rfl, rfl, rfl, r, rfl, hr, p1⟩
  have eF : ∀ i : Nat, 53 ≤ i → i ≤ 111 → M1 i = M i := fun i i0 i1 => by
    have p0 := p1
    split at p0
    · rw [p0.2, mrow_i _ _ (by omega), mrow_i _ _ (by omega), mrow_i _ _ (by omega)]
    · rw [p0.2]
  refine ⟨r, rfl, hr, fun _ _ => rfl, h.1, ?_⟩
  refine Ctr.mono (c_X12_baseIn l D cy h.1 m n hm hn (fr_B eF (in_B h)) (fr_F eF (in_F h).2)) ?_
  rintro rv2 N2 sh2 ad2 M2 L2 R2 ⟨rfl, rfl, rfl, rfl, rfl, r2, rfl, hr2, p2⟩
  have q := s_baseIn h p1 p2
  exact ⟨r2, rfl, hr2, q.1, rfl, q.2, hD⟩
theorem two_place : Two yX11_place wsX11_place ({ frames := 0, cells := 0, slots := 0, locals := 0 } : Room) yX12_place wsX12_place ({ frames := 0, cells := 0, slots := 0, locals := 0 } : Room) [] := by
  intro l D cy N sh ad M L R h hD
  refine Ctr.mono (c_X11_place l D cy h.1   ) ?_
  rintro rv N1 sh1 ad1 M1 L1 R1 ⟨rfl, rfl, rfl, rfl, rfl, rfl, r, rfl, hr, p1⟩
  refine ⟨r, rfl, hr, fun _ _ => rfl, h.1, ?_⟩
  refine Ctr.mono (c_X12_place l D cy h.1   ) ?_
  rintro rv2 N2 sh2 ad2 M2 L2 R2 ⟨rfl, rfl, rfl, rfl, rfl, rfl, r2, rfl, hr2, p2⟩
  exact ⟨r2, rfl, hr2, p1.trans (h.2.2.2.1.trans p2.symm), rfl, h, hD⟩
theorem two_refused {a b : Int} (ha : inR a) (hb : inR b) : Two yX11_refused wsX11_refused ({ frames := 1, cells := 0, slots := 0, locals := 23 } : Room) yX12_refused wsX12_refused ({ frames := 1, cells := 0, slots := 0, locals := 22 } : Room) [.int (iz a), .int (iz b)] := by
  intro l D cy N sh ad M L R h hD
  refine Ctr.mono (c_X11_refused l D cy h.1 a b ha hb (in_O h)) ?_
  rintro rv N1 sh1 ad1 M1 L1 R1 ⟨rfl, rfl, rfl, rfl, rfl, rfl, r, rfl, hr, p1⟩
  refine ⟨r, rfl, hr, fun _ _ => rfl, h.1, ?_⟩
  refine Ctr.mono (c_X12_refused l D cy h.1 a b ha hb (in_B h)) ?_
  rintro rv2 N2 sh2 ad2 M2 L2 R2 ⟨rfl, rfl, rfl, rfl, rfl, rfl, r2, rfl, hr2, p2⟩
  exact ⟨r2, rfl, hr2, s_refused h p1 p2, rfl, h, hD⟩
theorem two_length {a b : Int} (ha : inR a) (hb : inR b) : Two yX11_length wsX11_length ({ frames := 3, cells := 0, slots := 0, locals := 72 } : Room) yX12_length wsX12_length ({ frames := 2, cells := 0, slots := 0, locals := 49 } : Room) [.int (iz a), .int (iz b)] := by
  intro l D cy N sh ad M L R h hD
  refine Ctr.mono (c_X11_length l D cy h.1 a b ha hb (in_O h)) ?_
  rintro rv N1 sh1 ad1 M1 L1 R1 ⟨rfl, rfl, rfl, rfl, rfl, rfl, r, rfl, hr, p1⟩
  refine ⟨r, rfl, hr, fun _ _ => rfl, h.1, ?_⟩
  refine Ctr.mono (c_X12_length l D cy h.1 a b ha hb (in_B h)) ?_
  rintro rv2 N2 sh2 ad2 M2 L2 R2 ⟨rfl, rfl, rfl, rfl, rfl, rfl, r2, rfl, hr2, p2⟩
  exact ⟨r2, rfl, hr2, s_length h p1 p2, rfl, h, hD⟩
theorem in_P {N : Nat} {sh : MS} {M L : MI} {R : MR} (h : Inv N sh M L R) : (0 ≤ M 47 5 ∧ M 47 5 ≤ 6) ∧ (0 ≤ M 53 69 ∧ M 53 69 ≤ 6) := by
  obtain ⟨wo, q, ho, hz, hp⟩ := h.2.2.2.2.2.2.2
  have h6 := (in_O h).1
  have hl := okF_le (n := 6) (by omega) ho
  have h5 : M 47 5 = (q.length : Int) := hz.1.1
  rcases hp with ⟨_, hp⟩ | ⟨_, _, h69, hq⟩
  · have h9 : M 53 69 = (q.length : Int) := hp.1.2
    omega
  · rw [h69, h5, hq]
    decide
theorem two_order {a : Int} (ha : inR a) : Two yX11_order wsX11_order ({ frames := 1, cells := 0, slots := 0, locals := 22 } : Room) yX12_order wsX12_order ({ frames := 0, cells := 0, slots := 0, locals := 0 } : Room) [.int (iz a)] := by
  intro l D cy N sh ad M L R h hD
  have hp : (0 ≤ M 47 5 ∧ M 47 5 ≤ 6) ∧ (0 ≤ M 53 69 ∧ M 53 69 ≤ 6) := in_P h
  refine Ctr.mono (c_X11_order l D cy h.1 a ha hp.1) ?_
  rintro rv N1 sh1 ad1 M1 L1 R1 ⟨rfl, rfl, rfl, rfl, rfl, rfl, r, rfl, hr, p1⟩
  refine ⟨r, rfl, hr, fun _ _ => rfl, h.1, ?_⟩
  refine Ctr.mono (c_X12_order l D cy h.1 a ha hp.2) ?_
  rintro rv2 N2 sh2 ad2 M2 L2 R2 ⟨rfl, rfl, rfl, rfl, rfl, rfl, r2, rfl, hr2, p2⟩
  exact ⟨r2, rfl, hr2, s_order h p1 p2, rfl, h, hD⟩
theorem two_told {a b : Int} (ha : inR a) (hb : inR b) : Two yX11_told wsX11_told ({ frames := 1, cells := 0, slots := 0, locals := 21 } : Room) yX12_told wsX12_told ({ frames := 2, cells := 0, slots := 0, locals := 42 } : Room) [.int (iz a), .int (iz b)] := by
  intro l D cy N sh ad M L R h hD
  refine Ctr.mono (c_X11_told l D cy h.1 a b ha hb (told_in h).1) ?_
  rintro rv N1 sh1 ad1 M1 L1 R1 ⟨rfl, rfl, rfl, rfl, rfl, rfl, r, rfl, hr, p1⟩
  refine ⟨r, rfl, hr, fun _ _ => rfl, h.1, ?_⟩
  refine Ctr.mono (c_X12_told2 l D cy h.1 a b ha hb (in_B h) ((told_in h).2 a)) ?_
  rintro rv2 N2 sh2 ad2 M2 L2 R2 ⟨rfl, rfl, rfl, rfl, rfl, rfl, r2, rfl, hr2, p2⟩
  exact ⟨r2, rfl, hr2, s_told h p1 p2, rfl, h, hD⟩
theorem two_runway {a : Int} (ha : inR a) : Two yX11_runway wsX11_runway ({ frames := 2, cells := 0, slots := 0, locals := 42 } : Room) yX12_runway wsX12_runway ({ frames := 2, cells := 0, slots := 0, locals := 42 } : Room) [.int (iz a)] := by
  intro l D cy N sh ad M L R h hD
  refine Ctr.mono (c_X11_runway l D cy h.1 a ha ) ?_
  rintro rv N1 sh1 ad1 M1 L1 R1 ⟨rfl, rfl, rfl, rfl, rfl, rfl, r, rfl, hr, p1⟩
  refine ⟨r, rfl, hr, fun _ _ => rfl, h.1, ?_⟩
  refine Ctr.mono (c_X12_runway l D cy h.1 a ha (in_B h)) ?_
  rintro rv2 N2 sh2 ad2 M2 L2 R2 ⟨rfl, rfl, rfl, rfl, rfl, rfl, r2, rfl, hr2, p2⟩
  exact ⟨r2, rfl, hr2, s_runway h p1 p2, rfl, h, hD⟩
theorem two_count {a : Int} (ha : inR a) : Two yX11_count wsX11_count ({ frames := 2, cells := 0, slots := 0, locals := 35 } : Room) yX12_count wsX12_count ({ frames := 2, cells := 0, slots := 0, locals := 42 } : Room) [.int (iz a)] := by
  intro l D cy N sh ad M L R h hD
  obtain ⟨t, r8, ht, xC, xM, xL⟩ := in_T h
  refine Ctr.mono (c_X11_count l D cy h.1 a ha t r8 (Std.lt h.1 (by rcases ht with e | e <;> subst e <;> rfl)) (Std.k h.1 (by rcases ht with e | e <;> subst e <;> rfl) (by rcases ht with e | e <;> subst e <;> rfl))) ?_
  rintro rv N1 sh1 ad1 M1 L1 R1 ⟨rfl, rfl, rfl, rfl, rfl, rfl, r, rfl, hr, p1⟩
  refine ⟨r, rfl, hr, fun _ _ => rfl, h.1, ?_⟩
  refine Ctr.mono (c_X12_count l D cy h.1 a ha (in_B h) xL) ?_
  rintro rv2 N2 sh2 ad2 M2 L2 R2 ⟨rfl, rfl, rfl, rfl, rfl, rfl, r2, rfl, hr2, p2⟩
  exact ⟨r2, rfl, hr2, s_count h r8 p1 p2, rfl, h, hD⟩
theorem two_plan {n : Int} (hn : inR n) : Two yX11_plan wsX11_plan ({ frames := 12, cells := 0, slots := 0, locals := 286 } : Room) yX12_plan wsX12_plan ({ frames := 6, cells := 0, slots := 0, locals := 150 } : Room) [.int (iz n)] := by
  intro l D cy N sh ad M L R h hD
  obtain ⟨t, r8, ht, xC, xM, xL⟩ := in_T h
  refine Ctr.mono (c_X11_plan l D cy h.1 n hn t ht r8 (in_O h) (in_Z h) (in_F h).1 xC) ?_
  rintro rv N1 sh1 ad1 M1 L1 R1 ⟨rfl, rfl, rfl, rfl, r, rfl, hr, p1⟩
  have eF : ∀ i : Nat, 53 ≤ i → i ≤ 111 → M1 i = M i := fun i i0 i1 => by
    rcases p1 with ⟨hn0, hR, Mp, hp, _, _, _, hC⟩ | ⟨hn0, _, hR, hM⟩
    · rw [hC.1 i (by omega), hp.1 i (by omega) (by omega) (by omega), mu_i _ _ _ (by omega), mu_i _ _ _ (by omega), mu_i _ _ _ (by omega), mrow_i _ _ (by omega), mrow_i _ _ (by omega), mrow_i _ _ (by omega), mrow_i _ _ (by omega), mrow_i _ _ (by omega)]
    · rw [hM]
  have hR : R1 = mu R 31 7 (some t) ∨ R1 = R := by
    rcases p1 with ⟨hn0, hR, Mp, hp, _, _, _, hC⟩ | ⟨hn0, _, hR, hM⟩
    · exact Or.inl hR
    · exact Or.inr hR
  have hS1 : Std N1 sh1 R1 := by
    rcases hR with hR | hR
    · rw [hR]; exact Std_31 h.1
    · rw [hR]; exact h.1
  have hD1 : iDis N1 sh1 R1 := by
    rcases hR with hR | hR
    · rw [hR]; exact iDis_mu hD (Or.inr rfl)
    · rw [hR]; exact hD
  refine ⟨r, rfl, hr, fun _ _ => rfl, hS1, ?_⟩
  refine Ctr.mono (c_X12_plan l D cy hS1 n hn (fr_B eF (in_B h)) (fr_T eF xM) (fr_F eF (in_F h).2) (fr_A eF (in_A h))) ?_
  rintro rv2 N2 sh2 ad2 M2 L2 R2 ⟨rfl, rfl, rfl, rfl, rfl, r2, rfl, hr2, p2⟩
  have q := s_plan h ht r8 p1 p2
  exact ⟨r2, rfl, hr2, q.1, rfl, q.2, hD1⟩
theorem two_mend {n : Int} (hn : inR n) : Two yX11_mend wsX11_mend ({ frames := 12, cells := 0, slots := 0, locals := 286 } : Room) yX12_mend wsX12_mend ({ frames := 6, cells := 0, slots := 0, locals := 150 } : Room) [.int (iz n)] := by
  intro l D cy N sh ad M L R h hD
  obtain ⟨t, r8, ht, xC, xM, xL⟩ := in_T h
  refine Ctr.mono (c_X11_mend l D cy h.1 n hn t ht r8 (in_O h) (in_Z h) (in_F h).1 xC) ?_
  rintro rv N1 sh1 ad1 M1 L1 R1 ⟨rfl, rfl, rfl, rfl, r, rfl, hr, p1⟩
  have eF : ∀ i : Nat, 53 ≤ i → i ≤ 111 → M1 i = M i := fun i i0 i1 => by
    rcases p1 with ⟨hn0, hR, Mp, hp, _, _, _, hC⟩ | ⟨hn0, _, hR, hM⟩
    · rw [hC.1 i (by omega), hp.1 i (by omega) (by omega) (by omega)]
    · rw [hM]
  have hR : R1 = mu R 31 7 (some t) ∨ R1 = R := by
    rcases p1 with ⟨hn0, hR, Mp, hp, _, _, _, hC⟩ | ⟨hn0, _, hR, hM⟩
    · exact Or.inl hR
    · exact Or.inr hR
  have hS1 : Std N1 sh1 R1 := by
    rcases hR with hR | hR
    · rw [hR]; exact Std_31 h.1
    · rw [hR]; exact h.1
  have hD1 : iDis N1 sh1 R1 := by
    rcases hR with hR | hR
    · rw [hR]; exact iDis_mu hD (Or.inr rfl)
    · rw [hR]; exact hD
  refine ⟨r, rfl, hr, fun _ _ => rfl, hS1, ?_⟩
  refine Ctr.mono (c_X12_mend l D cy hS1 n hn (fr_B eF (in_B h)) (fr_T eF xM) (fr_F eF (in_F h).2) (fr_A eF (in_A h))) ?_
  rintro rv2 N2 sh2 ad2 M2 L2 R2 ⟨rfl, rfl, rfl, rfl, rfl, r2, rfl, hr2, p2⟩
  have q := s_mend h ht r8 p1 p2
  exact ⟨r2, rfl, hr2, q.1, rfl, q.2, hD1⟩
theorem two_out {a m n : Int} (ha : inR a) (hm : inR m) (hn : inR n) : Two yX11_out wsX11_out ({ frames := 5, cells := 0, slots := 0, locals := 116 } : Room) yX12_out wsX12_out ({ frames := 3, cells := 0, slots := 0, locals := 74 } : Room) [.int (iz a), .int (iz m), .int (iz n)] := by
  intro l D cy N sh ad M L R h hD
  obtain ⟨t, r8, ht, xC, xM, xL⟩ := in_T h
  refine Ctr.mono (c_X11_out l D cy h.1 a m n ha hm hn t ht r8 (in_O h) (in_Z h) (in_F h).1 xC) ?_
  rintro rv N1 sh1 ad1 M1 L1 R1 ⟨rfl, rfl, rfl, rfl, r, rfl, hr, p1⟩
  have eF : ∀ i : Nat, 53 ≤ i → i ≤ 111 → M1 i = M i := fun i i0 i1 => by
    rcases p1 with ⟨_, _, hn0, hR, Mp, hp, _, hC⟩ | ⟨hn0, _, hR, hM⟩
    · rw [hC.1 i (by omega), hp.1 i (by omega) (by omega) (by omega)]
    · rw [hM]
  have hR : R1 = mu R 31 7 (some t) ∨ R1 = R := by
    rcases p1 with ⟨_, _, hn0, hR, Mp, hp, _, hC⟩ | ⟨hn0, _, hR, hM⟩
    · exact Or.inl hR
    · exact Or.inr hR
  have hS1 : Std N1 sh1 R1 := by
    rcases hR with hR | hR
    · rw [hR]; exact Std_31 h.1
    · rw [hR]; exact h.1
  have hD1 : iDis N1 sh1 R1 := by
    rcases hR with hR | hR
    · rw [hR]; exact iDis_mu hD (Or.inr rfl)
    · rw [hR]; exact hD
  refine ⟨r, rfl, hr, fun _ _ => rfl, hS1, ?_⟩
  refine Ctr.mono (c_X12_out l D cy hS1 a m n ha hm hn (fr_B eF (in_B h)) (fr_T eF xM) (fr_F eF (in_F h).2)) ?_
  rintro rv2 N2 sh2 ad2 M2 L2 R2 ⟨rfl, rfl, rfl, rfl, rfl, r2, rfl, hr2, p2⟩
  have q := s_out h r8 p1 p2
  exact ⟨r2, rfl, hr2, q.1, rfl, q.2, hD1⟩
theorem two_can {a b c d n : Int} (ha : inR a) (hb : inR b) (hc : inR c) (hd : inR d) (hn : inR n) : Two yX11_can wsX11_can ({ frames := 5, cells := 0, slots := 0, locals := 127 } : Room) yX12_can wsX12_can ({ frames := 5, cells := 0, slots := 0, locals := 124 } : Room) [.int (iz a), .int (iz b), .int (iz c), .int (iz d), .int (iz n)] := by
  intro l D cy N sh ad M L R h hD
  obtain ⟨t, r8, ht, xC, xM, xL⟩ := in_T h
  refine Ctr.mono (c_X11_can l D cy h.1 a b c d n ha hb hc hd hn t ht r8 (in_O h) (in_Z h) (in_F h).1 xC) ?_
  rintro rv N1 sh1 ad1 M1 L1 R1 ⟨rfl, rfl, rfl, rfl, r, rfl, hr, p1⟩
  have eF : ∀ i : Nat, 53 ≤ i → i ≤ 111 → M1 i = M i := fun i i0 i1 => by
    rcases p1 with ⟨hn0, hR, Mp, hp, _, hC⟩ | ⟨hn0, _, hR, hM⟩
    · rw [hC.1 i (by omega), hp.1 i (by omega) (by omega) (by omega)]
    · rw [hM]
  have hR : R1 = mu R 31 7 (some t) ∨ R1 = R := by
    rcases p1 with ⟨hn0, hR, Mp, hp, _, hC⟩ | ⟨hn0, _, hR, hM⟩
    · exact Or.inl hR
    · exact Or.inr hR
  have hS1 : Std N1 sh1 R1 := by
    rcases hR with hR | hR
    · rw [hR]; exact Std_31 h.1
    · rw [hR]; exact h.1
  have hD1 : iDis N1 sh1 R1 := by
    rcases hR with hR | hR
    · rw [hR]; exact iDis_mu hD (Or.inr rfl)
    · rw [hR]; exact hD
  refine ⟨r, rfl, hr, fun _ _ => rfl, hS1, ?_⟩
  refine Ctr.mono (c_X12_can l D cy hS1 a b c d n ha hb hc hd hn (fr_B eF (in_B h)) (fr_T eF xM) (fr_F eF (in_F h).2) (fr_A eF (in_A h))) ?_
  rintro rv2 N2 sh2 ad2 M2 L2 R2 ⟨rfl, rfl, rfl, rfl, rfl, r2, rfl, hr2, p2⟩
  have q := s_can h r8 p1 p2
  exact ⟨r2, rfl, hr2, q.1, rfl, q.2, hD1⟩
theorem rd_24 {l : Launch} {D : va_G} {cy : Nat → ClassId} {N : Nat} {sh : MS} {ad : Nat → Nat} {M L : MI} {R : MR} (h : Inv N sh M L R) (hD : iDis N sh R) (r8 : R 0 8 = some 17) (r9 : R 0 9 = some 24) : Ctr l D cy yX11_read wsX11_read ({ frames := 8, cells := 0, slots := 0, locals := 173 } : Room) N sh ad M L R [.ref (ad 0)] (fun rv N1 sh1 ad1 M1 L1 R1 => ∃ r : Int, rv = some (.int (iz r)) ∧ inR r ∧ (∀ j : Nat, j < N → ad1 j = ad j) ∧ Std N1 sh1 R1 ∧
      Ctr l D cy yX12_read wsX12_read ({ frames := 5, cells := 0, slots := 0, locals := 116 } : Room) N1 sh1 ad1 M1 L1 R1 [.ref (ad1 53)] (fun rv2 N2 sh2 ad2 M2 L2 R2 => ∃ r2 : Int, rv2 = some (.int (iz r2)) ∧ inR r2 ∧ r = r2 ∧ ad2 = ad1 ∧ Inv N2 sh2 M2 L2 R2 ∧ iDis N2 sh2 R2)) := by
  refine Ctr.mono (c_X11_read_24 l D cy h.1 h.2.2.1.2.1 r8 r9) ?_
  rintro rv N1 sh1 ad1 M1 L1 R1 ⟨rfl, rfl, rfl, rfl, r, rfl, hr, p1⟩
  have p0 := p1
  obtain ⟨j, _, _, _, _, _, hfr, _, _, hR⟩ := p0
  have e53 : M1 53 = M 53 := hfr 53 (by decide) (by decide) (by decide) (by decide) (by decide) (by decide)
  obtain ⟨_, _, _, _, _, hl⟩ := in_T h
  have hS1 : Std N1 sh1 R1 := by
    rw [hR]
    split
    · exact Std_0 (Std_0 h.1 (Or.inl rfl)) (Or.inr rfl)
    · exact h.1
  have hD1 : iDis N1 sh1 R1 := by
    rw [hR]
    split
    · exact iDis_mu (iDis_mu hD (Or.inl rfl)) (Or.inl rfl)
    · exact hD
  refine ⟨r, rfl, hr, fun _ _ => rfl, hS1, ?_⟩
  refine Ctr.mono (c_X12_read l D cy hS1 (M 29) (M 25) (M 26) (M 27) (M 28) (by rw [e53, ← h.2.2.1.1]; exact h.2.2.1.2.1) (by rw [e53]; exact hl) h.2.1) ?_
  rintro rv2 N2 sh2 ad2 M2 L2 R2 ⟨rfl, rfl, rfl, rfl, r2, rfl, hr2, p2, pL⟩
  have q := s_read h (A := 17) (B := 24) (Or.inl ⟨rfl, rfl⟩) r8 p1 p2 pL
  exact ⟨r2, rfl, hr2, q.1, rfl, q.2, hD1⟩
theorem rd_17 {l : Launch} {D : va_G} {cy : Nat → ClassId} {N : Nat} {sh : MS} {ad : Nat → Nat} {M L : MI} {R : MR} (h : Inv N sh M L R) (hD : iDis N sh R) (r8 : R 0 8 = some 24) (r9 : R 0 9 = some 17) : Ctr l D cy yX11_read wsX11_read ({ frames := 8, cells := 0, slots := 0, locals := 173 } : Room) N sh ad M L R [.ref (ad 0)] (fun rv N1 sh1 ad1 M1 L1 R1 => ∃ r : Int, rv = some (.int (iz r)) ∧ inR r ∧ (∀ j : Nat, j < N → ad1 j = ad j) ∧ Std N1 sh1 R1 ∧
      Ctr l D cy yX12_read wsX12_read ({ frames := 5, cells := 0, slots := 0, locals := 116 } : Room) N1 sh1 ad1 M1 L1 R1 [.ref (ad1 53)] (fun rv2 N2 sh2 ad2 M2 L2 R2 => ∃ r2 : Int, rv2 = some (.int (iz r2)) ∧ inR r2 ∧ r = r2 ∧ ad2 = ad1 ∧ Inv N2 sh2 M2 L2 R2 ∧ iDis N2 sh2 R2)) := by
  refine Ctr.mono (c_X11_read_17 l D cy h.1 h.2.2.1.2.1 r8 r9) ?_
  rintro rv N1 sh1 ad1 M1 L1 R1 ⟨rfl, rfl, rfl, rfl, r, rfl, hr, p1⟩
  have p0 := p1
  obtain ⟨j, _, _, _, _, _, hfr, _, _, hR⟩ := p0
  have e53 : M1 53 = M 53 := hfr 53 (by decide) (by decide) (by decide) (by decide) (by decide) (by decide)
  obtain ⟨_, _, _, _, _, hl⟩ := in_T h
  have hS1 : Std N1 sh1 R1 := by
    rw [hR]
    split
    · exact Std_0 (Std_0 h.1 (Or.inl rfl)) (Or.inr rfl)
    · exact h.1
  have hD1 : iDis N1 sh1 R1 := by
    rw [hR]
    split
    · exact iDis_mu (iDis_mu hD (Or.inl rfl)) (Or.inl rfl)
    · exact hD
  refine ⟨r, rfl, hr, fun _ _ => rfl, hS1, ?_⟩
  refine Ctr.mono (c_X12_read l D cy hS1 (M 22) (M 18) (M 19) (M 20) (M 21) (by rw [e53, ← h.2.2.1.1]; exact h.2.2.1.2.1) (by rw [e53]; exact hl) h.2.1) ?_
  rintro rv2 N2 sh2 ad2 M2 L2 R2 ⟨rfl, rfl, rfl, rfl, r2, rfl, hr2, p2, pL⟩
  have q := s_read h (A := 24) (B := 17) (Or.inr ⟨rfl, rfl⟩) r8 p1 p2 pL
  exact ⟨r2, rfl, hr2, q.1, rfl, q.2, hD1⟩
theorem two_read : Two yX11_read wsX11_read ({ frames := 8, cells := 0, slots := 0, locals := 173 } : Room) yX12_read wsX12_read ({ frames := 5, cells := 0, slots := 0, locals := 116 } : Room) [] := by
  intro l D cy N sh ad M L R h hD
  obtain ⟨t, t', ht, r8, r9, _⟩ := h.2.2.2.2.1
  rcases ht with ⟨rfl, rfl⟩ | ⟨rfl, rfl⟩
  · exact rd_24 h hD r8 r9
  · exact rd_17 h hD r8 r9
theorem two_act {k p v c hq f : Int} (hk : inR k) (hp : inR p) (hv : inR v) (hc : inR c) (hhq : inR hq) (hf : inR f) : Two yX11_act wsX11_act ({ frames := 2, cells := 2, slots := 14, locals := 38 } : Room) yX12_act wsX12_act ({ frames := 0, cells := 0, slots := 0, locals := 0 } : Room) [.int (iz k), .int (iz p), .int (iz v), .int (iz c), .int (iz hq), .int (iz f)] := by
  intro l D cy N sh ad M L R h hD
  refine Ctr.mono (c_X11_act l D cy h.1 k p v c hq f hk hp hv hc hhq hf (in_O h).1) ?_
  rintro rv N1 sh1 ad1 M1 L1 R1 ⟨r, rfl, hr, p1⟩
  have hN := h.1.1
  have eF : ∀ i : Nat, 53 ≤ i → i ≤ 111 → M1 i = M i := fun i i0 i1 => by
    rcases p1 with ⟨c1, c2, hN1, hsh, hA, hM, hL, hR⟩ | ⟨c1, c2, hN1, hsh, hA, hM, hL, hR⟩
    · rw [hM, mu_i _ _ _ (by omega), mu_i _ _ _ (by omega), mu_i _ _ _ (by omega), mu_i _ _ _ (by omega), mu_i _ _ _ (by omega), mu_i _ _ _ (by omega), mu_i _ _ _ (by omega), mu_i _ _ _ (by omega), mrow_i _ _ (by omega), mrow_i _ _ (by omega)]
    · rw [hM]
  have ha1 : ∀ j : Nat, j < N → ad1 j = ad j := by
    rcases p1 with ⟨c1, c2, hN1, hsh, hA, hM, hL, hR⟩ | ⟨c1, c2, hN1, hsh, hA, hM, hL, hR⟩
    · exact hA
    · rw [hA]; exact fun _ _ => rfl
  have hS1 : Std N1 sh1 R1 := by
    rcases p1 with ⟨c1, c2, hN1, hsh, hA, hM, hL, hR⟩ | ⟨c1, c2, hN1, hsh, hA, hM, hL, hR⟩
    · rw [hN1, hsh, hR]; exact Std_mu (Std_mu (Std_up (Std_up h.1 _ _) _ _) (Or.inl hN)) (Or.inr rfl)
    · rw [hN1, hsh, hR]; exact h.1
  refine ⟨r, rfl, hr, ha1, hS1, ?_⟩
  refine Ctr.mono (c_X12_act l D cy hS1 k p v c hq f hk hp hv hc hhq hf (fr_B eF (in_B h))) ?_
  rintro rv2 N2 sh2 ad2 M2 L2 R2 ⟨rfl, rfl, rfl, rfl, rfl, r2, rfl, hr2, p2⟩
  have q := s_act h hD (by rcases p1 with ⟨c1, c2, c3, c4, _, c5, c6, c7⟩ | ⟨c1, c2, c3, c4, _, c5, c6, c7⟩; exact Or.inl ⟨c1, c2, c3, c4, c5, c6, c7⟩; exact Or.inr ⟨c1, c2, c3, c4, c5, c6, c7⟩) p2
  exact ⟨r2, rfl, hr2, q.1, rfl, q.2.1, q.2.2⟩
theorem two_figure {a m s hq b : Int} (ha : inR a) (hm : inR m) (hs : inR s) (hhq : inR hq) (hb : 0 ≤ b ∧ b < 2) : Two yX11_figure wsX11_figure ({ frames := 2, cells := 1, slots := 4, locals := 36 } : Room) yX12_figure wsX12_figure ({ frames := 1, cells := 0, slots := 0, locals := 21 } : Room) [.int (iz a), .int (iz m), .int (iz s), .int (iz hq), .int (iz b)] := by
  intro l D cy N sh ad M L R h hD
  refine Ctr.mono (c_X11_figure l D cy h.1 a m s hq ha hm hs hhq b hb (in_O h)) ?_
  rintro rv N1 sh1 ad1 M1 L1 R1 ⟨r, rfl, hr, p1⟩
  have hN := h.1.1
  have eF : ∀ i : Nat, 53 ≤ i → i ≤ 111 → M1 i = M i := fun i i0 i1 => by
    rcases p1 with ⟨c1, c2, hN1, hsh, hA, hM, hL, f, hf, hR⟩ | ⟨c1, c2, hN1, hsh, hA, hM, hL, hR⟩
    · rw [hM, mu_i _ _ _ (by have k := (actId (in_O h) c1.1 c1.2.1).2.1; omega), mu_i _ _ _ (by omega), mu_i _ _ _ (by omega), mu_i _ _ _ (by omega), mu_i _ _ _ (by omega), mrow_i _ _ (by omega)]
    · rw [hM]
  have ha1 : ∀ j : Nat, j < N → ad1 j = ad j := by
    rcases p1 with ⟨c1, c2, hN1, hsh, hA, hM, hL, f, hf, hR⟩ | ⟨c1, c2, hN1, hsh, hA, hM, hL, hR⟩
    · exact hA
    · rw [hA]; exact fun _ _ => rfl
  have hS1 : Std N1 sh1 R1 := by
    rcases p1 with ⟨c1, c2, hN1, hsh, hA, hM, hL, f, hf, hR⟩ | ⟨c1, c2, hN1, hsh, hA, hM, hL, hR⟩
    · rw [hN1, hsh, hR]; exact Std_mu (Std_up h.1 _ _) (Or.inl (fig_big h c1.1 c1.2.1 hf))
    · rw [hN1, hsh, hR]; exact h.1
  refine ⟨r, rfl, hr, ha1, hS1, ?_⟩
  refine Ctr.mono (c_X12_figure l D cy hS1 a m s hq ha hm hs hhq b (by omega) (fr_B eF (in_B h))) ?_
  rintro rv2 N2 sh2 ad2 M2 L2 R2 ⟨rfl, rfl, rfl, rfl, rfl, r2, rfl, hr2, p2⟩
  have q := s_figure h hD hb (by rcases p1 with ⟨c1, c2, c3, c4, _, c5, c6, c7⟩ | ⟨c1, c2, c3, c4, _, c5, c6, c7⟩; exact Or.inl ⟨c1, c2, c3, c4, c5, c6, c7⟩; exact Or.inr ⟨c1, c2, c3, c4, c5, c6, c7⟩) p2
  exact ⟨r2, rfl, hr2, q.1, rfl, q.2.1, q.2.2⟩
