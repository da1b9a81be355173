/-! PLAN, MEND, OUT alike -/
theorem rdAt_hi {S A B : Int → Int} (z : Int) (n : Nat) (h : ∀ k : Int, 0 ≤ k → k < n → FactOk (S k) (A k) (B k)) : 0 ≤ rdAt S A B z n ∧ rdAt S A B z n < 240 := rdAt_in z n h
section Fin
variable {N t : Nat} {sh : MS} {M Mp M1 : MI} {R R1 : MR} {n : Int}
theorem mK_at (hm : ∀ i : Nat, 53 ≤ i → i ≤ 111 → M1 i = M i) {i : Nat} (i0 : 53 ≤ i) (i1 : i ≤ 111) (i2 : ¬ (91 ≤ i ∧ i ≤ 93)) : mK M1 n i = M i := by
  unfold mK
  rw [mrow_i _ _ (by omega), mrow_i _ _ (by omega), mrow_i _ _ (by omega)]
  exact hm i i0 i1
theorem mPre_of (hS : iShow M R sh N) (hF : iFact M) (hn : 0 ≤ n ∧ n ≤ M 9 3) (hm : ∀ i : Nat, 53 ≤ i → i ≤ 111 → M1 i = M i) : mBnd (mK M1 n) ∧ mK M1 n 53 37 = M 6 1 ∧ ∀ a : Int, 0 ≤ a → a < M 6 1 → mPreA (mK M1 n) a := by
  have e := fun (i : Nat) (a : 53 ≤ i) (b : i ≤ 111) (c : ¬ (91 ≤ i ∧ i ≤ 93)) => mK_at (n := n) hm a b c
  have h37 : mK M1 n 53 37 = M 6 1 := by rw [e 53 (by decide) (by decide) (by decide)]; exact hS.2.2.1.symm
  refine ⟨?_, h37, fun a a0 a1 => ⟨?_, ?_, ?_, fun b b0 b1 => ?_⟩⟩
  · unfold mBnd
    rw [e 53 (by decide) (by decide) (by decide), e 82 (by decide) (by decide) (by decide), e 83 (by decide) (by decide) (by decide), e 84 (by decide) (by decide) (by decide), e 85 (by decide) (by decide) (by decide), e 87 (by decide) (by decide) (by decide)]
    exact hS.2.1
  · rw [h37]; exact ⟨a0, a1⟩
  · have q := hS.2.2.2.2.2.2.2 a a0 a1
    have ok := (actId hS.1 a0 a1).2.2.2.2.2.1
    rw [e 79 (by decide) (by decide) (by decide), e 80 (by decide) (by decide) (by decide), e 81 (by decide) (by decide) (by decide), ← q.1.2.2.2.1, ← q.1.2.2.2.2.1, ← q.1.2.2.2.2.2.1]
    exact ok.2.2.2
  · have h6 := hS.1.1
    show 0 ≤ rdRow (M1 88) (M1 89) (M1 90) n.toNat (M1 93) a ∧ rdRow (M1 88) (M1 89) (M1 90) n.toNat (M1 93) a < 240
    unfold rdRow
    rw [if_pos ⟨a0, by omega⟩, hm 88 (by decide) (by decide), hm 89 (by decide) (by decide), hm 90 (by decide) (by decide)]
    exact rdAt_hi a n.toNat (fun k k0 k1 => (hF.2.2 k k0 (by omega)).2.1)
  · show 0 ≤ bsRow (M1 88) (M1 89) (M1 90) n.toNat 240 (M1 91) b ∧ bsRow (M1 88) (M1 89) (M1 90) n.toNat 240 (M1 91) b ≤ 9
    unfold bsRow
    rw [if_pos ⟨b0, b1⟩, hm 88 (by decide) (by decide), hm 89 (by decide) (by decide), hm 90 (by decide) (by decide)]
    exact bsAt_in (fun k k0 k1 => (hF.2.2 k k0 (by omega)).2.1) _
theorem mpl_fa {X : MI} {p : List Fl} {a : Int} {f : Fl} (h : mpl X p a = some f) : fa f = a := by
  unfold mpl at h
  split at h
  · cases h
  · cases h; rfl
theorem plOk_of (hS : iShow M R sh N) (hF : iFact M) (hn : 0 ≤ n ∧ n ≤ M 9 3) (hm : ∀ i : Nat, 53 ≤ i → i ≤ 111 → M1 i = M i) : plOk (M 6 1).toNat (mpl (mK M1 n)) := by
  intro p a f o a0 a1 hi hf
  have h6 := hS.1.1
  have hA : (((M 6 1).toNat : Nat) : Int) = M 6 1 := by omega
  rw [hA] at o a1 ⊢
  obtain ⟨hB, h37, hP⟩ := mPre_of (n := n) hS hF hn hm
  have z := mpl_ok hB (hP a a0 a1) (by rw [h37]; exact o) hi hf
  rw [h37] at z
  exact ⟨z, mpl_fa hf⟩
theorem fin_same {g g' : Int → Int} (hS : iShow M R sh N) (hF : iFact M) (ht : isT t) (hX : TxEq M t) (hp : prepC M R n Mp) (hn : 0 ≤ n ∧ n ≤ M 9 3) (hR : R1 = mu R 31 7 (some t)) (hm : ∀ i : Nat, 53 ≤ i → i ≤ 111 → M1 i = M i) (hg : ∀ a : Int, 0 ≤ a → a < M 6 1 → g' a = g a) : FINc (cpl Mp R1 t) (cWo M R) g (M 6 1).toNat = mS (mpl (mK M1 n)) (M1 78) g' (M1 53 37).toNat 7 [] [] := by
  have h6 := hS.1.1
  have hA : (((M 6 1).toNat : Nat) : Int) = M 6 1 := by omega
  have pe := plEq_of hS hF ht hX hp hn hR hm
  have po := plOk_of (n := n) hS hF hn hm
  have e37 : M1 53 37 = M 6 1 := by rw [hm 53 (by decide) (by decide)]; exact hS.2.2.1.symm
  have ps : ∀ (p : List Fl) (a : Int), okF (((M 6 1).toNat : Nat) : Int) p → 0 ≤ a → a < (((M 6 1).toNat : Nat) : Int) → inF p a = false → cpl Mp R1 t p a = mpl (mK M1 n) p a := fun p a o a0 a1 _ => by
    rw [hA] at o a1
    exact pl_same pe o a0 a1
  have po' : plOk (M 6 1).toNat (cpl Mp R1 t) := fun p a f o a0 a1 hi hf => po p a f o a0 a1 hi ((ps p a o a0 a1 hi).symm.trans hf)
  rw [e37]
  unfold FINc
  refine FIN_same (by omega) po' (fun a a0 a1 => ?_) (fun a a0 a1 => ?_) (fun a a0 a1 => hg a a0 (by omega)) ps
  · have := (actId hS.1 a0 (by omega)).2.2.2.2.2.1.2.2.1
    exact this.1
  · rw [hm 78 (by decide) (by decide)]
    exact (hS.2.2.2.2.2.2.2 a a0 (by omega)).1.2.2.1.symm
theorem wL_same (hS : iShow M R sh N) (hm : ∀ i : Nat, 53 ≤ i → i ≤ 111 → M1 i = M i) {p : List Fl} (o : okF (M 6 1) p) : wL (cWo M R) p = wL (M1 78) p := by
  have h6 := hS.1.1
  have hA : (((M 6 1).toNat : Nat) : Int) = M 6 1 := by omega
  refine wL_congr (A := (M 6 1).toNat) (fun a a0 a1 => ?_) (by rw [hA]; exact o)
  rw [hm 78 (by decide) (by decide)]
  exact (hS.2.2.2.2.2.2.2 a a0 (by omega)).1.2.2.1
end Fin
section Plans
variable {N t : Nat} {sh : MS} {M M0 Mp M1 M2 L : MI} {R R1 : MR} {n r r2 : Int}
/-- behind plan or mend: M0 is the memory as it is prepared -/
theorem s_make {e : Int} (h : Inv N sh M L R) (ht : isT t) (h8 : R 0 8 = some t) (hn : 0 ≤ n ∧ n ≤ M 9 3) (he : e = 0 ∨ e = 1) (h0 : ∀ i : Nat, i ≠ 0 → ¬ (47 ≤ i ∧ i ≤ 52) → M0 i = M i) (h07 : M0 0 7 = 1 ∧ ∀ z : Int, z ≠ 7 → M0 0 z = M 0 z) (hg : ∀ a : Int, 0 ≤ a → a < M 6 1 → gM e M a = M0 50 a) (hR : R1 = mu R 31 7 (some t)) (hp : prepC M0 R n Mp) (hr : r = wL (cWo M R) (FINc (cpl Mp R1 t) (cWo M R) (Mp 50) (M 6 1).toNat)) (hZ : rZ (cWo M R) M1 (FINc (cpl Mp R1 t) (cWo M R) (Mp 50) (M 6 1).toNat)) (hk : okF (M 6 1) (FINc (cpl Mp R1 t) (cWo M R) (Mp 50) (M 6 1).toNat)) (hD : frD Mp M1) (q1 : r2 = wL (M1 78) (FINm M1 n e)) (q2 : rpP M2 (FINm M1 n e)) (q3 : ∀ i : Nat, i ≠ 53 → ¬ (91 ≤ i ∧ i ≤ 111) → M2 i = M1 i) (q4 : ∀ z : Int, ¬ (z = 62 ∨ z = 68 ∨ z = 69 ∨ (75 ≤ z ∧ z ≤ 78)) → M2 53 z = M1 53 z) : r = r2 ∧ Inv N sh M2 L R1 := by
  obtain ⟨i1, i2, i3, i4, i5, i6, i7, i8⟩ := h
  have pi := hp.1
  have mm : ∀ i : Nat, 53 ≤ i → i ≤ 111 → M1 i = M i := fun i a b => by rw [hD.1 i (by omega), pi i (by omega) (by omega) (by omega), h0 i (by omega) (by omega)]
  have m0 : ∀ i : Nat, 53 ≤ i → i ≤ 111 → M1 i = M0 i := fun i a b => by rw [hD.1 i (by omega), pi i (by omega) (by omega) (by omega)]
  have hS0 : iShow M0 R sh N := iShow_fr i6 (fun i hi => h0 i (by omega) (by omega)) (fun _ _ => rfl) (fun z _ => by rw [h0 53 (by decide) (by decide)]) (fun i a b => h0 i (by omega) (by omega))
  have hF0 : iFact M0 := iFact_fr i7 (by rw [h0 9 (by decide) (by decide)]) (h0 10 (by decide) (by decide)) (h0 11 (by decide) (by decide)) (h0 12 (by decide) (by decide)) (by rw [h0 53 (by decide) (by decide)]) (fun i a b => h0 i (by omega) (by omega))
  have hX0 : TxEq M0 t := by
    obtain ⟨t1, t2, _, r8, _, hx⟩ := i5
    have et : t1 = t := Option.some.inj (r8.symm.trans h8)
    subst et
    exact TxEq_fr hx (fun i a b => h0 i (by rcases ht with rfl | rfl <;> omega) (by rcases ht with rfl | rfl <;> omega)) (by rw [h0 t1 (by rcases ht with rfl | rfl <;> omega) (by rcases ht with rfl | rfl <;> omega)]) (by rw [h0 53 (by decide) (by decide)]) (by rw [h0 61 (by decide) (by decide)]) (fun i a b z _ _ => by rw [h0 i (by omega) (by omega)]) (fun i a b z _ _ => by rw [h0 i (by omega) (by omega)]) (fun z _ _ => by rw [h0 73 (by decide) (by decide), h0 74 (by decide) (by decide)]; exact ⟨rfl, rfl⟩)
  have e6 : M0 6 = M 6 := h0 6 (by decide) (by decide)
  have eW : ∀ a : Int, 0 ≤ a → a < M 6 1 → cWo M0 R a = cWo M R a := fun a a0 a1 => by
    unfold cWo
    rw [h0 (aId R a) (by have := (actId i6.1 a0 a1).2.1; omega) (by have := (actId i6.1 a0 a1).2.1; omega)]
  have e50 : Mp 50 = M0 50 := pi 50 (by decide) (by decide) (by decide)
  have h6 := i6.1.1
  have hA : (((M 6 1).toNat : Nat) : Int) = M 6 1 := by omega
  -- the two searches
  have hfin : FINc (cpl Mp R1 t) (cWo M R) (Mp 50) (M 6 1).toNat = FINm M1 n e := by
    have z := fin_same (g := Mp 50) (g' := gM e M1) hS0 hF0 ht hX0 hp (by rw [h0 9 (by decide) (by decide)]; exact hn) hR m0 (fun a a0 a1 => by
      rw [e6] at a1
      rw [e50, ← hg a a0 a1]
      unfold gM
      rw [mm 103 (by decide) (by decide)])
    rw [e6] at z
    unfold FINm
    rw [← z]
    unfold FINc
    -- the worths agree
    have pe := plEq_of hS0 hF0 ht hX0 hp (by rw [h0 9 (by decide) (by decide)]; exact hn) hR m0
    have po := plOk_of (n := n) hS0 hF0 (by rw [h0 9 (by decide) (by decide)]; exact hn) m0
    rw [e6] at pe po
    have po' : plOk (M 6 1).toNat (cpl Mp R1 t) := fun p a f o a0 a1 hi hf => po p a f o a0 a1 hi (by
      rw [hA] at o a1
      rw [← pl_same pe o a0 a1]; exact hf)
    rw [cS_mS (w := cWo M R) (by omega) po' (fun a a0 a1 => (actId i6.1 a0 (by omega)).2.2.2.2.2.1.2.2.1.1) 6 [] [] trivial rfl, cS_mS (w := cWo M0 R) (by omega) po' (fun a a0 a1 => by rw [eW a a0 (by omega)]; exact (actId i6.1 a0 (by omega)).2.2.2.2.2.1.2.2.1.1) 6 [] [] trivial rfl]
    exact (mS_congr po' (fun a a0 a1 => eW a a0 (by omega)) (fun _ _ _ => rfl) (fun _ _ _ _ _ _ => rfl) 7 [] [] trivial trivial).1
  rw [hfin] at hr hZ hk
  have cc : ∀ i : Nat, i ≠ 0 → ¬ (14 ≤ i ∧ i ≤ 16) → i ≠ 23 → i ≠ 30 → ¬ (32 ≤ i ∧ i ≤ 53) → ¬ (91 ≤ i ∧ i ≤ 111) → M2 i = M i := fun i a1 a2 a3 a4 a5 a6 => by rw [q3 i (by omega) a6, hD.1 i (by omega), pi i (by omega) (by omega) (by omega), h0 i a1 (by omega)]
  have c0 : M2 0 = M0 0 := by rw [q3 0 (by decide) (by decide), hD.1 0 (by decide), pi 0 (by decide) (by decide) (by decide)]
  have c53 : ∀ z : Int, ¬ (z = 62 ∨ z = 68 ∨ z = 69 ∨ (75 ≤ z ∧ z ≤ 78)) → M2 53 z = M 53 z := fun z hz => by rw [q4 z hz, mm 53 (by decide) (by decide)]
  refine ⟨?_, by rw [hR]; exact Std_31 i1, i2, iTape_fr i3 (by rw [cc 1 (by decide) (by decide) (by decide) (by decide) (by decide) (by decide)]) (cc 2 (by decide) (by decide) (by decide) (by decide) (by decide) (by decide)) (c53 2 (by decide)) (cc 54 (by decide) (by decide) (by decide) (by decide) (by decide) (by decide)), by rw [c0, h07.2 10 (by decide), c53 17 (by decide)]; exact i4, iText_fr i5 (fun i a b c => cc i (by omega) (by omega) (by omega) (by omega) (by omega) (by omega)) (c53 18 (by decide)) (fun i a b => cc i (by omega) (by omega) (by omega) (by omega) (by omega) (by omega)) (by rw [hR]; rfl) (by rw [hR]; rfl), iShow_fr i6 (fun i hi => cc i (by omega) (by omega) (by omega) (by omega) (by omega) (by omega)) (fun i hi => by rw [hR, mu_i _ _ _ (by omega)]) (fun z hz => c53 z (by omega)) (fun i a b => cc i (by omega) (by omega) (by omega) (by omega) (by omega) (by omega)), iFact_fr i7 (by rw [cc 9 (by decide) (by decide) (by decide) (by decide) (by decide) (by decide)]) (cc 10 (by decide) (by decide) (by decide) (by decide) (by decide) (by decide)) (cc 11 (by decide) (by decide) (by decide) (by decide) (by decide) (by decide)) (cc 12 (by decide) (by decide) (by decide) (by decide) (by decide) (by decide)) (c53 53 (by decide)) (fun i a b => cc i (by omega) (by omega) (by omega) (by omega) (by omega) (by omega)), ⟨cWo M R, FINm M1 n e, ?_, ?_, Or.inl ⟨by rw [c0]; exact h07.1, q2⟩⟩⟩
  · rw [hr, q1]
    exact wL_same i6 mm hk
  · rw [cc 6 (by decide) (by decide) (by decide) (by decide) (by decide) (by decide)]
    exact hk
  · unfold rZ at hZ ⊢
    rw [q3 47 (by decide) (by decide), q3 48 (by decide) (by decide), q3 49 (by decide) (by decide), q3 50 (by decide) (by decide), q3 51 (by decide) (by decide), q3 52 (by decide) (by decide)]
    exact hZ
theorem fz6 {f : Int → Int} {a : Int} (a0 : 0 ≤ a) (a1 : a < 6) : filz f 6 (-1) a = -1 := if_pos ⟨a0, a1⟩
theorem s_plan (h : Inv N sh M L R) (ht : isT t) (h8 : R 0 8 = some t) (p1 : ((0 ≤ n ∧ n ≤ M 9 3) ∧ R1 = (mu R 31 7 (some t)) ∧ ∃ Mp : MI, prepC (mu (mu (mu (mrow (mrow (mrow (mrow (mrow M 48 (filz (M 48) 6 (-1))) 49 (filz (M 49) 6 (-1))) 50 (filz (M 50) 6 (-1))) 51 (filz (M 51) 6 (-1))) 52 (filz (M 52) 6 (-1))) 47 5 0) 47 6 0) 0 7 1) R n Mp ∧ r = wL (cWo M R) (FINc (cpl Mp (mu R 31 7 (some t)) t) (cWo M R) (Mp 50) (M 6 1).toNat) ∧ rZ (cWo M R) M1 (FINc (cpl Mp (mu R 31 7 (some t)) t) (cWo M R) (Mp 50) (M 6 1).toNat) ∧ okF (M 6 1) (FINc (cpl Mp (mu R 31 7 (some t)) t) (cWo M R) (Mp 50) (M 6 1).toNat) ∧ frD Mp M1) ∨ (¬ (0 ≤ n ∧ n ≤ M 9 3) ∧ r = -1 ∧ R1 = R ∧ M1 = M)) (p2 : if 0 ≤ n ∧ n ≤ M1 53 53 then (r2 = wL (M1 78) (FINm M1 n 0) ∧ rpP M2 (FINm M1 n 0) ∧ okF (M1 53 37) (FINm M1 n 0) ∧ (∀ i : Nat, i ≠ 53 → ¬ (91 ≤ i ∧ i ≤ 111) → M2 i = M1 i) ∧ ∀ z : Int, ¬ (z = 62 ∨ z = 68 ∨ z = 69 ∨ (75 ≤ z ∧ z ≤ 78)) → M2 53 z = M1 53 z) else r2 = -1 ∧ M2 = M1) : r = r2 ∧ Inv N sh M2 L R1 := by
  have e9 := h.2.2.2.2.2.2.1.1
  have h6 := h.2.2.2.2.2.1.1.1
  rcases p1 with ⟨hn, hR, Mp, hp, hr, hZ, hk, hD⟩ | ⟨hn, hr, hR, hM⟩
  · have e53 : M1 53 53 = M 9 3 := by rw [hD.1 53 (by decide), hp.1 53 (by decide) (by decide) (by decide), e9]; rfl
    rw [if_pos (by omega)] at p2
    subst hR
    refine s_make (e := 0) h ht h8 hn (Or.inl rfl) (fun i a b => ?_) ⟨rfl, fun z hz => ?_⟩ (fun a a0 a1 => ?_) rfl hp hr hZ hk hD p2.1 p2.2.1 p2.2.2.2.1 p2.2.2.2.2
    · rw [mu_i _ _ _ (by omega), mu_i _ _ _ (by omega), mu_i _ _ _ (by omega), mrow_i _ _ (by omega), mrow_i _ _ (by omega), mrow_i _ _ (by omega), mrow_i _ _ (by omega), mrow_i _ _ (by omega)]
    · rw [mu_z _ _ _ hz]; rfl
    · exact (fz6 a0 (by omega)).symm
  · subst hM
    subst hR
    rw [← e9, if_neg hn] at p2
    obtain ⟨rfl, rfl⟩ := p2
    exact ⟨hr, h⟩
theorem s_mend (h : Inv N sh M L R) (ht : isT t) (h8 : R 0 8 = some t) (p1 : ((M 0 7 ≠ 0 ∧ 0 ≤ n ∧ n ≤ M 9 3) ∧ R1 = (mu R 31 7 (some t)) ∧ ∃ Mp : MI, prepC M R n Mp ∧ r = wL (cWo M R) (FINc (cpl Mp (mu R 31 7 (some t)) t) (cWo M R) (Mp 50) (M 6 1).toNat) ∧ rZ (cWo M R) M1 (FINc (cpl Mp (mu R 31 7 (some t)) t) (cWo M R) (Mp 50) (M 6 1).toNat) ∧ okF (M 6 1) (FINc (cpl Mp (mu R 31 7 (some t)) t) (cWo M R) (Mp 50) (M 6 1).toNat) ∧ frD Mp M1) ∨ (¬ (M 0 7 ≠ 0 ∧ 0 ≤ n ∧ n ≤ M 9 3) ∧ r = -1 ∧ R1 = R ∧ M1 = M)) (p2 : if M1 53 68 ≠ 0 ∧ 0 ≤ n ∧ n ≤ M1 53 53 then (r2 = wL (M1 78) (FINm M1 n 1) ∧ rpP M2 (FINm M1 n 1) ∧ okF (M1 53 37) (FINm M1 n 1) ∧ (∀ i : Nat, i ≠ 53 → ¬ (91 ≤ i ∧ i ≤ 111) → M2 i = M1 i) ∧ ∀ z : Int, ¬ (z = 62 ∨ z = 68 ∨ z = 69 ∨ (75 ≤ z ∧ z ≤ 78)) → M2 53 z = M1 53 z) else r2 = -1 ∧ M2 = M1) : r = r2 ∧ Inv N sh M2 L R1 := by
  have e9 := h.2.2.2.2.2.2.1.1
  have h6 := h.2.2.2.2.2.1.1.1
  obtain ⟨wo, q, ho, hZ0, hP⟩ := id h.2.2.2.2.2.2.2
  rcases p1 with ⟨hn, hR, Mp, hp, hr, hZ, hk, hD⟩ | ⟨hn, hr, hR, hM⟩
  · have e53 : M1 53 = M 53 := by rw [hD.1 53 (by decide), hp.1 53 (by decide) (by decide) (by decide)]
    rcases hP with ⟨pp, hP⟩ | ⟨pp, _⟩
    · rw [if_pos ⟨by rw [e53, hP.1.1]; decide, hn.2.1, by rw [e53]; omega⟩] at p2
      subst hR
      refine s_make (e := 1) (M0 := M) h ht h8 hn.2 (Or.inr rfl) (fun _ _ _ => rfl) ⟨pp, fun _ _ => rfl⟩ (fun a a0 a1 => ?_) rfl hp hr hZ hk hD p2.1 p2.2.1 p2.2.2.2.1 p2.2.2.2.2
      show M 103 a = M 50 a
      rw [hP.2.2.1 a a0 (by omega), (hZ0.2.2.2 a a0 (by omega)).2.1]
    · exact absurd pp hn.1
  · subst hM
    subst hR
    have hc : ¬ (M1 53 68 ≠ 0 ∧ 0 ≤ n ∧ n ≤ M1 53 53) := by
      rcases hP with ⟨pp, hP⟩ | ⟨pp, p68, _⟩
      · intro z
        exact hn ⟨by omega, z.2.1, by omega⟩
      · exact fun z => z.1 p68
    rw [if_neg hc] at p2
    obtain ⟨rfl, rfl⟩ := p2
    exact ⟨hr, h⟩
/-- what a look ahead leaves -/
theorem inv_look {M' : MI} (h : Inv N sh M L R) (hR : R1 = mu R 31 7 (some t)) (e : ∀ i : Nat, ¬ (14 ≤ i ∧ i ≤ 16) → i ≠ 23 → i ≠ 30 → ¬ (32 ≤ i ∧ i ≤ 46) → ¬ (91 ≤ i ∧ i ≤ 100) → ¬ (106 ≤ i ∧ i ≤ 111) → i ≠ 53 → M' i = M i) (e53 : ∀ z : Int, z ≠ 62 → ¬ (75 ≤ z ∧ z ≤ 78) → M' 53 z = M 53 z) : Inv N sh M' L R1 := by
  obtain ⟨i1, i2, i3, i4, i5, i6, i7, i8⟩ := h
  have c := fun i a1 a2 a3 a4 a5 a6 a7 => e i a1 a2 a3 a4 a5 a6 a7
  exact ⟨by rw [hR]; exact Std_31 i1, i2, iTape_fr i3 (by rw [e 1 (by decide) (by decide) (by decide) (by decide) (by decide) (by decide) (by decide)]) (e 2 (by decide) (by decide) (by decide) (by decide) (by decide) (by decide) (by decide)) (e53 2 (by decide) (by decide)) (e 54 (by decide) (by decide) (by decide) (by decide) (by decide) (by decide) (by decide)), by rw [e 0 (by decide) (by decide) (by decide) (by decide) (by decide) (by decide) (by decide), e53 17 (by decide) (by decide)]; exact i4, iText_fr i5 (fun i a b c => e i (by omega) (by omega) (by omega) (by omega) (by omega) (by omega) (by omega)) (e53 18 (by decide) (by decide)) (fun i a b => e i (by omega) (by omega) (by omega) (by omega) (by omega) (by omega) (by omega)) (by rw [hR]; rfl) (by rw [hR]; rfl), iShow_fr i6 (fun i hi => e i (by omega) (by omega) (by omega) (by omega) (by omega) (by omega) (by omega)) (fun i hi => by rw [hR, mu_i _ _ _ (by omega)]) (fun z hz => e53 z (by omega) (by omega)) (fun i a b => e i (by omega) (by omega) (by omega) (by omega) (by omega) (by omega) (by omega)), iFact_fr i7 (by rw [e 9 (by decide) (by decide) (by decide) (by decide) (by decide) (by decide) (by decide)]) (e 10 (by decide) (by decide) (by decide) (by decide) (by decide) (by decide) (by decide)) (e 11 (by decide) (by decide) (by decide) (by decide) (by decide) (by decide) (by decide)) (e 12 (by decide) (by decide) (by decide) (by decide) (by decide) (by decide) (by decide)) (e53 53 (by decide) (by decide)) (fun i a b => e i (by omega) (by omega) (by omega) (by omega) (by omega) (by omega) (by omega)), iPlan_fr i8 (by rw [e 0 (by decide) (by decide) (by decide) (by decide) (by decide) (by decide) (by decide)]) (fun i a b => e i (by omega) (by omega) (by omega) (by omega) (by omega) (by omega) (by omega)) (by rw [e 6 (by decide) (by decide) (by decide) (by decide) (by decide) (by decide) (by decide)]; exact Int.le_refl _) (e53 68 (by decide) (by decide)) (e53 69 (by decide) (by decide)) (fun i a b => e i (by omega) (by omega) (by omega) (by omega) (by omega) (by omega) (by omega))⟩
theorem txt_of (h : Inv N sh M L R) (h8 : R 0 8 = some t) : TxEq M t ∧ isT t := by
  obtain ⟨t1, t2, ht, r8, _, hx⟩ := h.2.2.2.2.1
  have et : t1 = t := Option.some.inj (r8.symm.trans h8)
  subst et
  refine ⟨hx, ?_⟩
  rcases ht with ⟨a, _⟩ | ⟨a, _⟩
  · exact Or.inl a
  · exact Or.inr a
theorem s_out {a m : Int} (h : Inv N sh M L R) (h8 : R 0 8 = some t) (p1 : ((0 ≤ a ∧ a < M 6 1) ∧ (0 ≤ m ∧ m < 240) ∧ (0 ≤ n ∧ n ≤ M 9 3) ∧ R1 = (mu R 31 7 (some t)) ∧ ∃ Mp : MI, prepC M R n Mp ∧ (r = if cLn Mp a m = 0 then -1 else cFst Mp t (cvR Mp (mu R 31 7 (some t)) [] a m) 0) ∧ frC Mp M1) ∨ (¬ ((0 ≤ a ∧ a < M 6 1) ∧ (0 ≤ m ∧ m < 240) ∧ (0 ≤ n ∧ n ≤ M 9 3)) ∧ r = -1 ∧ R1 = R ∧ M1 = M)) (p2 : r2 = (if 0 ≤ a ∧ a < M1 53 37 ∧ 0 ≤ m ∧ m < 240 ∧ 0 ≤ n ∧ n ≤ M1 53 53 then (if mLen M1 a (bsAt (M1 88) (M1 89) (M1 90) n.toNat m.toNat) = 0 then -1 else mRule (mrow M1 94 (ask9 (M1 94) a (M1 76 a) (-1) 0 (bsAt (M1 88) (M1 89) (M1 90) n.toNat m.toNat) m (M1 53 51) (mLen M1 a (bsAt (M1 88) (M1 89) (M1 90) n.toNat m.toNat)) (M1 78 a))) 0) else -1) ∧ ∀ i : Nat, ¬ (91 ≤ i ∧ i ≤ 95) → M2 i = M1 i) : r = r2 ∧ Inv N sh M2 L R1 := by
  have e9 := h.2.2.2.2.2.2.1.1
  have h61 := h.2.2.2.2.2.1.2.2.1
  obtain ⟨hX, ht⟩ := txt_of h h8
  rcases p1 with ⟨ha, hm, hn, hR, Mp, hp, hr, hC⟩ | ⟨hn, hr, hR, hM⟩
  · have mm : ∀ i : Nat, 53 ≤ i → i ≤ 111 → M1 i = M i := fun i a b => by rw [hC.1 i (by omega), hp.1 i (by omega) (by omega) (by omega)]
    have e53 := mm 53 (by decide) (by decide)
    refine ⟨?_, inv_look h hR (fun i a1 a2 a3 a4 a5 a6 a7 => by rw [p2.2 i (by omega), hC.1 i (by omega), hp.1 i (by omega) (by omega) (by omega)]) (fun z a b => by rw [p2.2 53 (by decide), e53])⟩
    rw [p2.1, if_pos ⟨ha.1, by rw [e53]; omega, hm.1, hm.2, hn.1, by rw [e53]; omega⟩, hr]
    have pe := plEq_of h.2.2.2.2.2.1 h.2.2.2.2.2.2.1 ht hX hp hn rfl mm
    have x91 : mK M1 n 91 m = bsAt (M1 88) (M1 89) (M1 90) n.toNat m.toNat := if_pos ⟨hm.1, hm.2⟩
    have hlen : ∀ b : Int, mLen (mK M1 n) a b = mLen M1 a b := fun b => by
      unfold mLen mRf mHi mMn mHt mFar mK
      rfl
    have e1 : cLn Mp a m = mLen M1 a (bsAt (M1 88) (M1 89) (M1 90) n.toNat m.toNat) := by
      rw [((pe.1 a ha.1 ha.2).2.2.2.2.2.2.2.2 m hm.1 hm.2).1]
      unfold pLen
      rw [hlen, x91]
    rw [e1]
    congr 1
    have e2 := (pe.2.2.2 (cvR Mp (mu R 31 7 (some t)) [] a m) (ask9 (M1 94) a (M1 76 a) (-1) 0 (bsAt (M1 88) (M1 89) (M1 90) n.toNat m.toNat) m (M1 53 51) (mLen M1 a (bsAt (M1 88) (M1 89) (M1 90) n.toNat m.toNat)) (M1 78 a)) (fun z z0 z1 => by
      have v := v_same pe (p := []) trivial ha.1 ha.2 hm.1 hm.2 z z0 z1
      rw [v]
      unfold vRL pLen
      rw [hlen, x91]
      exact ask9_at z z0 z1)).1
    rw [e2]
    unfold mRule mP mHold mO mX mK
    rfl
  · subst hM
    subst hR
    refine ⟨?_, ?_⟩
    · rw [hr, p2.1, if_neg (fun z => hn ⟨⟨z.1, by omega⟩, ⟨z.2.2.1, z.2.2.2.1⟩, z.2.2.2.2.1, by omega⟩)]
    · have hS := h.1
      obtain ⟨i1, i2, i3, i4, i5, i6, i7, i8⟩ := h
      have e := p2.2
      exact ⟨i1, i2, iTape_fr i3 (by rw [e 1 (by decide)]) (e 2 (by decide)) (by rw [e 53 (by decide)]) (e 54 (by decide)), by rw [e 0 (by decide), e 53 (by decide)]; exact i4, iText_fr i5 (fun i a b c => e i (by omega)) (by rw [e 53 (by decide)]) (fun i a b => e i (by omega)) rfl rfl, iShow_fr i6 (fun i hi => e i (by omega)) (fun _ _ => rfl) (fun z _ => by rw [e 53 (by decide)]) (fun i a b => e i (by omega)), iFact_fr i7 (by rw [e 9 (by decide)]) (e 10 (by decide)) (e 11 (by decide)) (e 12 (by decide)) (by rw [e 53 (by decide)]) (fun i a b => e i (by omega)), iPlan_fr i8 (by rw [e 0 (by decide)]) (fun i a b => e i (by omega)) (by rw [e 6 (by decide)]; exact Int.le_refl _) (by rw [e 53 (by decide)]) (by rw [e 53 (by decide)]) (fun i a b => e i (by omega))⟩
end Plans
