/-! CAN alike; an act more, a figure more -/
def okK (A : Int) : List Int → Bool → List Int → Prop
  | [], _, _ => True
  | k :: ks, en, us => if k = -1 then okK A ks true us else ¬ (en = true ∨ ¬ (0 ≤ k ∧ k < A) ∨ k ∈ us) ∧ okK A ks false (k :: us)
theorem canR_no {A : Int} {pl : List Fl → Int → Option Fl} {w : Int → Int} : ∀ (ks : List Int) (en : Bool) (us : List Int) (g : Option (List Fl)) (al : Int), ¬ okK A ks en us → canR A pl w ks en us g al = -1
  | [], _, _, _, _, h => absurd trivial h
  | k :: ks, en, us, g, al, h => by
    unfold okK at h
    unfold canR
    by_cases c : k = -1
    · rw [if_pos c] at h
      rw [if_pos c]
      exact canR_no ks true us g al h
    · rw [if_neg c] at h
      rw [if_neg c]
      by_cases d : en = true ∨ ¬ (0 ≤ k ∧ k < A) ∨ k ∈ us
      · rw [if_pos d]
      · rw [if_neg d]
        exact canR_no ks false (k :: us) _ _ (fun z => h ⟨d, z⟩)
theorem canR_none {A : Int} {pl : List Fl → Int → Option Fl} {w : Int → Int} : ∀ (ks : List Int) (en : Bool) (us : List Int) (al : Int), okK A ks en us → canR A pl w ks en us none al = -2
  | [], _, _, _, _ => rfl
  | k :: ks, en, us, al, h => by
    unfold okK at h
    unfold canR
    by_cases c : k = -1
    · rw [if_pos c] at h
      rw [if_pos c]
      exact canR_none ks true us al h
    · rw [if_neg c] at h
      rw [if_neg c, if_neg h.1]
      exact canR_none ks false (k :: us) _ h.2
/-- both fly the same ones, one behind the other -/
theorem can_go {A : Nat} {pl pl' : List Fl → Int → Option Fl} {w w' : Int → Int} (hp : plOk A pl) (hw : ∀ a : Int, 0 ≤ a → a < (A : Int) → w' a = w a) (he : ∀ (p : List Fl) (a : Int), okF (A : Int) p → 0 ≤ a → a < (A : Int) → inF p a = false → pl p a = pl' p a) : ∀ (ks : List Int) (en : Bool) (us : List Int) (p : List Fl) (al : Int), okK (A : Int) ks en us → okF (A : Int) p → (∀ k : Int, inF p k = true → k ∈ us) → al = wL w p → canR (A : Int) pl' w' ks en us (some p) al = match flyL pl ks p with | none => -2 | some q => wL w q
  | [], _, _, p, al, _, _, _, ha => by
    show (if true = true then al else -2) = wL w p
    rw [if_pos rfl]
    exact ha
  | k :: ks, en, us, p, al, h, o, hu, ha => by
    unfold okK at h
    unfold canR flyL
    by_cases c : k = -1
    · rw [if_pos c] at h
      rw [if_pos c, if_pos c]
      exact can_go hp hw he ks true us p al h o hu ha
    · rw [if_neg c] at h
      rw [if_neg c, if_neg c, if_neg h.1]
      have hk : 0 ≤ k ∧ k < (A : Int) := Classical.byContradiction (fun z => h.1 (Or.inr (Or.inl z)))
      have hi : inF p k = false := by
        cases hi : inF p k
        · rfl
        · exact absurd (Or.inr (Or.inr (hu k hi))) h.1
      have e := he p k o hk.1 hk.2 hi
      have e0 : (some p).bind (fun p => (pl' p k).map (fun f => f :: p)) = (pl p k).map (fun f => f :: p) := by
        show (pl' p k).map (fun f => f :: p) = (pl p k).map (fun f => f :: p)
        rw [e]
      rw [e0]
      cases hf : pl p k with
      | none =>
        show canR (A : Int) pl' w' ks false (k :: us) none _ = -2
        exact canR_none ks false (k :: us) _ h.2
      | some f =>
        have of := hp p k f o hk.1 hk.2 hi hf
        show canR (A : Int) pl' w' ks false (k :: us) (some (f :: p)) (al + w' k) = match flyL pl ks (f :: p) with | none => -2 | some q => wL w q
        refine can_go hp hw he ks false (k :: us) (f :: p) (al + w' k) h.2 of.1 (fun j hj => ?_) ?_
        · have hj : (decide (fa f = j) || inF p j) = true := hj
          rw [Bool.or_eq_true, decide_eq_true_eq] at hj
          rcases hj with hj | hj
          · rw [← hj, of.2]; exact List.mem_cons_self
          · exact List.mem_cons_of_mem _ (hu j hj)
        · show al + w' k = wL w p + w (fa f)
          rw [ha, of.2, hw k hk.1 hk.2]
theorem nk {en : Bool} {P : Prop} {k : Int} {us : List Int} : ¬ (en = true ∨ ¬ P ∨ k ∈ us) ↔ (en = false ∧ P ∧ ¬ k ∈ us) := by
  constructor
  · intro h
    refine ⟨?_, Classical.byContradiction (fun z => h (Or.inr (Or.inl z))), fun z => h (Or.inr (Or.inr z))⟩
    cases en
    · rfl
    · exact absurd (Or.inl rfl) h
  · rintro ⟨h1, h2, h3⟩ (z | z | z)
    · rw [h1] at z; cases z
    · exact z h2
    · exact h3 z
theorem okK_s {A k : Int} {ks us : List Int} {en : Bool} (h : k ≠ -1) : okK A (k :: ks) en us ↔ (en = false ∧ (0 ≤ k ∧ k < A) ∧ ¬ k ∈ us) ∧ okK A ks false (k :: us) := by
  rw [← nk]
  show (if k = -1 then okK A ks true us else ¬ (en = true ∨ ¬ (0 ≤ k ∧ k < A) ∨ k ∈ us) ∧ okK A ks false (k :: us)) ↔ _
  rw [if_neg h]
theorem okK_m {A k : Int} {ks us : List Int} {en : Bool} (h : k = -1) : okK A (k :: ks) en us ↔ okK A ks true us := by
  show (if k = -1 then okK A ks true us else ¬ (en = true ∨ ¬ (0 ≤ k ∧ k < A) ∨ k ∈ us) ∧ okK A ks false (k :: us)) ↔ _
  rw [if_pos h]
theorem okK_4 {A a b c d : Int} (ha : 0 ≤ a ∧ a < A) : okK A [a, b, c, d] false [] ↔ ((0 ≤ a ∧ a < A) ∧ (b = -1 ∨ (0 ≤ b ∧ b < A)) ∧ (c = -1 ∨ (0 ≤ c ∧ c < A)) ∧ (d = -1 ∨ (0 ≤ d ∧ d < A)) ∧ (b = -1 → c = -1) ∧ (c = -1 → d = -1) ∧ a ≠ b ∧ a ≠ c ∧ a ≠ d ∧ (b = -1 ∨ (b ≠ c ∧ b ≠ d)) ∧ (c = -1 ∨ c ≠ d)) := by
  have hn : ∀ us en, okK A [] us en := fun _ _ => trivial
  rw [okK_s (by omega)]
  by_cases cb : b = -1
  · rw [okK_m cb]
    by_cases cc : c = -1
    · rw [okK_m cc]
      by_cases cd : d = -1
      · rw [okK_m cd]
        exact ⟨fun _ => by omega, fun _ => ⟨⟨rfl, ha, by simp⟩, trivial⟩⟩
      · rw [okK_s cd]
        exact ⟨fun z => absurd z.2.1.1 (by decide), fun z => by omega⟩
    · rw [okK_s cc]
      exact ⟨fun z => absurd z.2.1.1 (by decide), fun z => by omega⟩
  · rw [okK_s cb]
    by_cases cc : c = -1
    · rw [okK_m cc]
      by_cases cd : d = -1
      · rw [okK_m cd]
        simp only [List.mem_cons, List.not_mem_nil, or_false]
        exact ⟨fun z => by have := z.2.1.2; omega, fun z => ⟨⟨trivial, ha, fun y => y⟩, ⟨trivial, by omega, by omega⟩, trivial⟩⟩
      · rw [okK_s cd]
        exact ⟨fun z => absurd z.2.2.1.1 (by decide), fun z => by omega⟩
    · rw [okK_s cc]
      by_cases cd : d = -1
      · rw [okK_m cd]
        simp only [List.mem_cons, List.not_mem_nil, or_false]
        exact ⟨fun z => by have h1 := z.2.1.2; have h2 := z.2.2.1.2; omega, fun z => ⟨⟨trivial, ha, fun y => y⟩, ⟨trivial, by omega, by omega⟩, ⟨trivial, by omega, by omega⟩, trivial⟩⟩
      · rw [okK_s cd]
        simp only [List.mem_cons, List.not_mem_nil, or_false]
        exact ⟨fun z => by have h1 := z.2.1.2; have h2 := z.2.2.1.2; have h3 := z.2.2.2.1.2; omega, fun z => ⟨⟨trivial, ha, fun y => y⟩, ⟨trivial, by omega, by omega⟩, ⟨trivial, by omega, by omega⟩, ⟨trivial, by omega, by omega⟩, trivial⟩⟩
section Can
variable {N t : Nat} {sh : MS} {M M1 M2 L : MI} {R R1 : MR} {n r r2 a b c d : Int}
theorem s_can (h : Inv N sh M L R) (h8 : R 0 8 = some t) (p1 : ((((0 ≤ a ∧ a < M 6 1) ∧ (b = -1 ∨ (0 ≤ b ∧ b < M 6 1)) ∧ (c = -1 ∨ (0 ≤ c ∧ c < M 6 1)) ∧ (d = -1 ∨ (0 ≤ d ∧ d < M 6 1)) ∧ (b = -1 → c = -1) ∧ (c = -1 → d = -1) ∧ a ≠ b ∧ a ≠ c ∧ a ≠ d ∧ (b = -1 ∨ (b ≠ c ∧ b ≠ d)) ∧ (c = -1 ∨ c ≠ d)) ∧ 0 ≤ n ∧ n ≤ M 9 3) ∧ R1 = (mu R 31 7 (some t)) ∧ ∃ Mp : MI, prepC M R n Mp ∧ r = canC (cpl Mp (mu R 31 7 (some t)) t) (cWo M R) [a, b, c, d] ∧ frC Mp M1) ∨ (¬ (((0 ≤ a ∧ a < M 6 1) ∧ (b = -1 ∨ (0 ≤ b ∧ b < M 6 1)) ∧ (c = -1 ∨ (0 ≤ c ∧ c < M 6 1)) ∧ (d = -1 ∨ (0 ≤ d ∧ d < M 6 1)) ∧ (b = -1 → c = -1) ∧ (c = -1 → d = -1) ∧ a ≠ b ∧ a ≠ c ∧ a ≠ d ∧ (b = -1 ∨ (b ≠ c ∧ b ≠ d)) ∧ (c = -1 ∨ c ≠ d)) ∧ 0 ≤ n ∧ n ≤ M 9 3) ∧ r = -1 ∧ R1 = R ∧ M1 = M)) (p2 : r2 = (if (0 ≤ n ∧ n ≤ M1 53 53) ∧ 0 ≤ a ∧ a < M1 53 37 then canR (M1 53 37) (mpl (mK M1 n)) (M1 78) [a, b, c, d] false [] (some []) 0 else -1) ∧ ((M2 = M1) ∨ frM (mK M1 n) M2)) : r = r2 ∧ Inv N sh M2 L R1 := by
  have e9 := h.2.2.2.2.2.2.1.1
  have h61 := h.2.2.2.2.2.1.2.2.1
  have h6 := h.2.2.2.2.2.1.1.1
  have hA : (((M 6 1).toNat : Nat) : Int) = M 6 1 := by omega
  obtain ⟨hX, ht⟩ := txt_of h h8
  have keep : ∀ {Mq : MI} {Rq : MR}, (∀ i : Nat, ¬ (14 ≤ i ∧ i ≤ 16) → i ≠ 23 → i ≠ 30 → ¬ (32 ≤ i ∧ i ≤ 46) → Mq i = M i) → M2 = Mq ∨ frM (mK Mq n) M2 → (∀ i : Nat, ¬ (14 ≤ i ∧ i ≤ 16) → i ≠ 23 → i ≠ 30 → ¬ (32 ≤ i ∧ i ≤ 46) → ¬ (91 ≤ i ∧ i ≤ 100) → ¬ (106 ≤ i ∧ i ≤ 111) → i ≠ 53 → M2 i = M i) ∧ ∀ z : Int, z ≠ 62 → ¬ (75 ≤ z ∧ z ≤ 78) → M2 53 z = M 53 z := by
    intro Mq _ hq hm
    have e53 : Mq 53 = M 53 := hq 53 (by decide) (by decide) (by decide) (by decide)
    rcases hm with rfl | hm
    · exact ⟨fun i a1 a2 a3 a4 _ _ _ => hq i a1 a2 a3 a4, fun z _ _ => by rw [e53]⟩
    · have kk : ∀ i : Nat, ¬ (91 ≤ i ∧ i ≤ 93) → mK Mq n i = Mq i := fun i hi => by
        unfold mK
        rw [mrow_i _ _ (by omega), mrow_i _ _ (by omega), mrow_i _ _ (by omega)]
      exact ⟨fun i a1 a2 a3 a4 a5 a6 a7 => by rw [hm.1 i a7 (by omega) a6, kk i (by omega), hq i a1 a2 a3 a4], fun z z1 z2 => by rw [hm.2.1 z z1 z2, kk 53 (by decide), e53]⟩
  rcases p1 with ⟨⟨hc, hn⟩, hR, Mp, hp, hr, hC⟩ | ⟨hn, hr, hR, hM⟩
  · have mm : ∀ i : Nat, 53 ≤ i → i ≤ 111 → M1 i = M i := fun i a b => by rw [hC.1 i (by omega), hp.1 i (by omega) (by omega) (by omega)]
    have e53 := mm 53 (by decide) (by decide)
    have k := keep (Mq := M1) (Rq := R) (fun i a1 a2 a3 a4 => by rw [hC.1 i (by omega), hp.1 i (by omega) (by omega) (by omega)]) p2.2
    refine ⟨?_, inv_look h hR k.1 k.2⟩
    rw [p2.1, if_pos ⟨⟨hn.1, by rw [e53]; omega⟩, hc.1.1, by rw [e53]; have := hc.1.2; omega⟩, hr, show M1 53 37 = (((M 6 1).toNat : Nat) : Int) by rw [e53, hA]; exact h61.symm]
    have pe := plEq_of h.2.2.2.2.2.1 h.2.2.2.2.2.2.1 ht hX hp hn rfl mm
    have po := plOk_of (n := n) h.2.2.2.2.2.1 h.2.2.2.2.2.2.1 hn mm
    have ps : ∀ (p : List Fl) (a : Int), okF (((M 6 1).toNat : Nat) : Int) p → 0 ≤ a → a < (((M 6 1).toNat : Nat) : Int) → inF p a = false → cpl Mp (mu R 31 7 (some t)) t p a = mpl (mK M1 n) p a := fun p a o a0 a1 _ => by
      rw [hA] at o a1
      exact pl_same pe o a0 a1
    have po' : plOk (M 6 1).toNat (cpl Mp (mu R 31 7 (some t)) t) := fun p a f o a0 a1 hi hf => po p a f o a0 a1 hi ((ps p a o a0 a1 hi).symm.trans hf)
    have z := can_go po' (w := cWo M R) (w' := M1 78) (fun a a0 a1 => by rw [mm 78 (by decide) (by decide)]; exact (h.2.2.2.2.2.1.2.2.2.2.2.2.2 a a0 (by omega)).1.2.2.1.symm) ps [a, b, c, d] false [] [] 0 ((okK_4 (by rw [hA]; exact hc.1)).mpr (by rw [hA]; exact hc)) trivial (fun k hk => by cases hk) rfl
    rw [z]
    rfl
  · subst hM
    have k := keep (Mq := M1) (Rq := R) (fun _ _ _ _ _ => rfl) p2.2
    refine ⟨?_, ?_⟩
    · rw [hr, p2.1]
      by_cases q : (0 ≤ n ∧ n ≤ M1 53 53) ∧ 0 ≤ a ∧ a < M1 53 37
      · rw [if_pos q, canR_no]
        intro z
        exact hn ⟨by rw [h61]; exact (okK_4 q.2).mp z, q.1.1, by rw [e9]; exact q.1.2⟩
      · rw [if_neg q]
    · subst hR
      have z := inv_look (R1 := mu R1 31 7 (some t)) (t := t) h rfl k.1 k.2
      obtain ⟨i1, i2, i3, i4, i5, i6, i7, i8⟩ := z
      refine ⟨h.1, i2, i3, i4, ?_, ?_, i7, i8⟩
      · exact iText_fr (R := mu R1 31 7 (some t)) i5 (fun _ _ _ _ => rfl) rfl (fun _ _ _ => rfl) rfl rfl
      · exact iShow_fr (R := mu R1 31 7 (some t)) i6 (fun _ _ => rfl) (fun i hi => (mu_i _ _ _ (by omega)).symm) (fun _ _ => rfl) (fun _ _ _ => rfl)
end Can
