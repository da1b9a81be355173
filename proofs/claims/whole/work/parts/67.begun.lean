/-! BOTH BEGUN: class and model, just made, are alike -/
def Mz0 : MI := fun _ _ => 0
def Rz0 : MR := fun _ _ => none
def Mz1 : MI := iM_X12 (iM_X11 Mz0)
def Lz1 : MI := iL_X12 Mz0
def Rz1 : MR := iR_X12 (iR_X11 Rz0)
set_option maxRecDepth 20000 in
theorem begun_R : ∀ (i : Fin 112) (k : Fin 86), rr0 i.val k.val = none ∨ Rz1 i.val ((k.val : Nat) : Int) = rr0 i.val k.val := by decide +kernel
theorem rr0_far {i k : Nat} (h : 86 ≤ k) : rr0 i k = none := by
  rcases Nat.lt_or_ge i 112 with hi | hi
  · have hl : ∀ j : Fin 112, (rr0l.getD j.val []).length ≤ 86 := by decide +kernel
    unfold rr0
    rw [List.getD_eq_getElem?_getD (l := rr0l.getD i []), List.getElem?_eq_none (by have := hl ⟨i, hi⟩; exact Nat.le_trans this h)]
    rfl
  · exact rr0_big hi
theorem begun_S : Std 112 sh0 Rz1 := by
  refine ⟨Nat.le_refl _, fun _ _ => rfl, fun i k j e => ?_⟩
  rcases Nat.lt_or_ge i 112 with hi | hi
  · rcases Nat.lt_or_ge k 86 with hk | hk
    · rcases begun_R ⟨i, hi⟩ ⟨k, hk⟩ with h | h
      · have h : rr0 i k = none := h
        rw [h] at e; cases e
      · have h : Rz1 i (k : Int) = rr0 i k := h
        rw [h]; exact e
    · rw [rr0_far hk] at e; cases e
  · rw [rr0_big hi] at e; cases e
theorem begun_K : keyOk Lz1 := by
  have h : ∀ k : Fin 15, Lz1 60 ((k.val : Nat) : Int) = keyV ((k.val : Nat) : Int) := by decide +kernel
  intro k k0 k1
  have := h ⟨k.toNat, by omega⟩
  rw [show (((⟨k.toNat, by omega⟩ : Fin 15).val : Nat) : Int) = k by show ((k.toNat : Nat) : Int) = k; omega] at this
  exact this
theorem z00 : (0 : Int) ≤ 0 ∧ (0 : Int) ≤ 99 := by decide
theorem begun : Inv 112 sh0 Mz1 Lz1 Rz1 ∧ iDis 112 sh0 Rz1 := by
  have r7 : ∀ a : Int, Rz1 7 a = none := fun _ => rfl
  have h61 : Mz1 6 1 = 0 := rfl
  refine ⟨⟨begun_S, begun_K, ⟨rfl, by decide, fun z z0 z1 => ?_⟩, rfl, ⟨17, 24, Or.inl ⟨rfl, rfl⟩, rfl, rfl, Or.inl rfl, by decide, rfl, 0, 0, by decide, by decide, fun r r0 r1 => ?_⟩, ⟨⟨by decide, Or.inr rfl, by decide, by decide, fun k => z00, fun k k0 k1 => ?_⟩, ⟨by decide, Or.inl rfl, by decide, by decide, by decide, fun k => z00, fun k => ⟨Int.le_refl 0, by show (0 : Int) ≤ 20; decide⟩, fun k => ⟨Int.le_refl 0, by show (0 : Int) ≤ 9; decide⟩, fun k => ⟨Int.le_refl 0, by show (0 : Int) ≤ 9; decide⟩, fun k => ⟨Int.le_refl 0, by show (0 : Int) ≤ 6; decide⟩⟩, rfl, Or.inr ⟨rfl, rfl⟩, rfl, rfl, fun z _ _ => rfl, fun a a0 a1 => ?_⟩, ⟨rfl, by decide, fun k k0 k1 => ?_⟩, ⟨fun _ => 0, [], trivial, ?_, Or.inr ⟨rfl, rfl, rfl, rfl⟩⟩⟩, ⟨fun a x hx => ?_, fun a b x y _ hx _ => ?_⟩⟩
  · have : Mz1 1 1 = 0 := rfl
    omega
  · have : Mz1 17 7 = 0 := rfl
    omega
  · omega
  · omega
  · have : Mz1 9 3 = 0 := rfl
    omega
  · refine ⟨⟨rfl, rfl⟩, trivial, fun i i0 i1 => ?_, fun a a0 a1 => ⟨?_, ?_, ?_, ?_⟩⟩
    · exact (if_pos ⟨i0, i1⟩ : (if 0 ≤ i ∧ i < 6 then (-1 : Int) else (0 : Int)) = -1)
    all_goals exact (if_pos ⟨a0, a1⟩ : (if 0 ≤ a ∧ a < 6 then (-1 : Int) else (0 : Int)) = -1)
  · rw [r7] at hx; cases hx
  · rw [r7] at hx; cases hx
