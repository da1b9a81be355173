-- told
set_option maxHeartbeats 4000000 in
set_option maxRecDepth 100000 in
theorem c_X12_told2 (l : Launch) (D : va_G) (cy : Nat → ClassId) {N : Nat} {sh : MS} {ad : Nat → Nat} {M L : MI} {R : MR} (hS : Std N sh R) (a : Int) (b : Int) (ha : inR a) (hb : inR b) (hB : mBnd M) (hd : 0 ≤ a → a < M 53 37 → M 53 68 ≠ 0 → M 103 a ≠ -1 → inR (M 104 a - M 103 a)) : Ctr l D cy yX12_told wsX12_told ({ frames := 2, cells := 0, slots := 0, locals := 42 } : Room) N sh ad M L R [.ref (ad 53), .int (iz a), .int (iz b)] (pI N sh ad M L R (fun r => r = if M 53 68 ≠ 0 ∧ 0 ≤ a ∧ a < M 53 37 ∧ M 103 a ≠ -1 then (if b = 0 then M 102 a else if b = 1 then M 103 a else if b = 2 then M 104 a else if b = 3 then M 105 a else if b = 4 then M 104 a - M 103 a else -1) else -1)) := by
  refine Ctr.ofI (by decide) rfl (Nat.le_of_ble_eq_true rfl) ?_
  intro K hKl hKd hRm hnm X hret
  have X : VX K cX12_told 3 wsX12_told RX12 := X
  show V K 3 0 0 N sh ad M L R [(0, .ref (ad 53)), (1, .int (iz a)), (2, .int (iz b))] [] 0
  have b1 := hB.1
  refine v_aload_n X 0 dX12_told_0 rfl rfl ?_
  refine v_iload_n X 1 dX12_told_1 rfl rfl ?_
  refine v_callV X [.int (iz a)] hRm (c_X12_isIn _ _ _ hS a ⟨by omega, by omega⟩ hB) (gV bw_42_1 bw_42_2 bw_42_3 bw_1_5 bw_42_4) rfl ddX12_isIn (by decide) (Std.lt hS rfl) (Std.k hS rfl rfl) ⟨rfl, by decide⟩ (Nat.le_of_ble_eq_true rfl) dX12_told_2 (k_pB (fun b1 => ?_) (fun b1 => ?_))
  · skip
    refine v_if_ne X 10 dX12_told_5 (by decide) ⟨by decide, by decide⟩ (fun _ => ?_) (fun q => absurd (by decide) q)
    refine v_iload_n X 2 dX12_told_10 rfl rfl ?_
    by_cases u2 : b = 0
    · skip
      refine v_tabIn X 44 dX12_told_11 ⟨by omega, by omega⟩ (by omega) (by omega) (by rw [u2]; rfl) (by decide) ?_
      refine v_aload_n X 0 dX12_told_44 rfl rfl ?_
      refine gt_X12_pOff X iwX12 (Std.lt hS rfl) (Std.k hS rfl rfl) (List.mem_cons_of_mem _ bw_9_16) dX12_told_45 102 (Std.r hS 71 rfl) ?_
      refine v_iload_n X 1 dX12_told_48 rfl rfl ?_
      refine v_iald X (M 102 a) (Std.lt hS rfl) (Std.at hS rfl rfl) (by omega) (by omega) dX12_told_49 rfl (fun hr3 => ?_)
      refine hret _ _ _ _ _ _ _ _ _ _ _ (some (.int (iz (M 102 a)))) dX12_told_50 ⟨rfl, _, rfl⟩ (by decide) (by decide) (fun hmok => ?_)
      refine ⟨rfl, rfl, rfl, rfl, rfl, rfl, (M 102 a), rfl, ⟨by omega, by omega⟩, ?_⟩
      try dsimp only
      repeat' split
      all_goals omega
    by_cases u4 : b = 1
    · skip
      refine v_tabIn X 51 dX12_told_11 ⟨by omega, by omega⟩ (by omega) (by omega) (by rw [u4]; rfl) (by decide) ?_
      refine v_aload_n X 0 dX12_told_51 rfl rfl ?_
      refine gt_X12_pBegin X iwX12 (Std.lt hS rfl) (Std.k hS rfl rfl) (List.mem_cons_of_mem _ bw_9_17) dX12_told_52 103 (Std.r hS 72 rfl) ?_
      refine v_iload_n X 1 dX12_told_55 rfl rfl ?_
      refine v_iald X (M 103 a) (Std.lt hS rfl) (Std.at hS rfl rfl) (by omega) (by omega) dX12_told_56 rfl (fun hr5 => ?_)
      refine hret _ _ _ _ _ _ _ _ _ _ _ (some (.int (iz (M 103 a)))) dX12_told_57 ⟨rfl, _, rfl⟩ (by decide) (by decide) (fun hmok => ?_)
      refine ⟨rfl, rfl, rfl, rfl, rfl, rfl, (M 103 a), rfl, ⟨by omega, by omega⟩, ?_⟩
      try dsimp only
      repeat' split
      all_goals omega
    by_cases u6 : b = 2
    · skip
      refine v_tabIn X 58 dX12_told_11 ⟨by omega, by omega⟩ (by omega) (by omega) (by rw [u6]; rfl) (by decide) ?_
      refine v_aload_n X 0 dX12_told_58 rfl rfl ?_
      refine gt_X12_pEnd X iwX12 (Std.lt hS rfl) (Std.k hS rfl rfl) (List.mem_cons_of_mem _ bw_9_18) dX12_told_59 104 (Std.r hS 73 rfl) ?_
      refine v_iload_n X 1 dX12_told_62 rfl rfl ?_
      refine v_iald X (M 104 a) (Std.lt hS rfl) (Std.at hS rfl rfl) (by omega) (by omega) dX12_told_63 rfl (fun hr7 => ?_)
      refine hret _ _ _ _ _ _ _ _ _ _ _ (some (.int (iz (M 104 a)))) dX12_told_64 ⟨rfl, _, rfl⟩ (by decide) (by decide) (fun hmok => ?_)
      refine ⟨rfl, rfl, rfl, rfl, rfl, rfl, (M 104 a), rfl, ⟨by omega, by omega⟩, ?_⟩
      try dsimp only
      repeat' split
      all_goals omega
    by_cases u8 : b = 3
    · skip
      refine v_tabIn X 65 dX12_told_11 ⟨by omega, by omega⟩ (by omega) (by omega) (by rw [u8]; rfl) (by decide) ?_
      refine v_aload_n X 0 dX12_told_65 rfl rfl ?_
      refine gt_X12_pLand X iwX12 (Std.lt hS rfl) (Std.k hS rfl rfl) (List.mem_cons_of_mem _ bw_9_19) dX12_told_66 105 (Std.r hS 74 rfl) ?_
      refine v_iload_n X 1 dX12_told_69 rfl rfl ?_
      refine v_iald X (M 105 a) (Std.lt hS rfl) (Std.at hS rfl rfl) (by omega) (by omega) dX12_told_70 rfl (fun hr9 => ?_)
      refine hret _ _ _ _ _ _ _ _ _ _ _ (some (.int (iz (M 105 a)))) dX12_told_71 ⟨rfl, _, rfl⟩ (by decide) (by decide) (fun hmok => ?_)
      refine ⟨rfl, rfl, rfl, rfl, rfl, rfl, (M 105 a), rfl, ⟨by omega, by omega⟩, ?_⟩
      try dsimp only
      repeat' split
      all_goals omega
    by_cases u10 : b = 4
    · skip
      refine v_tabIn X 72 dX12_told_11 ⟨by omega, by omega⟩ (by omega) (by omega) (by rw [u10]; rfl) (by decide) ?_
      refine v_aload_n X 0 dX12_told_72 rfl rfl ?_
      refine gt_X12_pEnd X iwX12 (Std.lt hS rfl) (Std.k hS rfl rfl) (List.mem_cons_of_mem _ bw_9_18) dX12_told_73 104 (Std.r hS 73 rfl) ?_
      refine v_iload_n X 1 dX12_told_76 rfl rfl ?_
      refine v_iald X (M 104 a) (Std.lt hS rfl) (Std.at hS rfl rfl) (by omega) (by omega) dX12_told_77 rfl (fun hr11 => ?_)
      refine v_aload_n X 0 dX12_told_78 rfl rfl ?_
      refine gt_X12_pBegin X iwX12 (Std.lt hS rfl) (Std.k hS rfl rfl) (List.mem_cons_of_mem _ bw_9_17) dX12_told_79 103 (Std.r hS 72 rfl) ?_
      refine v_iload_n X 1 dX12_told_82 rfl rfl ?_
      refine v_iald X (M 103 a) (Std.lt hS rfl) (Std.at hS rfl rfl) (by omega) (by omega) dX12_told_83 rfl (fun hr12 => ?_)
      refine v_isub X dX12_told_84 ?_
      refine hret _ _ _ _ _ _ _ _ _ _ _ (some (.int (iz ((M 104 a) - (M 103 a))))) dX12_told_85 ⟨rfl, _, rfl⟩ (by decide) (by decide) (fun hmok => ?_)
      refine ⟨rfl, rfl, rfl, rfl, rfl, rfl, ((M 104 a) - (M 103 a)), rfl, ⟨by omega, by omega⟩, ?_⟩
      try dsimp only
      repeat' split
      all_goals omega
    refine v_tabOut X 86 dX12_told_11 ⟨by omega, by omega⟩ (by omega) (by decide) ?_
    refine v_iconst X dX12_told_86 ?_
    refine hret _ _ _ _ _ _ _ _ _ _ _ (some (.int (iz (-1)))) dX12_told_87 ⟨rfl, _, rfl⟩ (by decide) (by decide) (fun hmok => ?_)
    refine ⟨rfl, rfl, rfl, rfl, rfl, rfl, (-1), rfl, ⟨by decide, by decide⟩, ?_⟩
    try dsimp only
    repeat' split
    all_goals omega
  · skip
    refine v_if_ne X 10 dX12_told_5 (by decide) ⟨by decide, by decide⟩ (fun q => absurd q (by decide)) (fun _ => ?_)
    refine v_iconst X dX12_told_8 ?_
    refine hret _ _ _ _ _ _ _ _ _ _ _ (some (.int (iz (-1)))) dX12_told_9 ⟨rfl, _, rfl⟩ (by decide) (by decide) (fun hmok => ?_)
    refine ⟨rfl, rfl, rfl, rfl, rfl, rfl, (-1), rfl, ⟨by decide, by decide⟩, ?_⟩
    try dsimp only
    repeat' split
    all_goals omega

/-! THE BEGINNING: the constructors. What is not there yet is 0 and null, and has its shape -/
def Nul (N : Nat) (sh : MS) (M L : MI) (R : MR) : Prop := (∀ i, i < 112 → sh i = sh0 i) ∧ (∀ i, N ≤ i → M i = fun _ => 0) ∧ (∀ i, N ≤ i → L i = fun _ => 0) ∧ ∀ i, N ≤ i → R i = fun _ => none
section NulS
variable {N : Nat} {sh : MS} {M L : MI} {R : MR}
theorem Nul.at (h : Nul N sh M L R) {i : Nat} {x : Nat × Nat} (hi : Nat.ble (i + 1) 112 = true) (hx : sh0 i = x) : sh i = x := by rw [h.1 i (Nat.le_of_ble_eq_true hi)]; exact hx
theorem Nul.k (h : Nul N sh M L R) {i c : Nat} (hi : Nat.ble (i + 1) 112 = true) (hx : (sh0 i).1 = c) : (sh i).1 = c := by rw [h.1 i (Nat.le_of_ble_eq_true hi)]; exact hx
theorem Nul.up (h : Nul N sh M L R) (N1 : Nat) (hN : Nat.ble N N1 = true) : Nul N1 sh M L R :=
  ⟨h.1, fun i hi => h.2.1 i (Nat.le_trans (Nat.le_of_ble_eq_true hN) hi), fun i hi => h.2.2.1 i (Nat.le_trans (Nat.le_of_ble_eq_true hN) hi), fun i hi => h.2.2.2 i (Nat.le_trans (Nat.le_of_ble_eq_true hN) hi)⟩
theorem Nul.um (h : Nul N sh M L R) (j : Nat) (z v : Int) (hj : Nat.ble (j + 1) N = true) : Nul N sh (mu M j z v) L R :=
  ⟨h.1, fun i hi => by rw [mu_i _ _ _ (by have := Nat.le_of_ble_eq_true hj; omega)]; exact h.2.1 i hi, h.2.2.1, h.2.2.2⟩
theorem Nul.umL (h : Nul N sh M L R) (j : Nat) (z v : Int) (hj : Nat.ble (j + 1) N = true) : Nul N sh M (mu L j z v) R :=
  ⟨h.1, h.2.1, fun i hi => by rw [mu_i _ _ _ (by have := Nat.le_of_ble_eq_true hj; omega)]; exact h.2.2.1 i hi, h.2.2.2⟩
theorem Nul.row (h : Nul N sh M L R) (j : Nat) (f : Int → Int) (hj : Nat.ble (j + 1) N = true) : Nul N sh (mrow M j f) L R :=
  ⟨h.1, fun i hi => by rw [mrow_i _ _ (by have := Nat.le_of_ble_eq_true hj; omega)]; exact h.2.1 i hi, h.2.2.1, h.2.2.2⟩
theorem Nul.umR (h : Nul N sh M L R) (j : Nat) (z : Int) (v : Option Nat) (hj : Nat.ble (j + 1) N = true) : Nul N sh M L (mu R j z v) :=
  ⟨h.1, h.2.1, h.2.2.1, fun i hi => by rw [mu_i _ _ _ (by have := Nat.le_of_ble_eq_true hj; omega)]; exact h.2.2.2 i hi⟩
theorem mrow_id {α : Type} (M : Nat → Int → α) {i : Nat} {f : Int → α} (h : M i = f) : mrow M i f = M := by
  funext a b
  unfold mrow
  by_cases c : a = i
  · subst c; rw [if_pos rfl, h]
  · rw [if_neg c]
theorem up_id {α : Type} (f : Nat → α) {i : Nat} {x : α} (h : f i = x) : va_up f i x = f := by
  funext a
  by_cases c : a = i
  · subst c; rw [va_up_self, h]
  · rw [va_up_ne _ _ c]
theorem v_cl {K : VK} {nL cells slots N1 : Nat} {ad : Nat → Nat} {lv : List (Nat × Value)} {st : List Value} {pc : Nat} {x : Nat × Nat} (h : Nul N sh M L R) (hx : sh N = x) (hN : N + 1 = N1) (kk : V K nL cells slots N1 sh ad M L R lv st pc) : V K nL cells slots (N + 1) (va_up sh N x) ad (mrow M N (fun _ => 0)) (mrow L N (fun _ => 0)) (mrow R N (fun _ => none)) lv st pc := by
  subst hN
  rw [mrow_id M (h.2.1 N (Nat.le_refl _)), mrow_id L (h.2.2.1 N (Nat.le_refl _)), mrow_id R (h.2.2.2 N (Nat.le_refl _)), up_id sh hx]
  exact kk
end NulS

def iM_X9 (M : MI) : MI := (mu M 1 1 0)
def iR_X9 (R : MR) : MR := (mu R 1 0 (some 2))

-- Tape.<init>
set_option maxHeartbeats 4000000 in
set_option maxRecDepth 100000 in
theorem c_X9_init (l : Launch) (D : va_G) (cy : Nat → ClassId) {N : Nat} {sh : MS} {ad : Nat → Nat} {M L : MI} {R : MR} (hN : N = 2) (hz : Nul N sh M L R) : Ctr l D cy yX9_init wsX9_init ({ frames := 1, cells := 1, slots := 2000, locals := 12 } : Room) N sh ad M L R [.ref (ad 1)] (fun rv N' sh' ad' M' L' R' => rv = none ∧ N' = 3 ∧ sh' = sh ∧ (∀ j : Nat, j < 2 → ad' j = ad j) ∧ M' = iM_X9 M ∧ L' = L ∧ R' = iR_X9 R ∧ Nul N' sh' M' L' R') := by
  refine Ctr.ofV (by decide) rfl (Nat.le_of_ble_eq_true rfl) ?_
  intro K hKl hKd hRm hnm X hret
  have X : VX K cX9_init 1 wsX9_init RX9 := X
  show V K 1 0 0 N sh ad M L R [(0, .ref (ad 1))] [] 0
  subst hN
  have hac0 : ∀ j : Nat, j < 2 → ad j = ad j := fun _ _ => rfl
  refine v_aload_n X 0 dX9_init_0 rfl rfl ?_
  refine v_objInit X hRm (List.mem_cons_of_mem _ bw_3_2) (List.mem_cons_of_mem _ bw_1_10) (List.mem_cons_of_mem _ bw_1_11) ⟨Nat.le_of_ble_eq_true rfl, Nat.le_of_ble_eq_true rfl⟩ dX9_init_1 ?_
  refine v_aload_n X 0 dX9_init_4 rfl rfl ?_
  refine v_sipush X dX9_init_5 (by decide) ?_
  refine v_newaB X (n := 2000) hRm (List.mem_cons_of_mem _ bw_3_3) (by decide) ⟨Nat.le_of_ble_eq_true rfl, Nat.le_of_ble_eq_true rfl⟩ dX9_init_8 ?_
  intro ad1 had2
  rw [← had2 1 (Nat.le_of_ble_eq_true rfl)]
  have hac3 : ∀ j : Nat, j < 2 → ad1 j = ad j := fun j hj => (had2 j (by omega)).trans (hac0 j hj)
  refine v_cl hz (Nul.at hz rfl rfl) (N1 := 3) rfl ?_
  have hz4 := hz.up 3 rfl
  refine pt_X9_bytes X iwX9 (Nat.le_of_ble_eq_true rfl) (Nul.k hz4 rfl rfl) (List.mem_cons_of_mem _ bw_3_4) hnm rfl 2 (Nat.le_of_ble_eq_true rfl) dX9_init_10 ?_
  have hz5 := hz4.umR 1 0 (some 2) rfl
  refine v_aload_n X 0 dX9_init_13 rfl rfl ?_
  refine v_iconst X dX9_init_14 ?_
  refine pt_X9_size X iwX9 (Nat.le_of_ble_eq_true rfl) (Nul.k hz5 rfl rfl) (List.mem_cons_of_mem _ bw_3_5) ⟨by decide, by decide⟩ dX9_init_15 ?_
  have hz6 := hz5.um 1 1 0 rfl
  refine hret _ _ _ _ _ _ _ _ _ _ _ none dX9_init_18 ⟨rfl, rfl⟩ (by decide) (by decide) (fun hmok => ?_)
  exact ⟨rfl, rfl, rfl, hac3, rfl, rfl, rfl, hz6⟩

-- restart
set_option maxHeartbeats 4000000 in
set_option maxRecDepth 100000 in
theorem c_X6_restart0 (l : Launch) (D : va_G) (cy : Nat → ClassId) {N : Nat} {sh : MS} {ad : Nat → Nat} {M L : MI} {R : MR} (hN : N = 6) (hz : Nul N sh M L R) : Ctr l D cy yX6_restart wsX6_restart ({ frames := 0, cells := 0, slots := 0, locals := 0 } : Room) N sh ad M L R [.ref (ad 5)] (eV N sh ad L R (fun M' => M' = (mu (mu (mu (mu M 5 1 0) 5 2 26) 5 3 0) 5 4 0))) := by
  refine Ctr.ofV (by decide) rfl (Nat.le_of_ble_eq_true rfl) ?_
  intro K hKl hKd hRm hnm X hret
  have X : VX K cX6_restart 1 wsX6_restart RX6 := X
  show V K 1 0 0 N sh ad M L R [(0, .ref (ad 5))] [] 0
  subst hN
  have hac0 : ∀ j : Nat, j < 6 → ad j = ad j := fun _ _ => rfl
  refine v_aload_n X 0 dX6_restart_0 rfl rfl ?_
  refine v_iconst X dX6_restart_1 ?_
  refine pt_X6_next X iwX6 (Nat.le_of_ble_eq_true rfl) (Nul.k hz rfl rfl) (List.mem_cons_of_mem _ bw_4_5) ⟨by decide, by decide⟩ dX6_restart_2 ?_
  have hz1 := hz.um 5 1 0 rfl
  refine v_aload_n X 0 dX6_restart_5 rfl rfl ?_
  refine v_bipush X dX6_restart_6 (by decide) ?_
  refine pt_X6_kind X iwX6 (Nat.le_of_ble_eq_true rfl) (Nul.k hz1 rfl rfl) (List.mem_cons_of_mem _ bw_4_6) ⟨by decide, by decide⟩ dX6_restart_8 ?_
  have hz2 := hz1.um 5 2 26 rfl
  refine v_aload_n X 0 dX6_restart_11 rfl rfl ?_
  refine v_iconst X dX6_restart_12 ?_
  refine pt_X6_value X iwX6 (Nat.le_of_ble_eq_true rfl) (Nul.k hz2 rfl rfl) (List.mem_cons_of_mem _ bw_4_7) ⟨by decide, by decide⟩ dX6_restart_13 ?_
  have hz3 := hz2.um 5 3 0 rfl
  refine v_aload_n X 0 dX6_restart_16 rfl rfl ?_
  refine v_iconst X dX6_restart_17 ?_
  refine pt_X6_place X iwX6 (Nat.le_of_ble_eq_true rfl) (Nul.k hz3 rfl rfl) (List.mem_cons_of_mem _ bw_4_8) ⟨by decide, by decide⟩ dX6_restart_18 ?_
  have hz4 := hz3.um 5 4 0 rfl
  refine hret _ _ _ _ _ _ _ _ _ _ _ none dX6_restart_21 ⟨rfl, rfl⟩ (by decide) (by decide) (fun hmok => ?_)
  refine ⟨rfl, rfl, rfl, rfl, rfl, rfl, ?_⟩
  try dsimp only
  all_goals rfl

def iM_X6 (M : MI) : MI := (mu (mu (mu (mu M 5 1 0) 5 2 26) 5 3 0) 5 4 0)
def iR_X6 (R : MR) : MR := (mu R 5 0 (some 1))

-- Scanner.<init>
set_option maxHeartbeats 4000000 in
set_option maxRecDepth 100000 in
theorem c_X6_init (l : Launch) (D : va_G) (cy : Nat → ClassId) {N : Nat} {sh : MS} {ad : Nat → Nat} {M L : MI} {R : MR} (hN : N = 6) (hz : Nul N sh M L R) : Ctr l D cy yX6_init wsX6_init ({ frames := 1, cells := 0, slots := 0, locals := 20 } : Room) N sh ad M L R [.ref (ad 5), .ref (ad 1)] (fun rv N' sh' ad' M' L' R' => rv = none ∧ N' = 6 ∧ sh' = sh ∧ (∀ j : Nat, j < 6 → ad' j = ad j) ∧ M' = iM_X6 M ∧ L' = L ∧ R' = iR_X6 R ∧ Nul N' sh' M' L' R') := by
  refine Ctr.ofV (by decide) rfl (Nat.le_of_ble_eq_true rfl) ?_
  intro K hKl hKd hRm hnm X hret
  have X : VX K cX6_init 2 wsX6_init RX6 := X
  show V K 2 0 0 N sh ad M L R [(0, .ref (ad 5)), (1, .ref (ad 1))] [] 0
  subst hN
  have hac0 : ∀ j : Nat, j < 6 → ad j = ad j := fun _ _ => rfl
  refine v_aload_n X 0 dX6_init_0 rfl rfl ?_
  refine v_objInit X hRm (List.mem_cons_of_mem _ bw_3_23) (List.mem_cons_of_mem _ bw_1_10) (List.mem_cons_of_mem _ bw_1_11) ⟨Nat.le_of_ble_eq_true rfl, Nat.le_of_ble_eq_true rfl⟩ dX6_init_1 ?_
  refine v_aload_n X 0 dX6_init_4 rfl rfl ?_
  refine v_aload_n X 1 dX6_init_5 rfl rfl ?_
  refine pt_X6_tape X iwX6 (Nat.le_of_ble_eq_true rfl) (Nul.k hz rfl rfl) (List.mem_cons_of_mem _ bw_4_0) hnm rfl 1 (Nat.le_of_ble_eq_true rfl) dX6_init_6 ?_
  have hz1 := hz.umR 5 0 (some 1) rfl
  refine v_aload_n X 0 dX6_init_9 rfl rfl ?_
  refine v_callV X [] hRm (c_X6_restart0 _ _ _ rfl hz1) (gV bw_4_1 bw_4_2 bw_4_3 bw_3_14 bw_4_4) rfl ddX6_restart (by decide) (Nat.le_of_ble_eq_true rfl) (Nul.k hz1 rfl rfl) ⟨rfl, by decide⟩ (Nat.le_of_ble_eq_true rfl) dX6_init_10 (k_eV (fun M3 e2 => ?_))
  subst e2
  have hz4 := hz1.um 5 1 0 rfl
  have hz5 := hz4.um 5 2 26 rfl
  have hz6 := hz5.um 5 3 0 rfl
  have hz7 := hz6.um 5 4 0 rfl
  refine hret _ _ _ _ _ _ _ _ _ _ _ none dX6_init_13 ⟨rfl, rfl⟩ (by decide) (by decide) (fun hmok => ?_)
  exact ⟨rfl, rfl, rfl, hac0, rfl, rfl, rfl, hz7⟩

def iM_X5 (M : MI) : MI := (mu (mu (mu (mu (iM_X6 M) 3 2 0) 3 3 0) 3 4 0) 3 5 0)
def iR_X5 (R : MR) : MR := (mu (iR_X6 (mu R 3 1 (some 4))) 3 0 (some 5))

-- Reader.<init>
set_option maxHeartbeats 4000000 in
set_option maxRecDepth 100000 in
theorem c_X5_init (l : Launch) (D : va_G) (cy : Nat → ClassId) {N : Nat} {sh : MS} {ad : Nat → Nat} {M L : MI} {R : MR} (hN : N = 4) (hz : Nul N sh M L R) : Ctr l D cy yX5_init wsX5_init ({ frames := 2, cells := 2, slots := 29, locals := 41 } : Room) N sh ad M L R [.ref (ad 3), .ref (ad 1)] (fun rv N' sh' ad' M' L' R' => rv = none ∧ N' = 6 ∧ sh' = sh ∧ (∀ j : Nat, j < 4 → ad' j = ad j) ∧ M' = iM_X5 M ∧ L' = L ∧ R' = iR_X5 R ∧ Nul N' sh' M' L' R') := by
  refine Ctr.ofV (by decide) rfl (Nat.le_of_ble_eq_true rfl) ?_
  intro K hKl hKd hRm hnm X hret
  have X : VX K cX5_init 2 wsX5_init RX5 := X
  show V K 2 0 0 N sh ad M L R [(0, .ref (ad 3)), (1, .ref (ad 1))] [] 0
  subst hN
  have hac0 : ∀ j : Nat, j < 4 → ad j = ad j := fun _ _ => rfl
  refine v_aload_n X 0 dX5_init_0 rfl rfl ?_
  refine v_objInit X hRm (List.mem_cons_of_mem _ bw_3_9) (List.mem_cons_of_mem _ bw_1_10) (List.mem_cons_of_mem _ bw_1_11) ⟨Nat.le_of_ble_eq_true rfl, Nat.le_of_ble_eq_true rfl⟩ dX5_init_1 ?_
  refine v_aload_n X 0 dX5_init_4 rfl rfl ?_
  refine v_bipush X dX5_init_5 (by decide) ?_
  refine v_newaI X (n := 24) hRm (List.mem_cons_of_mem _ bw_3_10) (by decide) ⟨Nat.le_of_ble_eq_true rfl, Nat.le_of_ble_eq_true rfl⟩ dX5_init_7 ?_
  intro ad1 had2
  rw [← had2 3 (Nat.le_of_ble_eq_true rfl)]
  rw [← had2 1 (Nat.le_of_ble_eq_true rfl)]
  have hac3 : ∀ j : Nat, j < 4 → ad1 j = ad j := fun j hj => (had2 j (by omega)).trans (hac0 j hj)
  refine v_cl hz (Nul.at hz rfl rfl) (N1 := 5) rfl ?_
  have hz4 := hz.up 5 rfl
  refine pt_X5_waiting X iwX5 (Nat.le_of_ble_eq_true rfl) (Nul.k hz4 rfl rfl) (List.mem_cons_of_mem _ bw_3_11) hnm rfl 4 (Nat.le_of_ble_eq_true rfl) dX5_init_9 ?_
  have hz5 := hz4.umR 3 1 (some 4) rfl
  refine v_aload_n X 0 dX5_init_12 rfl rfl ?_
  refine v_new X (ci := 6) (n := 5) tyX6 iwX6 tyX6_ok rfl (by decide) (by intro k hk; rcases (show k = 0 ∨ k = 1 ∨ k = 2 ∨ k = 3 ∨ k = 4 by omega) with h | h | h | h | h <;> subst h <;> rfl) hRm (List.mem_cons_of_mem _ bw_3_12) (List.mem_cons_of_mem _ bw_3_13) (List.mem_cons_of_mem _ bw_3_14) ⟨Nat.le_of_ble_eq_true rfl, Nat.le_of_ble_eq_true rfl⟩ dX5_init_13 ?_
  intro ad6 had7
  rw [← had7 3 (Nat.le_of_ble_eq_true rfl)]
  rw [← had7 1 (Nat.le_of_ble_eq_true rfl)]
  have hac8 : ∀ j : Nat, j < 4 → ad6 j = ad j := fun j hj => (had7 j (by omega)).trans (hac3 j hj)
  refine v_cl hz5 (Nul.at hz5 rfl rfl) (N1 := 6) rfl ?_
  have hz9 := hz5.up 6 rfl
  refine v_dup X dX5_init_16 rfl ?_
  refine v_aload_n X 1 dX5_init_17 rfl rfl ?_
  refine v_callI X [.ref (ad6 1)] hRm (c_X6_init _ _ _ rfl hz9) (gCode bw_3_22) rfl (List.mem_cons_of_mem _ bw_3_14) (List.mem_cons_of_mem _ bw_3_20) (List.mem_cons_of_mem _ bw_3_21) rfl ddX6_init.2 (by decide) (Nat.le_of_ble_eq_true rfl) dX5_init_18 ?_
  rintro _ Nx10 shx11 adx12 Mx13 Lx14 Rx15 ⟨rfl, rfl, rfl, had16, rfl, rfl, rfl, hz17⟩
  rw [← had16 3 (Nat.le_of_ble_eq_true rfl)]
  rw [← had16 1 (Nat.le_of_ble_eq_true rfl)]
  rw [← had16 5 (Nat.le_of_ble_eq_true rfl)]
  have hac18 : ∀ j : Nat, j < 4 → adx12 j = ad j := fun j hj => (had16 j (by omega)).trans (hac8 j hj)
  refine pt_X5_scanner X iwX5 (Nat.le_of_ble_eq_true rfl) (Nul.k hz17 rfl rfl) (List.mem_cons_of_mem _ bw_3_15) hnm rfl 5 (Nat.le_of_ble_eq_true rfl) dX5_init_21 ?_
  have hz19 := hz17.umR 3 0 (some 5) rfl
  refine v_aload_n X 0 dX5_init_24 rfl rfl ?_
  refine v_iconst X dX5_init_25 ?_
  refine pt_X5_waitingSize X iwX5 (Nat.le_of_ble_eq_true rfl) (Nul.k hz19 rfl rfl) (List.mem_cons_of_mem _ bw_3_16) ⟨by decide, by decide⟩ dX5_init_26 ?_
  have hz20 := hz19.um 3 2 0 rfl
  refine v_aload_n X 0 dX5_init_29 rfl rfl ?_
  refine v_iconst X dX5_init_30 ?_
  refine pt_X5_state X iwX5 (Nat.le_of_ble_eq_true rfl) (Nul.k hz20 rfl rfl) (List.mem_cons_of_mem _ bw_3_17) ⟨by decide, by decide⟩ dX5_init_31 ?_
  have hz21 := hz20.um 3 3 0 rfl
  refine v_aload_n X 0 dX5_init_34 rfl rfl ?_
  refine v_iconst X dX5_init_35 ?_
  refine pt_X5_side X iwX5 (Nat.le_of_ble_eq_true rfl) (Nul.k hz21 rfl rfl) (List.mem_cons_of_mem _ bw_3_18) ⟨by decide, by decide⟩ dX5_init_36 ?_
  have hz22 := hz21.um 3 4 0 rfl
  refine v_aload_n X 0 dX5_init_39 rfl rfl ?_
  refine v_iconst X dX5_init_40 ?_
  refine pt_X5_depth X iwX5 (Nat.le_of_ble_eq_true rfl) (Nul.k hz22 rfl rfl) (List.mem_cons_of_mem _ bw_3_19) ⟨by decide, by decide⟩ dX5_init_41 ?_
  have hz23 := hz22.um 3 5 0 rfl
  refine hret _ _ _ _ _ _ _ _ _ _ _ none dX5_init_44 ⟨rfl, rfl⟩ (by decide) (by decide) (fun hmok => ?_)
  exact ⟨rfl, rfl, rfl, hac18, rfl, rfl, rfl, hz23⟩

def iM_X7 (M : MI) : MI := (mu (mu (mu (mu M 6 1 0) 6 3 1) 6 4 0) 6 5 100)
def iR_X7 (R : MR) : MR := (mu (mu R 6 0 (some 7)) 6 2 (some 8))

-- Show.<init>
set_option maxHeartbeats 4000000 in
set_option maxRecDepth 100000 in
theorem c_X7_init (l : Launch) (D : va_G) (cy : Nat → ClassId) {N : Nat} {sh : MS} {ad : Nat → Nat} {M L : MI} {R : MR} (hN : N = 7) (hz : Nul N sh M L R) : Ctr l D cy yX7_init wsX7_init ({ frames := 1, cells := 2, slots := 16, locals := 12 } : Room) N sh ad M L R [.ref (ad 6)] (fun rv N' sh' ad' M' L' R' => rv = none ∧ N' = 9 ∧ sh' = sh ∧ (∀ j : Nat, j < 7 → ad' j = ad j) ∧ M' = iM_X7 M ∧ L' = L ∧ R' = iR_X7 R ∧ Nul N' sh' M' L' R') := by
  refine Ctr.ofV (by decide) rfl (Nat.le_of_ble_eq_true rfl) ?_
  intro K hKl hKd hRm hnm X hret
  have X : VX K cX7_init 1 wsX7_init RX7 := X
  show V K 1 0 0 N sh ad M L R [(0, .ref (ad 6))] [] 0
  subst hN
  have hac0 : ∀ j : Nat, j < 7 → ad j = ad j := fun _ _ => rfl
  refine v_aload_n X 0 dX7_init_0 rfl rfl ?_
  refine v_objInit X hRm (List.mem_cons_of_mem _ bw_4_12) (List.mem_cons_of_mem _ bw_1_10) (List.mem_cons_of_mem _ bw_1_11) ⟨Nat.le_of_ble_eq_true rfl, Nat.le_of_ble_eq_true rfl⟩ dX7_init_1 ?_
  refine v_aload_n X 0 dX7_init_4 rfl rfl ?_
  refine v_bipush X dX7_init_5 (by decide) ?_
  refine v_newq17 X (n := 6) hRm (List.mem_cons_of_mem _ bw_4_13) (by decide) ⟨Nat.le_of_ble_eq_true rfl, Nat.le_of_ble_eq_true rfl⟩ dX7_init_7 ?_
  intro ad1 had2
  rw [← had2 6 (Nat.le_of_ble_eq_true rfl)]
  have hac3 : ∀ j : Nat, j < 7 → ad1 j = ad j := fun j hj => (had2 j (by omega)).trans (hac0 j hj)
  refine v_cl hz (Nul.at hz rfl rfl) (N1 := 8) rfl ?_
  have hz4 := hz.up 8 rfl
  refine pt_X7_acts X iwX7 (Nat.le_of_ble_eq_true rfl) (Nul.k hz4 rfl rfl) (List.mem_cons_of_mem _ bw_4_14) hnm rfl 7 (Nat.le_of_ble_eq_true rfl) dX7_init_10 ?_
  have hz5 := hz4.umR 6 0 (some 7) rfl
  refine v_aload_n X 0 dX7_init_13 rfl rfl ?_
  refine v_bipush X dX7_init_14 (by decide) ?_
  refine v_newaI X (n := 10) hRm (List.mem_cons_of_mem _ bw_3_10) (by decide) ⟨Nat.le_of_ble_eq_true rfl, Nat.le_of_ble_eq_true rfl⟩ dX7_init_16 ?_
  intro ad6 had7
  rw [← had7 6 (Nat.le_of_ble_eq_true rfl)]
  have hac8 : ∀ j : Nat, j < 7 → ad6 j = ad j := fun j hj => (had7 j (by omega)).trans (hac3 j hj)
  refine v_cl hz5 (Nul.at hz5 rfl rfl) (N1 := 9) rfl ?_
  have hz9 := hz5.up 9 rfl
  refine pt_X7_falls X iwX7 (Nat.le_of_ble_eq_true rfl) (Nul.k hz9 rfl rfl) (List.mem_cons_of_mem _ bw_4_15) hnm rfl 8 (Nat.le_of_ble_eq_true rfl) dX7_init_18 ?_
  have hz10 := hz9.umR 6 2 (some 8) rfl
  refine v_aload_n X 0 dX7_init_21 rfl rfl ?_
  refine v_iconst X dX7_init_22 ?_
  refine pt_X7_size X iwX7 (Nat.le_of_ble_eq_true rfl) (Nul.k hz10 rfl rfl) (List.mem_cons_of_mem _ bw_4_16) ⟨by decide, by decide⟩ dX7_init_23 ?_
  have hz11 := hz10.um 6 1 0 rfl
  refine v_aload_n X 0 dX7_init_26 rfl rfl ?_
  refine v_iconst X dX7_init_27 ?_
  refine pt_X7_fallsMissing X iwX7 (Nat.le_of_ble_eq_true rfl) (Nul.k hz11 rfl rfl) (List.mem_cons_of_mem _ bw_4_17) ⟨by decide, by decide⟩ dX7_init_28 ?_
  have hz12 := hz11.um 6 3 1 rfl
  refine v_aload_n X 0 dX7_init_31 rfl rfl ?_
  refine v_iconst X dX7_init_32 ?_
  refine pt_X7_wind X iwX7 (Nat.le_of_ble_eq_true rfl) (Nul.k hz12 rfl rfl) (List.mem_cons_of_mem _ bw_4_18) ⟨by decide, by decide⟩ dX7_init_33 ?_
  have hz13 := hz12.um 6 4 0 rfl
  refine v_aload_n X 0 dX7_init_36 rfl rfl ?_
  refine v_bipush X dX7_init_37 (by decide) ?_
  refine pt_X7_line X iwX7 (Nat.le_of_ble_eq_true rfl) (Nul.k hz13 rfl rfl) (List.mem_cons_of_mem _ bw_4_19) ⟨by decide, by decide⟩ dX7_init_39 ?_
  have hz14 := hz13.um 6 5 100 rfl
  refine hret _ _ _ _ _ _ _ _ _ _ _ none dX7_init_42 ⟨rfl, rfl⟩ (by decide) (by decide) (fun hmok => ?_)
  exact ⟨rfl, rfl, rfl, hac8, rfl, rfl, rfl, hz14⟩

def iM_X1 (M : MI) : MI := (mu M 9 3 0)
def iR_X1 (R : MR) : MR := (mu (mu (mu R 9 0 (some 10)) 9 1 (some 11)) 9 2 (some 12))

-- Facts.<init>
set_option maxHeartbeats 4000000 in
set_option maxRecDepth 100000 in
theorem c_X1_init (l : Launch) (D : va_G) (cy : Nat → ClassId) {N : Nat} {sh : MS} {ad : Nat → Nat} {M L : MI} {R : MR} (hN : N = 10) (hz : Nul N sh M L R) : Ctr l D cy yX1_init wsX1_init ({ frames := 1, cells := 3, slots := 300, locals := 12 } : Room) N sh ad M L R [.ref (ad 9)] (fun rv N' sh' ad' M' L' R' => rv = none ∧ N' = 13 ∧ sh' = sh ∧ (∀ j : Nat, j < 10 → ad' j = ad j) ∧ M' = iM_X1 M ∧ L' = L ∧ R' = iR_X1 R ∧ Nul N' sh' M' L' R') := by
  refine Ctr.ofV (by decide) rfl (Nat.le_of_ble_eq_true rfl) ?_
  intro K hKl hKd hRm hnm X hret
  have X : VX K cX1_init 1 wsX1_init RX1 := X
  show V K 1 0 0 N sh ad M L R [(0, .ref (ad 9))] [] 0
  subst hN
  have hac0 : ∀ j : Nat, j < 10 → ad j = ad j := fun _ _ => rfl
  refine v_aload_n X 0 dX1_init_0 rfl rfl ?_
  refine v_objInit X hRm (List.mem_cons_of_mem _ bw_4_23) (List.mem_cons_of_mem _ bw_1_10) (List.mem_cons_of_mem _ bw_1_11) ⟨Nat.le_of_ble_eq_true rfl, Nat.le_of_ble_eq_true rfl⟩ dX1_init_1 ?_
  refine v_aload_n X 0 dX1_init_4 rfl rfl ?_
  refine v_bipush X dX1_init_5 (by decide) ?_
  refine v_newaI X (n := 100) hRm (List.mem_cons_of_mem _ bw_3_10) (by decide) ⟨Nat.le_of_ble_eq_true rfl, Nat.le_of_ble_eq_true rfl⟩ dX1_init_7 ?_
  intro ad1 had2
  rw [← had2 9 (Nat.le_of_ble_eq_true rfl)]
  have hac3 : ∀ j : Nat, j < 10 → ad1 j = ad j := fun j hj => (had2 j (by omega)).trans (hac0 j hj)
  refine v_cl hz (Nul.at hz rfl rfl) (N1 := 11) rfl ?_
  have hz4 := hz.up 11 rfl
  refine pt_X1_kinds X iwX1 (Nat.le_of_ble_eq_true rfl) (Nul.k hz4 rfl rfl) (List.mem_cons_of_mem _ bw_5_0) hnm rfl 10 (Nat.le_of_ble_eq_true rfl) dX1_init_9 ?_
  have hz5 := hz4.umR 9 0 (some 10) rfl
  refine v_aload_n X 0 dX1_init_12 rfl rfl ?_
  refine v_bipush X dX1_init_13 (by decide) ?_
  refine v_newaI X (n := 100) hRm (List.mem_cons_of_mem _ bw_3_10) (by decide) ⟨Nat.le_of_ble_eq_true rfl, Nat.le_of_ble_eq_true rfl⟩ dX1_init_15 ?_
  intro ad6 had7
  rw [← had7 9 (Nat.le_of_ble_eq_true rfl)]
  have hac8 : ∀ j : Nat, j < 10 → ad6 j = ad j := fun j hj => (had7 j (by omega)).trans (hac3 j hj)
  refine v_cl hz5 (Nul.at hz5 rfl rfl) (N1 := 12) rfl ?_
  have hz9 := hz5.up 12 rfl
  refine pt_X1_firsts X iwX1 (Nat.le_of_ble_eq_true rfl) (Nul.k hz9 rfl rfl) (List.mem_cons_of_mem _ bw_5_1) hnm rfl 11 (Nat.le_of_ble_eq_true rfl) dX1_init_17 ?_
  have hz10 := hz9.umR 9 1 (some 11) rfl
  refine v_aload_n X 0 dX1_init_20 rfl rfl ?_
  refine v_bipush X dX1_init_21 (by decide) ?_
  refine v_newaI X (n := 100) hRm (List.mem_cons_of_mem _ bw_3_10) (by decide) ⟨Nat.le_of_ble_eq_true rfl, Nat.le_of_ble_eq_true rfl⟩ dX1_init_23 ?_
  intro ad11 had12
  rw [← had12 9 (Nat.le_of_ble_eq_true rfl)]
  have hac13 : ∀ j : Nat, j < 10 → ad11 j = ad j := fun j hj => (had12 j (by omega)).trans (hac8 j hj)
  refine v_cl hz10 (Nul.at hz10 rfl rfl) (N1 := 13) rfl ?_
  have hz14 := hz10.up 13 rfl
  refine pt_X1_seconds X iwX1 (Nat.le_of_ble_eq_true rfl) (Nul.k hz14 rfl rfl) (List.mem_cons_of_mem _ bw_5_2) hnm rfl 12 (Nat.le_of_ble_eq_true rfl) dX1_init_25 ?_
  have hz15 := hz14.umR 9 2 (some 12) rfl
  refine v_aload_n X 0 dX1_init_28 rfl rfl ?_
  refine v_iconst X dX1_init_29 ?_
  refine pt_X1_size X iwX1 (Nat.le_of_ble_eq_true rfl) (Nul.k hz15 rfl rfl) (List.mem_cons_of_mem _ bw_5_3) ⟨by decide, by decide⟩ dX1_init_30 ?_
  have hz16 := hz15.um 9 3 0 rfl
  refine hret _ _ _ _ _ _ _ _ _ _ _ none dX1_init_33 ⟨rfl, rfl⟩ (by decide) (by decide) (fun hmok => ?_)
  exact ⟨rfl, rfl, rfl, hac13, rfl, rfl, rfl, hz16⟩

def iM_X8 (M : MI) : MI := (mrow (mrow M 14 (filz (M 14) 240 9)) 15 (filz ((mrow M 14 (filz (M 14) 240 9)) 15) 240 240))
def iR_X8 (R : MR) : MR := (mu (mu (mu R 13 0 (some 14)) 13 1 (some 15)) 13 2 (some 16))

-- Sky.<init>
set_option maxHeartbeats 4000000 in
set_option maxRecDepth 100000 in
theorem c_X8_init (l : Launch) (D : va_G) (cy : Nat → ClassId) {N : Nat} {sh : MS} {ad : Nat → Nat} {M L : MI} {R : MR} (hN : N = 14) (hz : Nul N sh M L R) : Ctr l D cy yX8_init wsX8_init ({ frames := 1, cells := 3, slots := 486, locals := 23 } : Room) N sh ad M L R [.ref (ad 13)] (fun rv N' sh' ad' M' L' R' => rv = none ∧ N' = 17 ∧ sh' = sh ∧ (∀ j : Nat, j < 14 → ad' j = ad j) ∧ M' = iM_X8 M ∧ L' = L ∧ R' = iR_X8 R ∧ Nul N' sh' M' L' R') := by
  refine Ctr.ofV (by decide) rfl (Nat.le_of_ble_eq_true rfl) ?_
  intro K hKl hKd hRm hnm X hret
  have X : VX K cX8_init 1 wsX8_init RX8 := X
  show V K 1 0 0 N sh ad M L R [(0, .ref (ad 13))] [] 0
  subst hN
  have hac0 : ∀ j : Nat, j < 14 → ad j = ad j := fun _ _ => rfl
  refine v_aload_n X 0 dX8_init_0 rfl rfl ?_
  refine v_objInit X hRm (List.mem_cons_of_mem _ bw_5_7) (List.mem_cons_of_mem _ bw_1_10) (List.mem_cons_of_mem _ bw_1_11) ⟨Nat.le_of_ble_eq_true rfl, Nat.le_of_ble_eq_true rfl⟩ dX8_init_1 ?_
  refine v_aload_n X 0 dX8_init_4 rfl rfl ?_
  refine v_sipush X dX8_init_5 (by decide) ?_
  refine v_newaI X (n := 240) hRm (List.mem_cons_of_mem _ bw_3_10) (by decide) ⟨Nat.le_of_ble_eq_true rfl, Nat.le_of_ble_eq_true rfl⟩ dX8_init_8 ?_
  intro ad1 had2
  rw [← had2 13 (Nat.le_of_ble_eq_true rfl)]
  have hac3 : ∀ j : Nat, j < 14 → ad1 j = ad j := fun j hj => (had2 j (by omega)).trans (hac0 j hj)
  refine v_cl hz (Nul.at hz rfl rfl) (N1 := 15) rfl ?_
  have hz4 := hz.up 15 rfl
  refine pt_X8_base X iwX8 (Nat.le_of_ble_eq_true rfl) (Nul.k hz4 rfl rfl) (List.mem_cons_of_mem _ bw_5_8) hnm rfl 14 (Nat.le_of_ble_eq_true rfl) dX8_init_10 ?_
  have hz5 := hz4.umR 13 0 (some 14) rfl
  refine v_aload_n X 0 dX8_init_13 rfl rfl ?_
  refine v_sipush X dX8_init_14 (by decide) ?_
  refine v_newaI X (n := 240) hRm (List.mem_cons_of_mem _ bw_3_10) (by decide) ⟨Nat.le_of_ble_eq_true rfl, Nat.le_of_ble_eq_true rfl⟩ dX8_init_17 ?_
  intro ad6 had7
  rw [← had7 13 (Nat.le_of_ble_eq_true rfl)]
  have hac8 : ∀ j : Nat, j < 14 → ad6 j = ad j := fun j hj => (had7 j (by omega)).trans (hac3 j hj)
  refine v_cl hz5 (Nul.at hz5 rfl rfl) (N1 := 16) rfl ?_
  have hz9 := hz5.up 16 rfl
  refine pt_X8_openTill X iwX8 (Nat.le_of_ble_eq_true rfl) (Nul.k hz9 rfl rfl) (List.mem_cons_of_mem _ bw_5_9) hnm rfl 15 (Nat.le_of_ble_eq_true rfl) dX8_init_19 ?_
  have hz10 := hz9.umR 13 1 (some 15) rfl
  refine v_aload_n X 0 dX8_init_22 rfl rfl ?_
  refine v_bipush X dX8_init_23 (by decide) ?_
  refine v_newaI X (n := 6) hRm (List.mem_cons_of_mem _ bw_3_10) (by decide) ⟨Nat.le_of_ble_eq_true rfl, Nat.le_of_ble_eq_true rfl⟩ dX8_init_25 ?_
  intro ad11 had12
  rw [← had12 13 (Nat.le_of_ble_eq_true rfl)]
  have hac13 : ∀ j : Nat, j < 14 → ad11 j = ad j := fun j hj => (had12 j (by omega)).trans (hac8 j hj)
  refine v_cl hz10 (Nul.at hz10 rfl rfl) (N1 := 17) rfl ?_
  have hz14 := hz10.up 17 rfl
  refine pt_X8_ready X iwX8 (Nat.le_of_ble_eq_true rfl) (Nul.k hz14 rfl rfl) (List.mem_cons_of_mem _ bw_5_10) hnm rfl 16 (Nat.le_of_ble_eq_true rfl) dX8_init_27 ?_
  have hz15 := hz14.umR 13 2 (some 16) rfl
  refine v_aload_n X 0 dX8_init_30 rfl rfl ?_
  refine gt_X8_base X iwX8 (Nat.le_of_ble_eq_true rfl) (Nul.k hz15 rfl rfl) (List.mem_cons_of_mem _ bw_5_8) dX8_init_31 14 rfl ?_
  refine v_bipush X dX8_init_34 (by decide) ?_
  refine v_callSO X [.ref (ad11 14), .int (iz 9)] hRm (c_J7_fill_53178 _ _ _ 14 240 9 (Nat.le_of_ble_eq_true rfl) (Nul.at hz15 rfl rfl) ⟨by decide, by decide⟩ (by decide)) (gSO bw_5_11 bw_5_12 bw_5_13 bw_5_14) rfl ddJ7_fill_53178.2 (by decide) (Nat.le_of_ble_eq_true rfl) dX8_init_36 (k_eV (fun M17 e16 => ?_))
  subst e16
  have hz18 := hz15.row 14 (filz (M 14) 240 9) rfl
  refine v_aload_n X 0 dX8_init_39 rfl rfl ?_
  refine gt_X8_openTill X iwX8 (Nat.le_of_ble_eq_true rfl) (Nul.k hz18 rfl rfl) (List.mem_cons_of_mem _ bw_5_9) dX8_init_40 15 rfl ?_
  refine v_sipush X dX8_init_43 (by decide) ?_
  refine v_callSO X [.ref (ad11 15), .int (iz 240)] hRm (c_J7_fill_53178 _ _ _ 15 240 240 (Nat.le_of_ble_eq_true rfl) (Nul.at hz18 rfl rfl) ⟨by decide, by decide⟩ (by decide)) (gSO bw_5_11 bw_5_12 bw_5_13 bw_5_14) rfl ddJ7_fill_53178.2 (by decide) (Nat.le_of_ble_eq_true rfl) dX8_init_46 (k_eV (fun M20 e19 => ?_))
  subst e19
  have hz21 := hz18.row 15 (filz ((mrow M 14 (filz (M 14) 240 9)) 15) 240 240) rfl
  refine hret _ _ _ _ _ _ _ _ _ _ _ none dX8_init_49 ⟨rfl, rfl⟩ (by decide) (by decide) (fun hmok => ?_)
  exact ⟨rfl, rfl, rfl, hac13, rfl, rfl, rfl, hz21⟩

def iM_X10_17 (M : MI) : MI := (mu (mu M 17 6 0) 17 7 0)
def iR_X10_17 (R : MR) : MR := (mu (mu (mu (mu (mu (mu R 17 0 (some 18)) 17 1 (some 19)) 17 2 (some 20)) 17 3 (some 21)) 17 4 (some 22)) 17 5 (some 23))

-- Text.<init>
set_option maxHeartbeats 4000000 in
set_option maxRecDepth 100000 in
theorem c_X10_init_17 (l : Launch) (D : va_G) (cy : Nat → ClassId) {N : Nat} {sh : MS} {ad : Nat → Nat} {M L : MI} {R : MR} (hN : N = 18) (hz : Nul N sh M L R) : Ctr l D cy yX10_init wsX10_init ({ frames := 1, cells := 6, slots := 496, locals := 12 } : Room) N sh ad M L R [.ref (ad 17)] (fun rv N' sh' ad' M' L' R' => rv = none ∧ N' = 24 ∧ sh' = sh ∧ (∀ j : Nat, j < 18 → ad' j = ad j) ∧ M' = iM_X10_17 M ∧ L' = L ∧ R' = iR_X10_17 R ∧ Nul N' sh' M' L' R') := by
  refine Ctr.ofV (by decide) rfl (Nat.le_of_ble_eq_true rfl) ?_
  intro K hKl hKd hRm hnm X hret
  have X : VX K cX10_init 1 wsX10_init RX10 := X
  show V K 1 0 0 N sh ad M L R [(0, .ref (ad 17))] [] 0
  subst hN
  have hac0 : ∀ j : Nat, j < 18 → ad j = ad j := fun _ _ => rfl
  refine v_aload_n X 0 dX10_init_0 rfl rfl ?_
  refine v_objInit X hRm (List.mem_cons_of_mem _ bw_5_18) (List.mem_cons_of_mem _ bw_1_10) (List.mem_cons_of_mem _ bw_1_11) ⟨Nat.le_of_ble_eq_true rfl, Nat.le_of_ble_eq_true rfl⟩ dX10_init_1 ?_
  refine v_aload_n X 0 dX10_init_4 rfl rfl ?_
  refine v_bipush X dX10_init_5 (by decide) ?_
  refine v_newaI X (n := 16) hRm (List.mem_cons_of_mem _ bw_3_10) (by decide) ⟨Nat.le_of_ble_eq_true rfl, Nat.le_of_ble_eq_true rfl⟩ dX10_init_7 ?_
  intro ad1 had2
  rw [← had2 17 (Nat.le_of_ble_eq_true rfl)]
  have hac3 : ∀ j : Nat, j < 18 → ad1 j = ad j := fun j hj => (had2 j (by omega)).trans (hac0 j hj)
  refine v_cl hz (Nul.at hz rfl rfl) (N1 := 19) rfl ?_
  have hz4 := hz.up 19 rfl
  refine pt_X10_kinds X iwX10 (Nat.le_of_ble_eq_true rfl) (Nul.k hz4 rfl rfl) (List.mem_cons_of_mem _ bw_5_19) hnm rfl 18 (Nat.le_of_ble_eq_true rfl) dX10_init_9 ?_
  have hz5 := hz4.umR 17 0 (some 18) rfl
  refine v_aload_n X 0 dX10_init_12 rfl rfl ?_
  refine v_bipush X dX10_init_13 (by decide) ?_
  refine v_newaI X (n := 16) hRm (List.mem_cons_of_mem _ bw_3_10) (by decide) ⟨Nat.le_of_ble_eq_true rfl, Nat.le_of_ble_eq_true rfl⟩ dX10_init_15 ?_
  intro ad6 had7
  rw [← had7 17 (Nat.le_of_ble_eq_true rfl)]
  have hac8 : ∀ j : Nat, j < 18 → ad6 j = ad j := fun j hj => (had7 j (by omega)).trans (hac3 j hj)
  refine v_cl hz5 (Nul.at hz5 rfl rfl) (N1 := 20) rfl ?_
  have hz9 := hz5.up 20 rfl
  refine pt_X10_starts X iwX10 (Nat.le_of_ble_eq_true rfl) (Nul.k hz9 rfl rfl) (List.mem_cons_of_mem _ bw_5_20) hnm rfl 19 (Nat.le_of_ble_eq_true rfl) dX10_init_17 ?_
  have hz10 := hz9.umR 17 1 (some 19) rfl
  refine v_aload_n X 0 dX10_init_20 rfl rfl ?_
  refine v_bipush X dX10_init_21 (by decide) ?_
  refine v_newaI X (n := 16) hRm (List.mem_cons_of_mem _ bw_3_10) (by decide) ⟨Nat.le_of_ble_eq_true rfl, Nat.le_of_ble_eq_true rfl⟩ dX10_init_23 ?_
  intro ad11 had12
  rw [← had12 17 (Nat.le_of_ble_eq_true rfl)]
  have hac13 : ∀ j : Nat, j < 18 → ad11 j = ad j := fun j hj => (had12 j (by omega)).trans (hac8 j hj)
  refine v_cl hz10 (Nul.at hz10 rfl rfl) (N1 := 21) rfl ?_
  have hz14 := hz10.up 21 rfl
  refine pt_X10_conditions X iwX10 (Nat.le_of_ble_eq_true rfl) (Nul.k hz14 rfl rfl) (List.mem_cons_of_mem _ bw_5_21) hnm rfl 20 (Nat.le_of_ble_eq_true rfl) dX10_init_25 ?_
  have hz15 := hz14.umR 17 2 (some 20) rfl
  refine v_aload_n X 0 dX10_init_28 rfl rfl ?_
  refine v_bipush X dX10_init_29 (by decide) ?_
  refine v_newaI X (n := 16) hRm (List.mem_cons_of_mem _ bw_3_10) (by decide) ⟨Nat.le_of_ble_eq_true rfl, Nat.le_of_ble_eq_true rfl⟩ dX10_init_31 ?_
  intro ad16 had17
  rw [← had17 17 (Nat.le_of_ble_eq_true rfl)]
  have hac18 : ∀ j : Nat, j < 18 → ad16 j = ad j := fun j hj => (had17 j (by omega)).trans (hac13 j hj)
  refine v_cl hz15 (Nul.at hz15 rfl rfl) (N1 := 22) rfl ?_
  have hz19 := hz15.up 22 rfl
  refine pt_X10_ends X iwX10 (Nat.le_of_ble_eq_true rfl) (Nul.k hz19 rfl rfl) (List.mem_cons_of_mem _ bw_5_22) hnm rfl 21 (Nat.le_of_ble_eq_true rfl) dX10_init_33 ?_
  have hz20 := hz19.umR 17 3 (some 21) rfl
  refine v_aload_n X 0 dX10_init_36 rfl rfl ?_
  refine v_sipush X dX10_init_37 (by decide) ?_
  refine v_newaI X (n := 400) hRm (List.mem_cons_of_mem _ bw_3_10) (by decide) ⟨Nat.le_of_ble_eq_true rfl, Nat.le_of_ble_eq_true rfl⟩ dX10_init_40 ?_
  intro ad21 had22
  rw [← had22 17 (Nat.le_of_ble_eq_true rfl)]
  have hac23 : ∀ j : Nat, j < 18 → ad21 j = ad j := fun j hj => (had22 j (by omega)).trans (hac18 j hj)
  refine v_cl hz20 (Nul.at hz20 rfl rfl) (N1 := 23) rfl ?_
  have hz24 := hz20.up 23 rfl
  refine pt_X10_code X iwX10 (Nat.le_of_ble_eq_true rfl) (Nul.k hz24 rfl rfl) (List.mem_cons_of_mem _ bw_5_23) hnm rfl 22 (Nat.le_of_ble_eq_true rfl) dX10_init_42 ?_
  have hz25 := hz24.umR 17 4 (some 22) rfl
  refine v_aload_n X 0 dX10_init_45 rfl rfl ?_
  refine v_bipush X dX10_init_46 (by decide) ?_
  refine v_newaI X (n := 32) hRm (List.mem_cons_of_mem _ bw_3_10) (by decide) ⟨Nat.le_of_ble_eq_true rfl, Nat.le_of_ble_eq_true rfl⟩ dX10_init_48 ?_
  intro ad26 had27
  rw [← had27 17 (Nat.le_of_ble_eq_true rfl)]
  have hac28 : ∀ j : Nat, j < 18 → ad26 j = ad j := fun j hj => (had27 j (by omega)).trans (hac23 j hj)
  refine v_cl hz25 (Nul.at hz25 rfl rfl) (N1 := 24) rfl ?_
  have hz29 := hz25.up 24 rfl
  refine pt_X10_stack X iwX10 (Nat.le_of_ble_eq_true rfl) (Nul.k hz29 rfl rfl) (List.mem_cons_of_mem _ bw_6_0) hnm rfl 23 (Nat.le_of_ble_eq_true rfl) dX10_init_50 ?_
  have hz30 := hz29.umR 17 5 (some 23) rfl
  refine v_aload_n X 0 dX10_init_53 rfl rfl ?_
  refine v_iconst X dX10_init_54 ?_
  refine pt_X10_codeSize X iwX10 (Nat.le_of_ble_eq_true rfl) (Nul.k hz30 rfl rfl) (List.mem_cons_of_mem _ bw_6_1) ⟨by decide, by decide⟩ dX10_init_55 ?_
  have hz31 := hz30.um 17 6 0 rfl
  refine v_aload_n X 0 dX10_init_58 rfl rfl ?_
  refine v_iconst X dX10_init_59 ?_
  refine pt_X10_size X iwX10 (Nat.le_of_ble_eq_true rfl) (Nul.k hz31 rfl rfl) (List.mem_cons_of_mem _ bw_6_2) ⟨by decide, by decide⟩ dX10_init_60 ?_
  have hz32 := hz31.um 17 7 0 rfl
  refine hret _ _ _ _ _ _ _ _ _ _ _ none dX10_init_63 ⟨rfl, rfl⟩ (by decide) (by decide) (fun hmok => ?_)
  exact ⟨rfl, rfl, rfl, hac28, rfl, rfl, rfl, hz32⟩

def iM_X10_24 (M : MI) : MI := (mu (mu M 24 6 0) 24 7 0)
def iR_X10_24 (R : MR) : MR := (mu (mu (mu (mu (mu (mu R 24 0 (some 25)) 24 1 (some 26)) 24 2 (some 27)) 24 3 (some 28)) 24 4 (some 29)) 24 5 (some 30))

-- Text.<init>
set_option maxHeartbeats 4000000 in
set_option maxRecDepth 100000 in
theorem c_X10_init_24 (l : Launch) (D : va_G) (cy : Nat → ClassId) {N : Nat} {sh : MS} {ad : Nat → Nat} {M L : MI} {R : MR} (hN : N = 25) (hz : Nul N sh M L R) : Ctr l D cy yX10_init wsX10_init ({ frames := 1, cells := 6, slots := 496, locals := 12 } : Room) N sh ad M L R [.ref (ad 24)] (fun rv N' sh' ad' M' L' R' => rv = none ∧ N' = 31 ∧ sh' = sh ∧ (∀ j : Nat, j < 25 → ad' j = ad j) ∧ M' = iM_X10_24 M ∧ L' = L ∧ R' = iR_X10_24 R ∧ Nul N' sh' M' L' R') := by
  refine Ctr.ofV (by decide) rfl (Nat.le_of_ble_eq_true rfl) ?_
  intro K hKl hKd hRm hnm X hret
  have X : VX K cX10_init 1 wsX10_init RX10 := X
  show V K 1 0 0 N sh ad M L R [(0, .ref (ad 24))] [] 0
  subst hN
  have hac0 : ∀ j : Nat, j < 25 → ad j = ad j := fun _ _ => rfl
  refine v_aload_n X 0 dX10_init_0 rfl rfl ?_
  refine v_objInit X hRm (List.mem_cons_of_mem _ bw_5_18) (List.mem_cons_of_mem _ bw_1_10) (List.mem_cons_of_mem _ bw_1_11) ⟨Nat.le_of_ble_eq_true rfl, Nat.le_of_ble_eq_true rfl⟩ dX10_init_1 ?_
  refine v_aload_n X 0 dX10_init_4 rfl rfl ?_
  refine v_bipush X dX10_init_5 (by decide) ?_
  refine v_newaI X (n := 16) hRm (List.mem_cons_of_mem _ bw_3_10) (by decide) ⟨Nat.le_of_ble_eq_true rfl, Nat.le_of_ble_eq_true rfl⟩ dX10_init_7 ?_
  intro ad1 had2
  rw [← had2 24 (Nat.le_of_ble_eq_true rfl)]
  have hac3 : ∀ j : Nat, j < 25 → ad1 j = ad j := fun j hj => (had2 j (by omega)).trans (hac0 j hj)
  refine v_cl hz (Nul.at hz rfl rfl) (N1 := 26) rfl ?_
  have hz4 := hz.up 26 rfl
  refine pt_X10_kinds X iwX10 (Nat.le_of_ble_eq_true rfl) (Nul.k hz4 rfl rfl) (List.mem_cons_of_mem _ bw_5_19) hnm rfl 25 (Nat.le_of_ble_eq_true rfl) dX10_init_9 ?_
  have hz5 := hz4.umR 24 0 (some 25) rfl
  refine v_aload_n X 0 dX10_init_12 rfl rfl ?_
  refine v_bipush X dX10_init_13 (by decide) ?_
  refine v_newaI X (n := 16) hRm (List.mem_cons_of_mem _ bw_3_10) (by decide) ⟨Nat.le_of_ble_eq_true rfl, Nat.le_of_ble_eq_true rfl⟩ dX10_init_15 ?_
  intro ad6 had7
  rw [← had7 24 (Nat.le_of_ble_eq_true rfl)]
  have hac8 : ∀ j : Nat, j < 25 → ad6 j = ad j := fun j hj => (had7 j (by omega)).trans (hac3 j hj)
  refine v_cl hz5 (Nul.at hz5 rfl rfl) (N1 := 27) rfl ?_
  have hz9 := hz5.up 27 rfl
  refine pt_X10_starts X iwX10 (Nat.le_of_ble_eq_true rfl) (Nul.k hz9 rfl rfl) (List.mem_cons_of_mem _ bw_5_20) hnm rfl 26 (Nat.le_of_ble_eq_true rfl) dX10_init_17 ?_
  have hz10 := hz9.umR 24 1 (some 26) rfl
  refine v_aload_n X 0 dX10_init_20 rfl rfl ?_
  refine v_bipush X dX10_init_21 (by decide) ?_
  refine v_newaI X (n := 16) hRm (List.mem_cons_of_mem _ bw_3_10) (by decide) ⟨Nat.le_of_ble_eq_true rfl, Nat.le_of_ble_eq_true rfl⟩ dX10_init_23 ?_
  intro ad11 had12
  rw [← had12 24 (Nat.le_of_ble_eq_true rfl)]
  have hac13 : ∀ j : Nat, j < 25 → ad11 j = ad j := fun j hj => (had12 j (by omega)).trans (hac8 j hj)
  refine v_cl hz10 (Nul.at hz10 rfl rfl) (N1 := 28) rfl ?_
  have hz14 := hz10.up 28 rfl
  refine pt_X10_conditions X iwX10 (Nat.le_of_ble_eq_true rfl) (Nul.k hz14 rfl rfl) (List.mem_cons_of_mem _ bw_5_21) hnm rfl 27 (Nat.le_of_ble_eq_true rfl) dX10_init_25 ?_
  have hz15 := hz14.umR 24 2 (some 27) rfl
  refine v_aload_n X 0 dX10_init_28 rfl rfl ?_
  refine v_bipush X dX10_init_29 (by decide) ?_
  refine v_newaI X (n := 16) hRm (List.mem_cons_of_mem _ bw_3_10) (by decide) ⟨Nat.le_of_ble_eq_true rfl, Nat.le_of_ble_eq_true rfl⟩ dX10_init_31 ?_
  intro ad16 had17
  rw [← had17 24 (Nat.le_of_ble_eq_true rfl)]
  have hac18 : ∀ j : Nat, j < 25 → ad16 j = ad j := fun j hj => (had17 j (by omega)).trans (hac13 j hj)
  refine v_cl hz15 (Nul.at hz15 rfl rfl) (N1 := 29) rfl ?_
  have hz19 := hz15.up 29 rfl
  refine pt_X10_ends X iwX10 (Nat.le_of_ble_eq_true rfl) (Nul.k hz19 rfl rfl) (List.mem_cons_of_mem _ bw_5_22) hnm rfl 28 (Nat.le_of_ble_eq_true rfl) dX10_init_33 ?_
  have hz20 := hz19.umR 24 3 (some 28) rfl
  refine v_aload_n X 0 dX10_init_36 rfl rfl ?_
  refine v_sipush X dX10_init_37 (by decide) ?_
  refine v_newaI X (n := 400) hRm (List.mem_cons_of_mem _ bw_3_10) (by decide) ⟨Nat.le_of_ble_eq_true rfl, Nat.le_of_ble_eq_true rfl⟩ dX10_init_40 ?_
  intro ad21 had22
  rw [← had22 24 (Nat.le_of_ble_eq_true rfl)]
  have hac23 : ∀ j : Nat, j < 25 → ad21 j = ad j := fun j hj => (had22 j (by omega)).trans (hac18 j hj)
  refine v_cl hz20 (Nul.at hz20 rfl rfl) (N1 := 30) rfl ?_
  have hz24 := hz20.up 30 rfl
  refine pt_X10_code X iwX10 (Nat.le_of_ble_eq_true rfl) (Nul.k hz24 rfl rfl) (List.mem_cons_of_mem _ bw_5_23) hnm rfl 29 (Nat.le_of_ble_eq_true rfl) dX10_init_42 ?_
  have hz25 := hz24.umR 24 4 (some 29) rfl
  refine v_aload_n X 0 dX10_init_45 rfl rfl ?_
  refine v_bipush X dX10_init_46 (by decide) ?_
  refine v_newaI X (n := 32) hRm (List.mem_cons_of_mem _ bw_3_10) (by decide) ⟨Nat.le_of_ble_eq_true rfl, Nat.le_of_ble_eq_true rfl⟩ dX10_init_48 ?_
  intro ad26 had27
  rw [← had27 24 (Nat.le_of_ble_eq_true rfl)]
  have hac28 : ∀ j : Nat, j < 25 → ad26 j = ad j := fun j hj => (had27 j (by omega)).trans (hac23 j hj)
  refine v_cl hz25 (Nul.at hz25 rfl rfl) (N1 := 31) rfl ?_
  have hz29 := hz25.up 31 rfl
  refine pt_X10_stack X iwX10 (Nat.le_of_ble_eq_true rfl) (Nul.k hz29 rfl rfl) (List.mem_cons_of_mem _ bw_6_0) hnm rfl 30 (Nat.le_of_ble_eq_true rfl) dX10_init_50 ?_
  have hz30 := hz29.umR 24 5 (some 30) rfl
  refine v_aload_n X 0 dX10_init_53 rfl rfl ?_
  refine v_iconst X dX10_init_54 ?_
  refine pt_X10_codeSize X iwX10 (Nat.le_of_ble_eq_true rfl) (Nul.k hz30 rfl rfl) (List.mem_cons_of_mem _ bw_6_1) ⟨by decide, by decide⟩ dX10_init_55 ?_
  have hz31 := hz30.um 24 6 0 rfl
  refine v_aload_n X 0 dX10_init_58 rfl rfl ?_
  refine v_iconst X dX10_init_59 ?_
  refine pt_X10_size X iwX10 (Nat.le_of_ble_eq_true rfl) (Nul.k hz31 rfl rfl) (List.mem_cons_of_mem _ bw_6_2) ⟨by decide, by decide⟩ dX10_init_60 ?_
  have hz32 := hz31.um 24 7 0 rfl
  refine hret _ _ _ _ _ _ _ _ _ _ _ none dX10_init_63 ⟨rfl, rfl⟩ (by decide) (by decide) (fun hmok => ?_)
  exact ⟨rfl, rfl, rfl, hac28, rfl, rfl, rfl, hz32⟩

-- Flights.clear
set_option maxHeartbeats 4000000 in
set_option maxRecDepth 100000 in
theorem c_X3_clear0_35 (l : Launch) (D : va_G) (cy : Nat → ClassId) {N : Nat} {sh : MS} {ad : Nat → Nat} {M L : MI} {R : MR} (hN : N = 41) (hz : Nul N sh M L R) (hr0 : R 35 0 = some 36) (hr1 : R 35 1 = some 37) (hr2 : R 35 2 = some 38) (hr3 : R 35 3 = some 39) (hr4 : R 35 4 = some 40) : Ctr l D cy yX3_clear wsX3_clear ({ frames := 1, cells := 0, slots := 0, locals := 23 } : Room) N sh ad M L R [.ref (ad 35)] (eV N sh ad L R (fun M' => M' = (mu (mu (mrow (mrow (mrow (mrow (mrow M 36 (filz (M 36) 6 (-1))) 37 (filz ((mrow M 36 (filz (M 36) 6 (-1))) 37) 6 (-1))) 38 (filz ((mrow (mrow M 36 (filz (M 36) 6 (-1))) 37 (filz ((mrow M 36 (filz (M 36) 6 (-1))) 37) 6 (-1))) 38) 6 (-1))) 39 (filz ((mrow (mrow (mrow M 36 (filz (M 36) 6 (-1))) 37 (filz ((mrow M 36 (filz (M 36) 6 (-1))) 37) 6 (-1))) 38 (filz ((mrow (mrow M 36 (filz (M 36) 6 (-1))) 37 (filz ((mrow M 36 (filz (M 36) 6 (-1))) 37) 6 (-1))) 38) 6 (-1))) 39) 6 (-1))) 40 (filz ((mrow (mrow (mrow (mrow M 36 (filz (M 36) 6 (-1))) 37 (filz ((mrow M 36 (filz (M 36) 6 (-1))) 37) 6 (-1))) 38 (filz ((mrow (mrow M 36 (filz (M 36) 6 (-1))) 37 (filz ((mrow M 36 (filz (M 36) 6 (-1))) 37) 6 (-1))) 38) 6 (-1))) 39 (filz ((mrow (mrow (mrow M 36 (filz (M 36) 6 (-1))) 37 (filz ((mrow M 36 (filz (M 36) 6 (-1))) 37) 6 (-1))) 38 (filz ((mrow (mrow M 36 (filz (M 36) 6 (-1))) 37 (filz ((mrow M 36 (filz (M 36) 6 (-1))) 37) 6 (-1))) 38) 6 (-1))) 39) 6 (-1))) 40) 6 (-1))) 35 5 0) 35 6 0))) := by
  refine Ctr.ofV (by decide) rfl (Nat.le_of_ble_eq_true rfl) ?_
  intro K hKl hKd hRm hnm X hret
  have X : VX K cX3_clear 1 wsX3_clear RX3 := X
  show V K 1 0 0 N sh ad M L R [(0, .ref (ad 35))] [] 0
  subst hN
  have hac0 : ∀ j : Nat, j < 41 → ad j = ad j := fun _ _ => rfl
  refine v_aload_n X 0 dX3_clear_0 rfl rfl ?_
  refine gt_X3_order X iwX3 (Nat.le_of_ble_eq_true rfl) (Nul.k hz rfl rfl) (List.mem_cons_of_mem _ bw_6_21) dX3_clear_1 36 hr0 ?_
  refine v_iconst X dX3_clear_4 ?_
  refine v_callSO X [.ref (ad 36), .int (iz (-1))] hRm (c_J7_fill_53178 _ _ _ 36 6 (-1) (Nat.le_of_ble_eq_true rfl) (Nul.at hz rfl rfl) ⟨by decide, by decide⟩ (by decide)) (gSO bw_7_8 bw_5_12 bw_5_13 bw_5_14) rfl ddJ7_fill_53178.2 (by decide) (Nat.le_of_ble_eq_true rfl) dX3_clear_5 (k_eV (fun M2 e1 => ?_))
  subst e1
  have hz3 := hz.row 36 (filz (M 36) 6 (-1)) rfl
  refine v_aload_n X 0 dX3_clear_8 rfl rfl ?_
  refine gt_X3_takeOff X iwX3 (Nat.le_of_ble_eq_true rfl) (Nul.k hz3 rfl rfl) (List.mem_cons_of_mem _ bw_6_22) dX3_clear_9 37 hr1 ?_
  refine v_iconst X dX3_clear_12 ?_
  refine v_callSO X [.ref (ad 37), .int (iz (-1))] hRm (c_J7_fill_53178 _ _ _ 37 6 (-1) (Nat.le_of_ble_eq_true rfl) (Nul.at hz3 rfl rfl) ⟨by decide, by decide⟩ (by decide)) (gSO bw_7_8 bw_5_12 bw_5_13 bw_5_14) rfl ddJ7_fill_53178.2 (by decide) (Nat.le_of_ble_eq_true rfl) dX3_clear_13 (k_eV (fun M5 e4 => ?_))
  subst e4
  have hz6 := hz3.row 37 (filz ((mrow M 36 (filz (M 36) 6 (-1))) 37) 6 (-1)) rfl
  refine v_aload_n X 0 dX3_clear_16 rfl rfl ?_
  refine gt_X3_begin X iwX3 (Nat.le_of_ble_eq_true rfl) (Nul.k hz6 rfl rfl) (List.mem_cons_of_mem _ bw_6_23) dX3_clear_17 38 hr2 ?_
  refine v_iconst X dX3_clear_20 ?_
  refine v_callSO X [.ref (ad 38), .int (iz (-1))] hRm (c_J7_fill_53178 _ _ _ 38 6 (-1) (Nat.le_of_ble_eq_true rfl) (Nul.at hz6 rfl rfl) ⟨by decide, by decide⟩ (by decide)) (gSO bw_7_8 bw_5_12 bw_5_13 bw_5_14) rfl ddJ7_fill_53178.2 (by decide) (Nat.le_of_ble_eq_true rfl) dX3_clear_21 (k_eV (fun M8 e7 => ?_))
  subst e7
  have hz9 := hz6.row 38 (filz ((mrow (mrow M 36 (filz (M 36) 6 (-1))) 37 (filz ((mrow M 36 (filz (M 36) 6 (-1))) 37) 6 (-1))) 38) 6 (-1)) rfl
  refine v_aload_n X 0 dX3_clear_24 rfl rfl ?_
  refine gt_X3_minutes X iwX3 (Nat.le_of_ble_eq_true rfl) (Nul.k hz9 rfl rfl) (List.mem_cons_of_mem _ bw_7_0) dX3_clear_25 39 hr3 ?_
  refine v_iconst X dX3_clear_28 ?_
  refine v_callSO X [.ref (ad 39), .int (iz (-1))] hRm (c_J7_fill_53178 _ _ _ 39 6 (-1) (Nat.le_of_ble_eq_true rfl) (Nul.at hz9 rfl rfl) ⟨by decide, by decide⟩ (by decide)) (gSO bw_7_8 bw_5_12 bw_5_13 bw_5_14) rfl ddJ7_fill_53178.2 (by decide) (Nat.le_of_ble_eq_true rfl) dX3_clear_29 (k_eV (fun M11 e10 => ?_))
  subst e10
  have hz12 := hz9.row 39 (filz ((mrow (mrow (mrow M 36 (filz (M 36) 6 (-1))) 37 (filz ((mrow M 36 (filz (M 36) 6 (-1))) 37) 6 (-1))) 38 (filz ((mrow (mrow M 36 (filz (M 36) 6 (-1))) 37 (filz ((mrow M 36 (filz (M 36) 6 (-1))) 37) 6 (-1))) 38) 6 (-1))) 39) 6 (-1)) rfl
  refine v_aload_n X 0 dX3_clear_32 rfl rfl ?_
  refine gt_X3_landing X iwX3 (Nat.le_of_ble_eq_true rfl) (Nul.k hz12 rfl rfl) (List.mem_cons_of_mem _ bw_7_1) dX3_clear_33 40 hr4 ?_
  refine v_iconst X dX3_clear_36 ?_
  refine v_callSO X [.ref (ad 40), .int (iz (-1))] hRm (c_J7_fill_53178 _ _ _ 40 6 (-1) (Nat.le_of_ble_eq_true rfl) (Nul.at hz12 rfl rfl) ⟨by decide, by decide⟩ (by decide)) (gSO bw_7_8 bw_5_12 bw_5_13 bw_5_14) rfl ddJ7_fill_53178.2 (by decide) (Nat.le_of_ble_eq_true rfl) dX3_clear_37 (k_eV (fun M14 e13 => ?_))
  subst e13
  have hz15 := hz12.row 40 (filz ((mrow (mrow (mrow (mrow M 36 (filz (M 36) 6 (-1))) 37 (filz ((mrow M 36 (filz (M 36) 6 (-1))) 37) 6 (-1))) 38 (filz ((mrow (mrow M 36 (filz (M 36) 6 (-1))) 37 (filz ((mrow M 36 (filz (M 36) 6 (-1))) 37) 6 (-1))) 38) 6 (-1))) 39 (filz ((mrow (mrow (mrow M 36 (filz (M 36) 6 (-1))) 37 (filz ((mrow M 36 (filz (M 36) 6 (-1))) 37) 6 (-1))) 38 (filz ((mrow (mrow M 36 (filz (M 36) 6 (-1))) 37 (filz ((mrow M 36 (filz (M 36) 6 (-1))) 37) 6 (-1))) 38) 6 (-1))) 39) 6 (-1))) 40) 6 (-1)) rfl
  refine v_aload_n X 0 dX3_clear_40 rfl rfl ?_
  refine v_iconst X dX3_clear_41 ?_
  refine pt_X3_size X iwX3 (Nat.le_of_ble_eq_true rfl) (Nul.k hz15 rfl rfl) (List.mem_cons_of_mem _ bw_7_6) ⟨by decide, by decide⟩ dX3_clear_42 ?_
  have hz16 := hz15.um 35 5 0 rfl
  refine v_aload_n X 0 dX3_clear_45 rfl rfl ?_
  refine v_iconst X dX3_clear_46 ?_
  refine pt_X3_worth X iwX3 (Nat.le_of_ble_eq_true rfl) (Nul.k hz16 rfl rfl) (List.mem_cons_of_mem _ bw_7_7) ⟨by decide, by decide⟩ dX3_clear_47 ?_
  have hz17 := hz16.um 35 6 0 rfl
  refine hret _ _ _ _ _ _ _ _ _ _ _ none dX3_clear_50 ⟨rfl, rfl⟩ (by decide) (by decide) (fun hmok => ?_)
  refine ⟨rfl, rfl, rfl, rfl, rfl, rfl, ?_⟩
  try dsimp only
  all_goals rfl

def iM_X3_35 (M : MI) : MI := (mu (mu (mrow (mrow (mrow (mrow (mrow M 36 (filz (M 36) 6 (-1))) 37 (filz ((mrow M 36 (filz (M 36) 6 (-1))) 37) 6 (-1))) 38 (filz ((mrow (mrow M 36 (filz (M 36) 6 (-1))) 37 (filz ((mrow M 36 (filz (M 36) 6 (-1))) 37) 6 (-1))) 38) 6 (-1))) 39 (filz ((mrow (mrow (mrow M 36 (filz (M 36) 6 (-1))) 37 (filz ((mrow M 36 (filz (M 36) 6 (-1))) 37) 6 (-1))) 38 (filz ((mrow (mrow M 36 (filz (M 36) 6 (-1))) 37 (filz ((mrow M 36 (filz (M 36) 6 (-1))) 37) 6 (-1))) 38) 6 (-1))) 39) 6 (-1))) 40 (filz ((mrow (mrow (mrow (mrow M 36 (filz (M 36) 6 (-1))) 37 (filz ((mrow M 36 (filz (M 36) 6 (-1))) 37) 6 (-1))) 38 (filz ((mrow (mrow M 36 (filz (M 36) 6 (-1))) 37 (filz ((mrow M 36 (filz (M 36) 6 (-1))) 37) 6 (-1))) 38) 6 (-1))) 39 (filz ((mrow (mrow (mrow M 36 (filz (M 36) 6 (-1))) 37 (filz ((mrow M 36 (filz (M 36) 6 (-1))) 37) 6 (-1))) 38 (filz ((mrow (mrow M 36 (filz (M 36) 6 (-1))) 37 (filz ((mrow M 36 (filz (M 36) 6 (-1))) 37) 6 (-1))) 38) 6 (-1))) 39) 6 (-1))) 40) 6 (-1))) 35 5 0) 35 6 0)
def iR_X3_35 (R : MR) : MR := (mu (mu (mu (mu (mu R 35 0 (some 36)) 35 1 (some 37)) 35 2 (some 38)) 35 3 (some 39)) 35 4 (some 40))

-- Flights.<init>
set_option maxHeartbeats 4000000 in
set_option maxRecDepth 100000 in
theorem c_X3_init_35 (l : Launch) (D : va_G) (cy : Nat → ClassId) {N : Nat} {sh : MS} {ad : Nat → Nat} {M L : MI} {R : MR} (hN : N = 36) (hz : Nul N sh M L R) : Ctr l D cy yX3_init wsX3_init ({ frames := 2, cells := 5, slots := 30, locals := 43 } : Room) N sh ad M L R [.ref (ad 35)] (fun rv N' sh' ad' M' L' R' => rv = none ∧ N' = 41 ∧ sh' = sh ∧ (∀ j : Nat, j < 36 → ad' j = ad j) ∧ M' = iM_X3_35 M ∧ L' = L ∧ R' = iR_X3_35 R ∧ Nul N' sh' M' L' R') := by
  refine Ctr.ofV (by decide) rfl (Nat.le_of_ble_eq_true rfl) ?_
  intro K hKl hKd hRm hnm X hret
  have X : VX K cX3_init 1 wsX3_init RX3 := X
  show V K 1 0 0 N sh ad M L R [(0, .ref (ad 35))] [] 0
  subst hN
  have hac0 : ∀ j : Nat, j < 36 → ad j = ad j := fun _ _ => rfl
  refine v_aload_n X 0 dX3_init_0 rfl rfl ?_
  refine v_objInit X hRm (List.mem_cons_of_mem _ bw_6_20) (List.mem_cons_of_mem _ bw_1_10) (List.mem_cons_of_mem _ bw_1_11) ⟨Nat.le_of_ble_eq_true rfl, Nat.le_of_ble_eq_true rfl⟩ dX3_init_1 ?_
  refine v_aload_n X 0 dX3_init_4 rfl rfl ?_
  refine v_bipush X dX3_init_5 (by decide) ?_
  refine v_newaI X (n := 6) hRm (List.mem_cons_of_mem _ bw_3_10) (by decide) ⟨Nat.le_of_ble_eq_true rfl, Nat.le_of_ble_eq_true rfl⟩ dX3_init_7 ?_
  intro ad1 had2
  rw [← had2 35 (Nat.le_of_ble_eq_true rfl)]
  have hac3 : ∀ j : Nat, j < 36 → ad1 j = ad j := fun j hj => (had2 j (by omega)).trans (hac0 j hj)
  refine v_cl hz (Nul.at hz rfl rfl) (N1 := 37) rfl ?_
  have hz4 := hz.up 37 rfl
  refine pt_X3_order X iwX3 (Nat.le_of_ble_eq_true rfl) (Nul.k hz4 rfl rfl) (List.mem_cons_of_mem _ bw_6_21) hnm rfl 36 (Nat.le_of_ble_eq_true rfl) dX3_init_9 ?_
  have hz5 := hz4.umR 35 0 (some 36) rfl
  refine v_aload_n X 0 dX3_init_12 rfl rfl ?_
  refine v_bipush X dX3_init_13 (by decide) ?_
  refine v_newaI X (n := 6) hRm (List.mem_cons_of_mem _ bw_3_10) (by decide) ⟨Nat.le_of_ble_eq_true rfl, Nat.le_of_ble_eq_true rfl⟩ dX3_init_15 ?_
  intro ad6 had7
  rw [← had7 35 (Nat.le_of_ble_eq_true rfl)]
  have hac8 : ∀ j : Nat, j < 36 → ad6 j = ad j := fun j hj => (had7 j (by omega)).trans (hac3 j hj)
  refine v_cl hz5 (Nul.at hz5 rfl rfl) (N1 := 38) rfl ?_
  have hz9 := hz5.up 38 rfl
  refine pt_X3_takeOff X iwX3 (Nat.le_of_ble_eq_true rfl) (Nul.k hz9 rfl rfl) (List.mem_cons_of_mem _ bw_6_22) hnm rfl 37 (Nat.le_of_ble_eq_true rfl) dX3_init_17 ?_
  have hz10 := hz9.umR 35 1 (some 37) rfl
  refine v_aload_n X 0 dX3_init_20 rfl rfl ?_
  refine v_bipush X dX3_init_21 (by decide) ?_
  refine v_newaI X (n := 6) hRm (List.mem_cons_of_mem _ bw_3_10) (by decide) ⟨Nat.le_of_ble_eq_true rfl, Nat.le_of_ble_eq_true rfl⟩ dX3_init_23 ?_
  intro ad11 had12
  rw [← had12 35 (Nat.le_of_ble_eq_true rfl)]
  have hac13 : ∀ j : Nat, j < 36 → ad11 j = ad j := fun j hj => (had12 j (by omega)).trans (hac8 j hj)
  refine v_cl hz10 (Nul.at hz10 rfl rfl) (N1 := 39) rfl ?_
  have hz14 := hz10.up 39 rfl
  refine pt_X3_begin X iwX3 (Nat.le_of_ble_eq_true rfl) (Nul.k hz14 rfl rfl) (List.mem_cons_of_mem _ bw_6_23) hnm rfl 38 (Nat.le_of_ble_eq_true rfl) dX3_init_25 ?_
  have hz15 := hz14.umR 35 2 (some 38) rfl
  refine v_aload_n X 0 dX3_init_28 rfl rfl ?_
  refine v_bipush X dX3_init_29 (by decide) ?_
  refine v_newaI X (n := 6) hRm (List.mem_cons_of_mem _ bw_3_10) (by decide) ⟨Nat.le_of_ble_eq_true rfl, Nat.le_of_ble_eq_true rfl⟩ dX3_init_31 ?_
  intro ad16 had17
  rw [← had17 35 (Nat.le_of_ble_eq_true rfl)]
  have hac18 : ∀ j : Nat, j < 36 → ad16 j = ad j := fun j hj => (had17 j (by omega)).trans (hac13 j hj)
  refine v_cl hz15 (Nul.at hz15 rfl rfl) (N1 := 40) rfl ?_
  have hz19 := hz15.up 40 rfl
  refine pt_X3_minutes X iwX3 (Nat.le_of_ble_eq_true rfl) (Nul.k hz19 rfl rfl) (List.mem_cons_of_mem _ bw_7_0) hnm rfl 39 (Nat.le_of_ble_eq_true rfl) dX3_init_33 ?_
  have hz20 := hz19.umR 35 3 (some 39) rfl
  refine v_aload_n X 0 dX3_init_36 rfl rfl ?_
  refine v_bipush X dX3_init_37 (by decide) ?_
  refine v_newaI X (n := 6) hRm (List.mem_cons_of_mem _ bw_3_10) (by decide) ⟨Nat.le_of_ble_eq_true rfl, Nat.le_of_ble_eq_true rfl⟩ dX3_init_39 ?_
  intro ad21 had22
  rw [← had22 35 (Nat.le_of_ble_eq_true rfl)]
  have hac23 : ∀ j : Nat, j < 36 → ad21 j = ad j := fun j hj => (had22 j (by omega)).trans (hac18 j hj)
  refine v_cl hz20 (Nul.at hz20 rfl rfl) (N1 := 41) rfl ?_
  have hz24 := hz20.up 41 rfl
  refine pt_X3_landing X iwX3 (Nat.le_of_ble_eq_true rfl) (Nul.k hz24 rfl rfl) (List.mem_cons_of_mem _ bw_7_1) hnm rfl 40 (Nat.le_of_ble_eq_true rfl) dX3_init_41 ?_
  have hz25 := hz24.umR 35 4 (some 40) rfl
  refine v_aload_n X 0 dX3_init_44 rfl rfl ?_
  refine v_callV X [] hRm (c_X3_clear0_35 _ _ _ rfl hz25 rfl rfl rfl rfl rfl) (gV bw_7_2 bw_7_3 bw_7_4 bw_2_19 bw_7_5) rfl ddX3_clear (by decide) (Nat.le_of_ble_eq_true rfl) (Nul.k hz25 rfl rfl) ⟨rfl, by decide⟩ (Nat.le_of_ble_eq_true rfl) dX3_init_45 (k_eV (fun M27 e26 => ?_))
  subst e26
  have hz28 := hz25.row 36 (filz (M 36) 6 (-1)) rfl
  have hz29 := hz28.row 37 (filz ((mrow M 36 (filz (M 36) 6 (-1))) 37) 6 (-1)) rfl
  have hz30 := hz29.row 38 (filz ((mrow (mrow M 36 (filz (M 36) 6 (-1))) 37 (filz ((mrow M 36 (filz (M 36) 6 (-1))) 37) 6 (-1))) 38) 6 (-1)) rfl
  have hz31 := hz30.row 39 (filz ((mrow (mrow (mrow M 36 (filz (M 36) 6 (-1))) 37 (filz ((mrow M 36 (filz (M 36) 6 (-1))) 37) 6 (-1))) 38 (filz ((mrow (mrow M 36 (filz (M 36) 6 (-1))) 37 (filz ((mrow M 36 (filz (M 36) 6 (-1))) 37) 6 (-1))) 38) 6 (-1))) 39) 6 (-1)) rfl
  have hz32 := hz31.row 40 (filz ((mrow (mrow (mrow (mrow M 36 (filz (M 36) 6 (-1))) 37 (filz ((mrow M 36 (filz (M 36) 6 (-1))) 37) 6 (-1))) 38 (filz ((mrow (mrow M 36 (filz (M 36) 6 (-1))) 37 (filz ((mrow M 36 (filz (M 36) 6 (-1))) 37) 6 (-1))) 38) 6 (-1))) 39 (filz ((mrow (mrow (mrow M 36 (filz (M 36) 6 (-1))) 37 (filz ((mrow M 36 (filz (M 36) 6 (-1))) 37) 6 (-1))) 38 (filz ((mrow (mrow M 36 (filz (M 36) 6 (-1))) 37 (filz ((mrow M 36 (filz (M 36) 6 (-1))) 37) 6 (-1))) 38) 6 (-1))) 39) 6 (-1))) 40) 6 (-1)) rfl
  have hz33 := hz32.um 35 5 0 rfl
  have hz34 := hz33.um 35 6 0 rfl
  refine hret _ _ _ _ _ _ _ _ _ _ _ none dX3_init_48 ⟨rfl, rfl⟩ (by decide) (by decide) (fun hmok => ?_)
  exact ⟨rfl, rfl, rfl, hac23, rfl, rfl, rfl, hz34⟩

-- Flights.clear
set_option maxHeartbeats 4000000 in
set_option maxRecDepth 100000 in
theorem c_X3_clear0_41 (l : Launch) (D : va_G) (cy : Nat → ClassId) {N : Nat} {sh : MS} {ad : Nat → Nat} {M L : MI} {R : MR} (hN : N = 47) (hz : Nul N sh M L R) (hr0 : R 41 0 = some 42) (hr1 : R 41 1 = some 43) (hr2 : R 41 2 = some 44) (hr3 : R 41 3 = some 45) (hr4 : R 41 4 = some 46) : Ctr l D cy yX3_clear wsX3_clear ({ frames := 1, cells := 0, slots := 0, locals := 23 } : Room) N sh ad M L R [.ref (ad 41)] (eV N sh ad L R (fun M' => M' = (mu (mu (mrow (mrow (mrow (mrow (mrow M 42 (filz (M 42) 6 (-1))) 43 (filz ((mrow M 42 (filz (M 42) 6 (-1))) 43) 6 (-1))) 44 (filz ((mrow (mrow M 42 (filz (M 42) 6 (-1))) 43 (filz ((mrow M 42 (filz (M 42) 6 (-1))) 43) 6 (-1))) 44) 6 (-1))) 45 (filz ((mrow (mrow (mrow M 42 (filz (M 42) 6 (-1))) 43 (filz ((mrow M 42 (filz (M 42) 6 (-1))) 43) 6 (-1))) 44 (filz ((mrow (mrow M 42 (filz (M 42) 6 (-1))) 43 (filz ((mrow M 42 (filz (M 42) 6 (-1))) 43) 6 (-1))) 44) 6 (-1))) 45) 6 (-1))) 46 (filz ((mrow (mrow (mrow (mrow M 42 (filz (M 42) 6 (-1))) 43 (filz ((mrow M 42 (filz (M 42) 6 (-1))) 43) 6 (-1))) 44 (filz ((mrow (mrow M 42 (filz (M 42) 6 (-1))) 43 (filz ((mrow M 42 (filz (M 42) 6 (-1))) 43) 6 (-1))) 44) 6 (-1))) 45 (filz ((mrow (mrow (mrow M 42 (filz (M 42) 6 (-1))) 43 (filz ((mrow M 42 (filz (M 42) 6 (-1))) 43) 6 (-1))) 44 (filz ((mrow (mrow M 42 (filz (M 42) 6 (-1))) 43 (filz ((mrow M 42 (filz (M 42) 6 (-1))) 43) 6 (-1))) 44) 6 (-1))) 45) 6 (-1))) 46) 6 (-1))) 41 5 0) 41 6 0))) := by
  refine Ctr.ofV (by decide) rfl (Nat.le_of_ble_eq_true rfl) ?_
  intro K hKl hKd hRm hnm X hret
  have X : VX K cX3_clear 1 wsX3_clear RX3 := X
  show V K 1 0 0 N sh ad M L R [(0, .ref (ad 41))] [] 0
  subst hN
  have hac0 : ∀ j : Nat, j < 47 → ad j = ad j := fun _ _ => rfl
  refine v_aload_n X 0 dX3_clear_0 rfl rfl ?_
  refine gt_X3_order X iwX3 (Nat.le_of_ble_eq_true rfl) (Nul.k hz rfl rfl) (List.mem_cons_of_mem _ bw_6_21) dX3_clear_1 42 hr0 ?_
  refine v_iconst X dX3_clear_4 ?_
  refine v_callSO X [.ref (ad 42), .int (iz (-1))] hRm (c_J7_fill_53178 _ _ _ 42 6 (-1) (Nat.le_of_ble_eq_true rfl) (Nul.at hz rfl rfl) ⟨by decide, by decide⟩ (by decide)) (gSO bw_7_8 bw_5_12 bw_5_13 bw_5_14) rfl ddJ7_fill_53178.2 (by decide) (Nat.le_of_ble_eq_true rfl) dX3_clear_5 (k_eV (fun M2 e1 => ?_))
  subst e1
  have hz3 := hz.row 42 (filz (M 42) 6 (-1)) rfl
  refine v_aload_n X 0 dX3_clear_8 rfl rfl ?_
  refine gt_X3_takeOff X iwX3 (Nat.le_of_ble_eq_true rfl) (Nul.k hz3 rfl rfl) (List.mem_cons_of_mem _ bw_6_22) dX3_clear_9 43 hr1 ?_
  refine v_iconst X dX3_clear_12 ?_
  refine v_callSO X [.ref (ad 43), .int (iz (-1))] hRm (c_J7_fill_53178 _ _ _ 43 6 (-1) (Nat.le_of_ble_eq_true rfl) (Nul.at hz3 rfl rfl) ⟨by decide, by decide⟩ (by decide)) (gSO bw_7_8 bw_5_12 bw_5_13 bw_5_14) rfl ddJ7_fill_53178.2 (by decide) (Nat.le_of_ble_eq_true rfl) dX3_clear_13 (k_eV (fun M5 e4 => ?_))
  subst e4
  have hz6 := hz3.row 43 (filz ((mrow M 42 (filz (M 42) 6 (-1))) 43) 6 (-1)) rfl
  refine v_aload_n X 0 dX3_clear_16 rfl rfl ?_
  refine gt_X3_begin X iwX3 (Nat.le_of_ble_eq_true rfl) (Nul.k hz6 rfl rfl) (List.mem_cons_of_mem _ bw_6_23) dX3_clear_17 44 hr2 ?_
  refine v_iconst X dX3_clear_20 ?_
  refine v_callSO X [.ref (ad 44), .int (iz (-1))] hRm (c_J7_fill_53178 _ _ _ 44 6 (-1) (Nat.le_of_ble_eq_true rfl) (Nul.at hz6 rfl rfl) ⟨by decide, by decide⟩ (by decide)) (gSO bw_7_8 bw_5_12 bw_5_13 bw_5_14) rfl ddJ7_fill_53178.2 (by decide) (Nat.le_of_ble_eq_true rfl) dX3_clear_21 (k_eV (fun M8 e7 => ?_))
  subst e7
  have hz9 := hz6.row 44 (filz ((mrow (mrow M 42 (filz (M 42) 6 (-1))) 43 (filz ((mrow M 42 (filz (M 42) 6 (-1))) 43) 6 (-1))) 44) 6 (-1)) rfl
  refine v_aload_n X 0 dX3_clear_24 rfl rfl ?_
  refine gt_X3_minutes X iwX3 (Nat.le_of_ble_eq_true rfl) (Nul.k hz9 rfl rfl) (List.mem_cons_of_mem _ bw_7_0) dX3_clear_25 45 hr3 ?_
  refine v_iconst X dX3_clear_28 ?_
  refine v_callSO X [.ref (ad 45), .int (iz (-1))] hRm (c_J7_fill_53178 _ _ _ 45 6 (-1) (Nat.le_of_ble_eq_true rfl) (Nul.at hz9 rfl rfl) ⟨by decide, by decide⟩ (by decide)) (gSO bw_7_8 bw_5_12 bw_5_13 bw_5_14) rfl ddJ7_fill_53178.2 (by decide) (Nat.le_of_ble_eq_true rfl) dX3_clear_29 (k_eV (fun M11 e10 => ?_))
  subst e10
  have hz12 := hz9.row 45 (filz ((mrow (mrow (mrow M 42 (filz (M 42) 6 (-1))) 43 (filz ((mrow M 42 (filz (M 42) 6 (-1))) 43) 6 (-1))) 44 (filz ((mrow (mrow M 42 (filz (M 42) 6 (-1))) 43 (filz ((mrow M 42 (filz (M 42) 6 (-1))) 43) 6 (-1))) 44) 6 (-1))) 45) 6 (-1)) rfl
  refine v_aload_n X 0 dX3_clear_32 rfl rfl ?_
  refine gt_X3_landing X iwX3 (Nat.le_of_ble_eq_true rfl) (Nul.k hz12 rfl rfl) (List.mem_cons_of_mem _ bw_7_1) dX3_clear_33 46 hr4 ?_
  refine v_iconst X dX3_clear_36 ?_
  refine v_callSO X [.ref (ad 46), .int (iz (-1))] hRm (c_J7_fill_53178 _ _ _ 46 6 (-1) (Nat.le_of_ble_eq_true rfl) (Nul.at hz12 rfl rfl) ⟨by decide, by decide⟩ (by decide)) (gSO bw_7_8 bw_5_12 bw_5_13 bw_5_14) rfl ddJ7_fill_53178.2 (by decide) (Nat.le_of_ble_eq_true rfl) dX3_clear_37 (k_eV (fun M14 e13 => ?_))
  subst e13
  have hz15 := hz12.row 46 (filz ((mrow (mrow (mrow (mrow M 42 (filz (M 42) 6 (-1))) 43 (filz ((mrow M 42 (filz (M 42) 6 (-1))) 43) 6 (-1))) 44 (filz ((mrow (mrow M 42 (filz (M 42) 6 (-1))) 43 (filz ((mrow M 42 (filz (M 42) 6 (-1))) 43) 6 (-1))) 44) 6 (-1))) 45 (filz ((mrow (mrow (mrow M 42 (filz (M 42) 6 (-1))) 43 (filz ((mrow M 42 (filz (M 42) 6 (-1))) 43) 6 (-1))) 44 (filz ((mrow (mrow M 42 (filz (M 42) 6 (-1))) 43 (filz ((mrow M 42 (filz (M 42) 6 (-1))) 43) 6 (-1))) 44) 6 (-1))) 45) 6 (-1))) 46) 6 (-1)) rfl
  refine v_aload_n X 0 dX3_clear_40 rfl rfl ?_
  refine v_iconst X dX3_clear_41 ?_
  refine pt_X3_size X iwX3 (Nat.le_of_ble_eq_true rfl) (Nul.k hz15 rfl rfl) (List.mem_cons_of_mem _ bw_7_6) ⟨by decide, by decide⟩ dX3_clear_42 ?_
  have hz16 := hz15.um 41 5 0 rfl
  refine v_aload_n X 0 dX3_clear_45 rfl rfl ?_
  refine v_iconst X dX3_clear_46 ?_
  refine pt_X3_worth X iwX3 (Nat.le_of_ble_eq_true rfl) (Nul.k hz16 rfl rfl) (List.mem_cons_of_mem _ bw_7_7) ⟨by decide, by decide⟩ dX3_clear_47 ?_
  have hz17 := hz16.um 41 6 0 rfl
  refine hret _ _ _ _ _ _ _ _ _ _ _ none dX3_clear_50 ⟨rfl, rfl⟩ (by decide) (by decide) (fun hmok => ?_)
  refine ⟨rfl, rfl, rfl, rfl, rfl, rfl, ?_⟩
  try dsimp only
  all_goals rfl

def iM_X3_41 (M : MI) : MI := (mu (mu (mrow (mrow (mrow (mrow (mrow M 42 (filz (M 42) 6 (-1))) 43 (filz ((mrow M 42 (filz (M 42) 6 (-1))) 43) 6 (-1))) 44 (filz ((mrow (mrow M 42 (filz (M 42) 6 (-1))) 43 (filz ((mrow M 42 (filz (M 42) 6 (-1))) 43) 6 (-1))) 44) 6 (-1))) 45 (filz ((mrow (mrow (mrow M 42 (filz (M 42) 6 (-1))) 43 (filz ((mrow M 42 (filz (M 42) 6 (-1))) 43) 6 (-1))) 44 (filz ((mrow (mrow M 42 (filz (M 42) 6 (-1))) 43 (filz ((mrow M 42 (filz (M 42) 6 (-1))) 43) 6 (-1))) 44) 6 (-1))) 45) 6 (-1))) 46 (filz ((mrow (mrow (mrow (mrow M 42 (filz (M 42) 6 (-1))) 43 (filz ((mrow M 42 (filz (M 42) 6 (-1))) 43) 6 (-1))) 44 (filz ((mrow (mrow M 42 (filz (M 42) 6 (-1))) 43 (filz ((mrow M 42 (filz (M 42) 6 (-1))) 43) 6 (-1))) 44) 6 (-1))) 45 (filz ((mrow (mrow (mrow M 42 (filz (M 42) 6 (-1))) 43 (filz ((mrow M 42 (filz (M 42) 6 (-1))) 43) 6 (-1))) 44 (filz ((mrow (mrow M 42 (filz (M 42) 6 (-1))) 43 (filz ((mrow M 42 (filz (M 42) 6 (-1))) 43) 6 (-1))) 44) 6 (-1))) 45) 6 (-1))) 46) 6 (-1))) 41 5 0) 41 6 0)
def iR_X3_41 (R : MR) : MR := (mu (mu (mu (mu (mu R 41 0 (some 42)) 41 1 (some 43)) 41 2 (some 44)) 41 3 (some 45)) 41 4 (some 46))

-- Flights.<init>
set_option maxHeartbeats 4000000 in
set_option maxRecDepth 100000 in
theorem c_X3_init_41 (l : Launch) (D : va_G) (cy : Nat → ClassId) {N : Nat} {sh : MS} {ad : Nat → Nat} {M L : MI} {R : MR} (hN : N = 42) (hz : Nul N sh M L R) : Ctr l D cy yX3_init wsX3_init ({ frames := 2, cells := 5, slots := 30, locals := 43 } : Room) N sh ad M L R [.ref (ad 41)] (fun rv N' sh' ad' M' L' R' => rv = none ∧ N' = 47 ∧ sh' = sh ∧ (∀ j : Nat, j < 42 → ad' j = ad j) ∧ M' = iM_X3_41 M ∧ L' = L ∧ R' = iR_X3_41 R ∧ Nul N' sh' M' L' R') := by
  refine Ctr.ofV (by decide) rfl (Nat.le_of_ble_eq_true rfl) ?_
  intro K hKl hKd hRm hnm X hret
  have X : VX K cX3_init 1 wsX3_init RX3 := X
  show V K 1 0 0 N sh ad M L R [(0, .ref (ad 41))] [] 0
  subst hN
  have hac0 : ∀ j : Nat, j < 42 → ad j = ad j := fun _ _ => rfl
  refine v_aload_n X 0 dX3_init_0 rfl rfl ?_
  refine v_objInit X hRm (List.mem_cons_of_mem _ bw_6_20) (List.mem_cons_of_mem _ bw_1_10) (List.mem_cons_of_mem _ bw_1_11) ⟨Nat.le_of_ble_eq_true rfl, Nat.le_of_ble_eq_true rfl⟩ dX3_init_1 ?_
  refine v_aload_n X 0 dX3_init_4 rfl rfl ?_
  refine v_bipush X dX3_init_5 (by decide) ?_
  refine v_newaI X (n := 6) hRm (List.mem_cons_of_mem _ bw_3_10) (by decide) ⟨Nat.le_of_ble_eq_true rfl, Nat.le_of_ble_eq_true rfl⟩ dX3_init_7 ?_
  intro ad1 had2
  rw [← had2 41 (Nat.le_of_ble_eq_true rfl)]
  have hac3 : ∀ j : Nat, j < 42 → ad1 j = ad j := fun j hj => (had2 j (by omega)).trans (hac0 j hj)
  refine v_cl hz (Nul.at hz rfl rfl) (N1 := 43) rfl ?_
  have hz4 := hz.up 43 rfl
  refine pt_X3_order X iwX3 (Nat.le_of_ble_eq_true rfl) (Nul.k hz4 rfl rfl) (List.mem_cons_of_mem _ bw_6_21) hnm rfl 42 (Nat.le_of_ble_eq_true rfl) dX3_init_9 ?_
  have hz5 := hz4.umR 41 0 (some 42) rfl
  refine v_aload_n X 0 dX3_init_12 rfl rfl ?_
  refine v_bipush X dX3_init_13 (by decide) ?_
  refine v_newaI X (n := 6) hRm (List.mem_cons_of_mem _ bw_3_10) (by decide) ⟨Nat.le_of_ble_eq_true rfl, Nat.le_of_ble_eq_true rfl⟩ dX3_init_15 ?_
  intro ad6 had7
  rw [← had7 41 (Nat.le_of_ble_eq_true rfl)]
  have hac8 : ∀ j : Nat, j < 42 → ad6 j = ad j := fun j hj => (had7 j (by omega)).trans (hac3 j hj)
  refine v_cl hz5 (Nul.at hz5 rfl rfl) (N1 := 44) rfl ?_
  have hz9 := hz5.up 44 rfl
  refine pt_X3_takeOff X iwX3 (Nat.le_of_ble_eq_true rfl) (Nul.k hz9 rfl rfl) (List.mem_cons_of_mem _ bw_6_22) hnm rfl 43 (Nat.le_of_ble_eq_true rfl) dX3_init_17 ?_
  have hz10 := hz9.umR 41 1 (some 43) rfl
  refine v_aload_n X 0 dX3_init_20 rfl rfl ?_
  refine v_bipush X dX3_init_21 (by decide) ?_
  refine v_newaI X (n := 6) hRm (List.mem_cons_of_mem _ bw_3_10) (by decide) ⟨Nat.le_of_ble_eq_true rfl, Nat.le_of_ble_eq_true rfl⟩ dX3_init_23 ?_
  intro ad11 had12
  rw [← had12 41 (Nat.le_of_ble_eq_true rfl)]
  have hac13 : ∀ j : Nat, j < 42 → ad11 j = ad j := fun j hj => (had12 j (by omega)).trans (hac8 j hj)
  refine v_cl hz10 (Nul.at hz10 rfl rfl) (N1 := 45) rfl ?_
  have hz14 := hz10.up 45 rfl
  refine pt_X3_begin X iwX3 (Nat.le_of_ble_eq_true rfl) (Nul.k hz14 rfl rfl) (List.mem_cons_of_mem _ bw_6_23) hnm rfl 44 (Nat.le_of_ble_eq_true rfl) dX3_init_25 ?_
  have hz15 := hz14.umR 41 2 (some 44) rfl
  refine v_aload_n X 0 dX3_init_28 rfl rfl ?_
  refine v_bipush X dX3_init_29 (by decide) ?_
  refine v_newaI X (n := 6) hRm (List.mem_cons_of_mem _ bw_3_10) (by decide) ⟨Nat.le_of_ble_eq_true rfl, Nat.le_of_ble_eq_true rfl⟩ dX3_init_31 ?_
  intro ad16 had17
  rw [← had17 41 (Nat.le_of_ble_eq_true rfl)]
  have hac18 : ∀ j : Nat, j < 42 → ad16 j = ad j := fun j hj => (had17 j (by omega)).trans (hac13 j hj)
  refine v_cl hz15 (Nul.at hz15 rfl rfl) (N1 := 46) rfl ?_
  have hz19 := hz15.up 46 rfl
  refine pt_X3_minutes X iwX3 (Nat.le_of_ble_eq_true rfl) (Nul.k hz19 rfl rfl) (List.mem_cons_of_mem _ bw_7_0) hnm rfl 45 (Nat.le_of_ble_eq_true rfl) dX3_init_33 ?_
  have hz20 := hz19.umR 41 3 (some 45) rfl
  refine v_aload_n X 0 dX3_init_36 rfl rfl ?_
  refine v_bipush X dX3_init_37 (by decide) ?_
  refine v_newaI X (n := 6) hRm (List.mem_cons_of_mem _ bw_3_10) (by decide) ⟨Nat.le_of_ble_eq_true rfl, Nat.le_of_ble_eq_true rfl⟩ dX3_init_39 ?_
  intro ad21 had22
  rw [← had22 41 (Nat.le_of_ble_eq_true rfl)]
  have hac23 : ∀ j : Nat, j < 42 → ad21 j = ad j := fun j hj => (had22 j (by omega)).trans (hac18 j hj)
  refine v_cl hz20 (Nul.at hz20 rfl rfl) (N1 := 47) rfl ?_
  have hz24 := hz20.up 47 rfl
  refine pt_X3_landing X iwX3 (Nat.le_of_ble_eq_true rfl) (Nul.k hz24 rfl rfl) (List.mem_cons_of_mem _ bw_7_1) hnm rfl 46 (Nat.le_of_ble_eq_true rfl) dX3_init_41 ?_
  have hz25 := hz24.umR 41 4 (some 46) rfl
  refine v_aload_n X 0 dX3_init_44 rfl rfl ?_
  refine v_callV X [] hRm (c_X3_clear0_41 _ _ _ rfl hz25 rfl rfl rfl rfl rfl) (gV bw_7_2 bw_7_3 bw_7_4 bw_2_19 bw_7_5) rfl ddX3_clear (by decide) (Nat.le_of_ble_eq_true rfl) (Nul.k hz25 rfl rfl) ⟨rfl, by decide⟩ (Nat.le_of_ble_eq_true rfl) dX3_init_45 (k_eV (fun M27 e26 => ?_))
  subst e26
  have hz28 := hz25.row 42 (filz (M 42) 6 (-1)) rfl
  have hz29 := hz28.row 43 (filz ((mrow M 42 (filz (M 42) 6 (-1))) 43) 6 (-1)) rfl
  have hz30 := hz29.row 44 (filz ((mrow (mrow M 42 (filz (M 42) 6 (-1))) 43 (filz ((mrow M 42 (filz (M 42) 6 (-1))) 43) 6 (-1))) 44) 6 (-1)) rfl
  have hz31 := hz30.row 45 (filz ((mrow (mrow (mrow M 42 (filz (M 42) 6 (-1))) 43 (filz ((mrow M 42 (filz (M 42) 6 (-1))) 43) 6 (-1))) 44 (filz ((mrow (mrow M 42 (filz (M 42) 6 (-1))) 43 (filz ((mrow M 42 (filz (M 42) 6 (-1))) 43) 6 (-1))) 44) 6 (-1))) 45) 6 (-1)) rfl
  have hz32 := hz31.row 46 (filz ((mrow (mrow (mrow (mrow M 42 (filz (M 42) 6 (-1))) 43 (filz ((mrow M 42 (filz (M 42) 6 (-1))) 43) 6 (-1))) 44 (filz ((mrow (mrow M 42 (filz (M 42) 6 (-1))) 43 (filz ((mrow M 42 (filz (M 42) 6 (-1))) 43) 6 (-1))) 44) 6 (-1))) 45 (filz ((mrow (mrow (mrow M 42 (filz (M 42) 6 (-1))) 43 (filz ((mrow M 42 (filz (M 42) 6 (-1))) 43) 6 (-1))) 44 (filz ((mrow (mrow M 42 (filz (M 42) 6 (-1))) 43 (filz ((mrow M 42 (filz (M 42) 6 (-1))) 43) 6 (-1))) 44) 6 (-1))) 45) 6 (-1))) 46) 6 (-1)) rfl
  have hz33 := hz32.um 41 5 0 rfl
  have hz34 := hz33.um 41 6 0 rfl
  refine hret _ _ _ _ _ _ _ _ _ _ _ none dX3_init_48 ⟨rfl, rfl⟩ (by decide) (by decide) (fun hmok => ?_)
  exact ⟨rfl, rfl, rfl, hac23, rfl, rfl, rfl, hz34⟩

-- Flights.clear
set_option maxHeartbeats 4000000 in
set_option maxRecDepth 100000 in
theorem c_X3_clear0_47 (l : Launch) (D : va_G) (cy : Nat → ClassId) {N : Nat} {sh : MS} {ad : Nat → Nat} {M L : MI} {R : MR} (hN : N = 53) (hz : Nul N sh M L R) (hr0 : R 47 0 = some 48) (hr1 : R 47 1 = some 49) (hr2 : R 47 2 = some 50) (hr3 : R 47 3 = some 51) (hr4 : R 47 4 = some 52) : Ctr l D cy yX3_clear wsX3_clear ({ frames := 1, cells := 0, slots := 0, locals := 23 } : Room) N sh ad M L R [.ref (ad 47)] (eV N sh ad L R (fun M' => M' = (mu (mu (mrow (mrow (mrow (mrow (mrow M 48 (filz (M 48) 6 (-1))) 49 (filz ((mrow M 48 (filz (M 48) 6 (-1))) 49) 6 (-1))) 50 (filz ((mrow (mrow M 48 (filz (M 48) 6 (-1))) 49 (filz ((mrow M 48 (filz (M 48) 6 (-1))) 49) 6 (-1))) 50) 6 (-1))) 51 (filz ((mrow (mrow (mrow M 48 (filz (M 48) 6 (-1))) 49 (filz ((mrow M 48 (filz (M 48) 6 (-1))) 49) 6 (-1))) 50 (filz ((mrow (mrow M 48 (filz (M 48) 6 (-1))) 49 (filz ((mrow M 48 (filz (M 48) 6 (-1))) 49) 6 (-1))) 50) 6 (-1))) 51) 6 (-1))) 52 (filz ((mrow (mrow (mrow (mrow M 48 (filz (M 48) 6 (-1))) 49 (filz ((mrow M 48 (filz (M 48) 6 (-1))) 49) 6 (-1))) 50 (filz ((mrow (mrow M 48 (filz (M 48) 6 (-1))) 49 (filz ((mrow M 48 (filz (M 48) 6 (-1))) 49) 6 (-1))) 50) 6 (-1))) 51 (filz ((mrow (mrow (mrow M 48 (filz (M 48) 6 (-1))) 49 (filz ((mrow M 48 (filz (M 48) 6 (-1))) 49) 6 (-1))) 50 (filz ((mrow (mrow M 48 (filz (M 48) 6 (-1))) 49 (filz ((mrow M 48 (filz (M 48) 6 (-1))) 49) 6 (-1))) 50) 6 (-1))) 51) 6 (-1))) 52) 6 (-1))) 47 5 0) 47 6 0))) := by
  refine Ctr.ofV (by decide) rfl (Nat.le_of_ble_eq_true rfl) ?_
  intro K hKl hKd hRm hnm X hret
  have X : VX K cX3_clear 1 wsX3_clear RX3 := X
  show V K 1 0 0 N sh ad M L R [(0, .ref (ad 47))] [] 0
  subst hN
  have hac0 : ∀ j : Nat, j < 53 → ad j = ad j := fun _ _ => rfl
  refine v_aload_n X 0 dX3_clear_0 rfl rfl ?_
  refine gt_X3_order X iwX3 (Nat.le_of_ble_eq_true rfl) (Nul.k hz rfl rfl) (List.mem_cons_of_mem _ bw_6_21) dX3_clear_1 48 hr0 ?_
  refine v_iconst X dX3_clear_4 ?_
  refine v_callSO X [.ref (ad 48), .int (iz (-1))] hRm (c_J7_fill_53178 _ _ _ 48 6 (-1) (Nat.le_of_ble_eq_true rfl) (Nul.at hz rfl rfl) ⟨by decide, by decide⟩ (by decide)) (gSO bw_7_8 bw_5_12 bw_5_13 bw_5_14) rfl ddJ7_fill_53178.2 (by decide) (Nat.le_of_ble_eq_true rfl) dX3_clear_5 (k_eV (fun M2 e1 => ?_))
  subst e1
  have hz3 := hz.row 48 (filz (M 48) 6 (-1)) rfl
  refine v_aload_n X 0 dX3_clear_8 rfl rfl ?_
  refine gt_X3_takeOff X iwX3 (Nat.le_of_ble_eq_true rfl) (Nul.k hz3 rfl rfl) (List.mem_cons_of_mem _ bw_6_22) dX3_clear_9 49 hr1 ?_
  refine v_iconst X dX3_clear_12 ?_
  refine v_callSO X [.ref (ad 49), .int (iz (-1))] hRm (c_J7_fill_53178 _ _ _ 49 6 (-1) (Nat.le_of_ble_eq_true rfl) (Nul.at hz3 rfl rfl) ⟨by decide, by decide⟩ (by decide)) (gSO bw_7_8 bw_5_12 bw_5_13 bw_5_14) rfl ddJ7_fill_53178.2 (by decide) (Nat.le_of_ble_eq_true rfl) dX3_clear_13 (k_eV (fun M5 e4 => ?_))
  subst e4
  have hz6 := hz3.row 49 (filz ((mrow M 48 (filz (M 48) 6 (-1))) 49) 6 (-1)) rfl
  refine v_aload_n X 0 dX3_clear_16 rfl rfl ?_
  refine gt_X3_begin X iwX3 (Nat.le_of_ble_eq_true rfl) (Nul.k hz6 rfl rfl) (List.mem_cons_of_mem _ bw_6_23) dX3_clear_17 50 hr2 ?_
  refine v_iconst X dX3_clear_20 ?_
  refine v_callSO X [.ref (ad 50), .int (iz (-1))] hRm (c_J7_fill_53178 _ _ _ 50 6 (-1) (Nat.le_of_ble_eq_true rfl) (Nul.at hz6 rfl rfl) ⟨by decide, by decide⟩ (by decide)) (gSO bw_7_8 bw_5_12 bw_5_13 bw_5_14) rfl ddJ7_fill_53178.2 (by decide) (Nat.le_of_ble_eq_true rfl) dX3_clear_21 (k_eV (fun M8 e7 => ?_))
  subst e7
  have hz9 := hz6.row 50 (filz ((mrow (mrow M 48 (filz (M 48) 6 (-1))) 49 (filz ((mrow M 48 (filz (M 48) 6 (-1))) 49) 6 (-1))) 50) 6 (-1)) rfl
  refine v_aload_n X 0 dX3_clear_24 rfl rfl ?_
  refine gt_X3_minutes X iwX3 (Nat.le_of_ble_eq_true rfl) (Nul.k hz9 rfl rfl) (List.mem_cons_of_mem _ bw_7_0) dX3_clear_25 51 hr3 ?_
  refine v_iconst X dX3_clear_28 ?_
  refine v_callSO X [.ref (ad 51), .int (iz (-1))] hRm (c_J7_fill_53178 _ _ _ 51 6 (-1) (Nat.le_of_ble_eq_true rfl) (Nul.at hz9 rfl rfl) ⟨by decide, by decide⟩ (by decide)) (gSO bw_7_8 bw_5_12 bw_5_13 bw_5_14) rfl ddJ7_fill_53178.2 (by decide) (Nat.le_of_ble_eq_true rfl) dX3_clear_29 (k_eV (fun M11 e10 => ?_))
  subst e10
  have hz12 := hz9.row 51 (filz ((mrow (mrow (mrow M 48 (filz (M 48) 6 (-1))) 49 (filz ((mrow M 48 (filz (M 48) 6 (-1))) 49) 6 (-1))) 50 (filz ((mrow (mrow M 48 (filz (M 48) 6 (-1))) 49 (filz ((mrow M 48 (filz (M 48) 6 (-1))) 49) 6 (-1))) 50) 6 (-1))) 51) 6 (-1)) rfl
  refine v_aload_n X 0 dX3_clear_32 rfl rfl ?_
  refine gt_X3_landing X iwX3 (Nat.le_of_ble_eq_true rfl) (Nul.k hz12 rfl rfl) (List.mem_cons_of_mem _ bw_7_1) dX3_clear_33 52 hr4 ?_
  refine v_iconst X dX3_clear_36 ?_
  refine v_callSO X [.ref (ad 52), .int (iz (-1))] hRm (c_J7_fill_53178 _ _ _ 52 6 (-1) (Nat.le_of_ble_eq_true rfl) (Nul.at hz12 rfl rfl) ⟨by decide, by decide⟩ (by decide)) (gSO bw_7_8 bw_5_12 bw_5_13 bw_5_14) rfl ddJ7_fill_53178.2 (by decide) (Nat.le_of_ble_eq_true rfl) dX3_clear_37 (k_eV (fun M14 e13 => ?_))
  subst e13
  have hz15 := hz12.row 52 (filz ((mrow (mrow (mrow (mrow M 48 (filz (M 48) 6 (-1))) 49 (filz ((mrow M 48 (filz (M 48) 6 (-1))) 49) 6 (-1))) 50 (filz ((mrow (mrow M 48 (filz (M 48) 6 (-1))) 49 (filz ((mrow M 48 (filz (M 48) 6 (-1))) 49) 6 (-1))) 50) 6 (-1))) 51 (filz ((mrow (mrow (mrow M 48 (filz (M 48) 6 (-1))) 49 (filz ((mrow M 48 (filz (M 48) 6 (-1))) 49) 6 (-1))) 50 (filz ((mrow (mrow M 48 (filz (M 48) 6 (-1))) 49 (filz ((mrow M 48 (filz (M 48) 6 (-1))) 49) 6 (-1))) 50) 6 (-1))) 51) 6 (-1))) 52) 6 (-1)) rfl
  refine v_aload_n X 0 dX3_clear_40 rfl rfl ?_
  refine v_iconst X dX3_clear_41 ?_
  refine pt_X3_size X iwX3 (Nat.le_of_ble_eq_true rfl) (Nul.k hz15 rfl rfl) (List.mem_cons_of_mem _ bw_7_6) ⟨by decide, by decide⟩ dX3_clear_42 ?_
  have hz16 := hz15.um 47 5 0 rfl
  refine v_aload_n X 0 dX3_clear_45 rfl rfl ?_
  refine v_iconst X dX3_clear_46 ?_
  refine pt_X3_worth X iwX3 (Nat.le_of_ble_eq_true rfl) (Nul.k hz16 rfl rfl) (List.mem_cons_of_mem _ bw_7_7) ⟨by decide, by decide⟩ dX3_clear_47 ?_
  have hz17 := hz16.um 47 6 0 rfl
  refine hret _ _ _ _ _ _ _ _ _ _ _ none dX3_clear_50 ⟨rfl, rfl⟩ (by decide) (by decide) (fun hmok => ?_)
  refine ⟨rfl, rfl, rfl, rfl, rfl, rfl, ?_⟩
  try dsimp only
  all_goals rfl

def iM_X3_47 (M : MI) : MI := (mu (mu (mrow (mrow (mrow (mrow (mrow M 48 (filz (M 48) 6 (-1))) 49 (filz ((mrow M 48 (filz (M 48) 6 (-1))) 49) 6 (-1))) 50 (filz ((mrow (mrow M 48 (filz (M 48) 6 (-1))) 49 (filz ((mrow M 48 (filz (M 48) 6 (-1))) 49) 6 (-1))) 50) 6 (-1))) 51 (filz ((mrow (mrow (mrow M 48 (filz (M 48) 6 (-1))) 49 (filz ((mrow M 48 (filz (M 48) 6 (-1))) 49) 6 (-1))) 50 (filz ((mrow (mrow M 48 (filz (M 48) 6 (-1))) 49 (filz ((mrow M 48 (filz (M 48) 6 (-1))) 49) 6 (-1))) 50) 6 (-1))) 51) 6 (-1))) 52 (filz ((mrow (mrow (mrow (mrow M 48 (filz (M 48) 6 (-1))) 49 (filz ((mrow M 48 (filz (M 48) 6 (-1))) 49) 6 (-1))) 50 (filz ((mrow (mrow M 48 (filz (M 48) 6 (-1))) 49 (filz ((mrow M 48 (filz (M 48) 6 (-1))) 49) 6 (-1))) 50) 6 (-1))) 51 (filz ((mrow (mrow (mrow M 48 (filz (M 48) 6 (-1))) 49 (filz ((mrow M 48 (filz (M 48) 6 (-1))) 49) 6 (-1))) 50 (filz ((mrow (mrow M 48 (filz (M 48) 6 (-1))) 49 (filz ((mrow M 48 (filz (M 48) 6 (-1))) 49) 6 (-1))) 50) 6 (-1))) 51) 6 (-1))) 52) 6 (-1))) 47 5 0) 47 6 0)
def iR_X3_47 (R : MR) : MR := (mu (mu (mu (mu (mu R 47 0 (some 48)) 47 1 (some 49)) 47 2 (some 50)) 47 3 (some 51)) 47 4 (some 52))

-- Flights.<init>
set_option maxHeartbeats 4000000 in
set_option maxRecDepth 100000 in
theorem c_X3_init_47 (l : Launch) (D : va_G) (cy : Nat → ClassId) {N : Nat} {sh : MS} {ad : Nat → Nat} {M L : MI} {R : MR} (hN : N = 48) (hz : Nul N sh M L R) : Ctr l D cy yX3_init wsX3_init ({ frames := 2, cells := 5, slots := 30, locals := 43 } : Room) N sh ad M L R [.ref (ad 47)] (fun rv N' sh' ad' M' L' R' => rv = none ∧ N' = 53 ∧ sh' = sh ∧ (∀ j : Nat, j < 48 → ad' j = ad j) ∧ M' = iM_X3_47 M ∧ L' = L ∧ R' = iR_X3_47 R ∧ Nul N' sh' M' L' R') := by
  refine Ctr.ofV (by decide) rfl (Nat.le_of_ble_eq_true rfl) ?_
  intro K hKl hKd hRm hnm X hret
  have X : VX K cX3_init 1 wsX3_init RX3 := X
  show V K 1 0 0 N sh ad M L R [(0, .ref (ad 47))] [] 0
  subst hN
  have hac0 : ∀ j : Nat, j < 48 → ad j = ad j := fun _ _ => rfl
  refine v_aload_n X 0 dX3_init_0 rfl rfl ?_
  refine v_objInit X hRm (List.mem_cons_of_mem _ bw_6_20) (List.mem_cons_of_mem _ bw_1_10) (List.mem_cons_of_mem _ bw_1_11) ⟨Nat.le_of_ble_eq_true rfl, Nat.le_of_ble_eq_true rfl⟩ dX3_init_1 ?_
  refine v_aload_n X 0 dX3_init_4 rfl rfl ?_
  refine v_bipush X dX3_init_5 (by decide) ?_
  refine v_newaI X (n := 6) hRm (List.mem_cons_of_mem _ bw_3_10) (by decide) ⟨Nat.le_of_ble_eq_true rfl, Nat.le_of_ble_eq_true rfl⟩ dX3_init_7 ?_
  intro ad1 had2
  rw [← had2 47 (Nat.le_of_ble_eq_true rfl)]
  have hac3 : ∀ j : Nat, j < 48 → ad1 j = ad j := fun j hj => (had2 j (by omega)).trans (hac0 j hj)
  refine v_cl hz (Nul.at hz rfl rfl) (N1 := 49) rfl ?_
  have hz4 := hz.up 49 rfl
  refine pt_X3_order X iwX3 (Nat.le_of_ble_eq_true rfl) (Nul.k hz4 rfl rfl) (List.mem_cons_of_mem _ bw_6_21) hnm rfl 48 (Nat.le_of_ble_eq_true rfl) dX3_init_9 ?_
  have hz5 := hz4.umR 47 0 (some 48) rfl
  refine v_aload_n X 0 dX3_init_12 rfl rfl ?_
  refine v_bipush X dX3_init_13 (by decide) ?_
  refine v_newaI X (n := 6) hRm (List.mem_cons_of_mem _ bw_3_10) (by decide) ⟨Nat.le_of_ble_eq_true rfl, Nat.le_of_ble_eq_true rfl⟩ dX3_init_15 ?_
  intro ad6 had7
  rw [← had7 47 (Nat.le_of_ble_eq_true rfl)]
  have hac8 : ∀ j : Nat, j < 48 → ad6 j = ad j := fun j hj => (had7 j (by omega)).trans (hac3 j hj)
  refine v_cl hz5 (Nul.at hz5 rfl rfl) (N1 := 50) rfl ?_
  have hz9 := hz5.up 50 rfl
  refine pt_X3_takeOff X iwX3 (Nat.le_of_ble_eq_true rfl) (Nul.k hz9 rfl rfl) (List.mem_cons_of_mem _ bw_6_22) hnm rfl 49 (Nat.le_of_ble_eq_true rfl) dX3_init_17 ?_
  have hz10 := hz9.umR 47 1 (some 49) rfl
  refine v_aload_n X 0 dX3_init_20 rfl rfl ?_
  refine v_bipush X dX3_init_21 (by decide) ?_
  refine v_newaI X (n := 6) hRm (List.mem_cons_of_mem _ bw_3_10) (by decide) ⟨Nat.le_of_ble_eq_true rfl, Nat.le_of_ble_eq_true rfl⟩ dX3_init_23 ?_
  intro ad11 had12
  rw [← had12 47 (Nat.le_of_ble_eq_true rfl)]
  have hac13 : ∀ j : Nat, j < 48 → ad11 j = ad j := fun j hj => (had12 j (by omega)).trans (hac8 j hj)
  refine v_cl hz10 (Nul.at hz10 rfl rfl) (N1 := 51) rfl ?_
  have hz14 := hz10.up 51 rfl
  refine pt_X3_begin X iwX3 (Nat.le_of_ble_eq_true rfl) (Nul.k hz14 rfl rfl) (List.mem_cons_of_mem _ bw_6_23) hnm rfl 50 (Nat.le_of_ble_eq_true rfl) dX3_init_25 ?_
  have hz15 := hz14.umR 47 2 (some 50) rfl
  refine v_aload_n X 0 dX3_init_28 rfl rfl ?_
  refine v_bipush X dX3_init_29 (by decide) ?_
  refine v_newaI X (n := 6) hRm (List.mem_cons_of_mem _ bw_3_10) (by decide) ⟨Nat.le_of_ble_eq_true rfl, Nat.le_of_ble_eq_true rfl⟩ dX3_init_31 ?_
  intro ad16 had17
  rw [← had17 47 (Nat.le_of_ble_eq_true rfl)]
  have hac18 : ∀ j : Nat, j < 48 → ad16 j = ad j := fun j hj => (had17 j (by omega)).trans (hac13 j hj)
  refine v_cl hz15 (Nul.at hz15 rfl rfl) (N1 := 52) rfl ?_
  have hz19 := hz15.up 52 rfl
  refine pt_X3_minutes X iwX3 (Nat.le_of_ble_eq_true rfl) (Nul.k hz19 rfl rfl) (List.mem_cons_of_mem _ bw_7_0) hnm rfl 51 (Nat.le_of_ble_eq_true rfl) dX3_init_33 ?_
  have hz20 := hz19.umR 47 3 (some 51) rfl
  refine v_aload_n X 0 dX3_init_36 rfl rfl ?_
  refine v_bipush X dX3_init_37 (by decide) ?_
  refine v_newaI X (n := 6) hRm (List.mem_cons_of_mem _ bw_3_10) (by decide) ⟨Nat.le_of_ble_eq_true rfl, Nat.le_of_ble_eq_true rfl⟩ dX3_init_39 ?_
  intro ad21 had22
  rw [← had22 47 (Nat.le_of_ble_eq_true rfl)]
  have hac23 : ∀ j : Nat, j < 48 → ad21 j = ad j := fun j hj => (had22 j (by omega)).trans (hac18 j hj)
  refine v_cl hz20 (Nul.at hz20 rfl rfl) (N1 := 53) rfl ?_
  have hz24 := hz20.up 53 rfl
  refine pt_X3_landing X iwX3 (Nat.le_of_ble_eq_true rfl) (Nul.k hz24 rfl rfl) (List.mem_cons_of_mem _ bw_7_1) hnm rfl 52 (Nat.le_of_ble_eq_true rfl) dX3_init_41 ?_
  have hz25 := hz24.umR 47 4 (some 52) rfl
  refine v_aload_n X 0 dX3_init_44 rfl rfl ?_
  refine v_callV X [] hRm (c_X3_clear0_47 _ _ _ rfl hz25 rfl rfl rfl rfl rfl) (gV bw_7_2 bw_7_3 bw_7_4 bw_2_19 bw_7_5) rfl ddX3_clear (by decide) (Nat.le_of_ble_eq_true rfl) (Nul.k hz25 rfl rfl) ⟨rfl, by decide⟩ (Nat.le_of_ble_eq_true rfl) dX3_init_45 (k_eV (fun M27 e26 => ?_))
  subst e26
  have hz28 := hz25.row 48 (filz (M 48) 6 (-1)) rfl
  have hz29 := hz28.row 49 (filz ((mrow M 48 (filz (M 48) 6 (-1))) 49) 6 (-1)) rfl
  have hz30 := hz29.row 50 (filz ((mrow (mrow M 48 (filz (M 48) 6 (-1))) 49 (filz ((mrow M 48 (filz (M 48) 6 (-1))) 49) 6 (-1))) 50) 6 (-1)) rfl
  have hz31 := hz30.row 51 (filz ((mrow (mrow (mrow M 48 (filz (M 48) 6 (-1))) 49 (filz ((mrow M 48 (filz (M 48) 6 (-1))) 49) 6 (-1))) 50 (filz ((mrow (mrow M 48 (filz (M 48) 6 (-1))) 49 (filz ((mrow M 48 (filz (M 48) 6 (-1))) 49) 6 (-1))) 50) 6 (-1))) 51) 6 (-1)) rfl
  have hz32 := hz31.row 52 (filz ((mrow (mrow (mrow (mrow M 48 (filz (M 48) 6 (-1))) 49 (filz ((mrow M 48 (filz (M 48) 6 (-1))) 49) 6 (-1))) 50 (filz ((mrow (mrow M 48 (filz (M 48) 6 (-1))) 49 (filz ((mrow M 48 (filz (M 48) 6 (-1))) 49) 6 (-1))) 50) 6 (-1))) 51 (filz ((mrow (mrow (mrow M 48 (filz (M 48) 6 (-1))) 49 (filz ((mrow M 48 (filz (M 48) 6 (-1))) 49) 6 (-1))) 50 (filz ((mrow (mrow M 48 (filz (M 48) 6 (-1))) 49 (filz ((mrow M 48 (filz (M 48) 6 (-1))) 49) 6 (-1))) 50) 6 (-1))) 51) 6 (-1))) 52) 6 (-1)) rfl
  have hz33 := hz32.um 47 5 0 rfl
  have hz34 := hz33.um 47 6 0 rfl
  refine hret _ _ _ _ _ _ _ _ _ _ _ none dX3_init_48 ⟨rfl, rfl⟩ (by decide) (by decide) (fun hmok => ?_)
  exact ⟨rfl, rfl, rfl, hac23, rfl, rfl, rfl, hz34⟩

def iM_X4 (M : MI) : MI := (iM_X3_41 (iM_X3_35 M))
def iR_X4 (R : MR) : MR := (mu (mu (mu (mu (iR_X3_41 (mu (iR_X3_35 (mu (mu (mu R 31 2 (some 32)) 31 3 (some 33)) 31 4 (some 34))) 31 5 (some 35))) 31 6 (some 41)) 31 0 (some 6)) 31 1 (some 13)) 31 7 (some 17))

-- Planner.<init>
set_option maxHeartbeats 4000000 in
set_option maxRecDepth 100000 in
theorem c_X4_init (l : Launch) (D : va_G) (cy : Nat → ClassId) {N : Nat} {sh : MS} {ad : Nat → Nat} {M L : MI} {R : MR} (hN : N = 32) (hz : Nul N sh M L R) : Ctr l D cy yX4_init wsX4_init ({ frames := 3, cells := 15, slots := 383, locals := 63 } : Room) N sh ad M L R [.ref (ad 31), .ref (ad 6), .ref (ad 13), .ref (ad 17)] (fun rv N' sh' ad' M' L' R' => rv = none ∧ N' = 47 ∧ sh' = sh ∧ (∀ j : Nat, j < 32 → ad' j = ad j) ∧ M' = iM_X4 M ∧ L' = L ∧ R' = iR_X4 R ∧ Nul N' sh' M' L' R') := by
  refine Ctr.ofV (by decide) rfl (Nat.le_of_ble_eq_true rfl) ?_
  intro K hKl hKd hRm hnm X hret
  have X : VX K cX4_init 4 wsX4_init RX4 := X
  show V K 4 0 0 N sh ad M L R [(0, .ref (ad 31)), (1, .ref (ad 6)), (2, .ref (ad 13)), (3, .ref (ad 17))] [] 0
  subst hN
  have hac0 : ∀ j : Nat, j < 32 → ad j = ad j := fun _ _ => rfl
  refine v_aload_n X 0 dX4_init_0 rfl rfl ?_
  refine v_objInit X hRm (List.mem_cons_of_mem _ bw_6_6) (List.mem_cons_of_mem _ bw_1_10) (List.mem_cons_of_mem _ bw_1_11) ⟨Nat.le_of_ble_eq_true rfl, Nat.le_of_ble_eq_true rfl⟩ dX4_init_1 ?_
  refine v_aload_n X 0 dX4_init_4 rfl rfl ?_
  refine v_bipush X dX4_init_5 (by decide) ?_
  refine v_newaI X (n := 9) hRm (List.mem_cons_of_mem _ bw_3_10) (by decide) ⟨Nat.le_of_ble_eq_true rfl, Nat.le_of_ble_eq_true rfl⟩ dX4_init_7 ?_
  intro ad1 had2
  rw [← had2 31 (Nat.le_of_ble_eq_true rfl)]
  rw [← had2 6 (Nat.le_of_ble_eq_true rfl)]
  rw [← had2 13 (Nat.le_of_ble_eq_true rfl)]
  rw [← had2 17 (Nat.le_of_ble_eq_true rfl)]
  have hac3 : ∀ j : Nat, j < 32 → ad1 j = ad j := fun j hj => (had2 j (by omega)).trans (hac0 j hj)
  refine v_cl hz (Nul.at hz rfl rfl) (N1 := 33) rfl ?_
  have hz4 := hz.up 33 rfl
  refine pt_X4_vars X iwX4 (Nat.le_of_ble_eq_true rfl) (Nul.k hz4 rfl rfl) (List.mem_cons_of_mem _ bw_6_7) hnm rfl 32 (Nat.le_of_ble_eq_true rfl) dX4_init_9 ?_
  have hz5 := hz4.umR 31 2 (some 32) rfl
  refine v_aload_n X 0 dX4_init_12 rfl rfl ?_
  refine v_bipush X dX4_init_13 (by decide) ?_
  refine v_newaI X (n := 60) hRm (List.mem_cons_of_mem _ bw_3_10) (by decide) ⟨Nat.le_of_ble_eq_true rfl, Nat.le_of_ble_eq_true rfl⟩ dX4_init_15 ?_
  intro ad6 had7
  rw [← had7 31 (Nat.le_of_ble_eq_true rfl)]
  rw [← had7 6 (Nat.le_of_ble_eq_true rfl)]
  rw [← had7 13 (Nat.le_of_ble_eq_true rfl)]
  rw [← had7 17 (Nat.le_of_ble_eq_true rfl)]
  have hac8 : ∀ j : Nat, j < 32 → ad6 j = ad j := fun j hj => (had7 j (by omega)).trans (hac3 j hj)
  refine v_cl hz5 (Nul.at hz5 rfl rfl) (N1 := 34) rfl ?_
  have hz9 := hz5.up 34 rfl
  refine pt_X4_lengths X iwX4 (Nat.le_of_ble_eq_true rfl) (Nul.k hz9 rfl rfl) (List.mem_cons_of_mem _ bw_6_8) hnm rfl 33 (Nat.le_of_ble_eq_true rfl) dX4_init_17 ?_
  have hz10 := hz9.umR 31 3 (some 33) rfl
  refine v_aload_n X 0 dX4_init_20 rfl rfl ?_
  refine v_sipush X dX4_init_21 (by decide) ?_
  refine v_newaZ X (n := 240) hRm (List.mem_cons_of_mem _ bw_6_9) (by decide) ⟨Nat.le_of_ble_eq_true rfl, Nat.le_of_ble_eq_true rfl⟩ dX4_init_24 ?_
  intro ad11 had12
  rw [← had12 31 (Nat.le_of_ble_eq_true rfl)]
  rw [← had12 6 (Nat.le_of_ble_eq_true rfl)]
  rw [← had12 13 (Nat.le_of_ble_eq_true rfl)]
  rw [← had12 17 (Nat.le_of_ble_eq_true rfl)]
  have hac13 : ∀ j : Nat, j < 32 → ad11 j = ad j := fun j hj => (had12 j (by omega)).trans (hac8 j hj)
  refine v_cl hz10 (Nul.at hz10 rfl rfl) (N1 := 35) rfl ?_
  have hz14 := hz10.up 35 rfl
  refine pt_X4_taken X iwX4 (Nat.le_of_ble_eq_true rfl) (Nul.k hz14 rfl rfl) (List.mem_cons_of_mem _ bw_6_10) hnm rfl 34 (Nat.le_of_ble_eq_true rfl) dX4_init_26 ?_
  have hz15 := hz14.umR 31 4 (some 34) rfl
  refine v_aload_n X 0 dX4_init_29 rfl rfl ?_
  refine v_new X (ci := 3) (n := 7) tyX3 iwX3 tyX3_ok rfl (by decide) (by intro k hk; rcases (show k = 0 ∨ k = 1 ∨ k = 2 ∨ k = 3 ∨ k = 4 ∨ k = 5 ∨ k = 6 by omega) with h | h | h | h | h | h | h <;> subst h <;> rfl) hRm (List.mem_cons_of_mem _ bw_6_11) (List.mem_cons_of_mem _ bw_2_18) (List.mem_cons_of_mem _ bw_2_19) ⟨Nat.le_of_ble_eq_true rfl, Nat.le_of_ble_eq_true rfl⟩ dX4_init_30 ?_
  intro ad16 had17
  rw [← had17 31 (Nat.le_of_ble_eq_true rfl)]
  rw [← had17 6 (Nat.le_of_ble_eq_true rfl)]
  rw [← had17 13 (Nat.le_of_ble_eq_true rfl)]
  rw [← had17 17 (Nat.le_of_ble_eq_true rfl)]
  have hac18 : ∀ j : Nat, j < 32 → ad16 j = ad j := fun j hj => (had17 j (by omega)).trans (hac13 j hj)
  refine v_cl hz15 (Nul.at hz15 rfl rfl) (N1 := 36) rfl ?_
  have hz19 := hz15.up 36 rfl
  refine v_dup X dX4_init_33 rfl ?_
  refine v_callI X [] hRm (c_X3_init_35 _ _ _ rfl hz19) (gCode bw_6_19) rfl (List.mem_cons_of_mem _ bw_2_19) (List.mem_cons_of_mem _ bw_6_17) (List.mem_cons_of_mem _ bw_6_18) rfl ddX3_init.2 (by decide) (Nat.le_of_ble_eq_true rfl) dX4_init_34 ?_
  rintro _ Nx20 shx21 adx22 Mx23 Lx24 Rx25 ⟨rfl, rfl, rfl, had26, rfl, rfl, rfl, hz27⟩
  rw [← had26 31 (Nat.le_of_ble_eq_true rfl)]
  rw [← had26 6 (Nat.le_of_ble_eq_true rfl)]
  rw [← had26 13 (Nat.le_of_ble_eq_true rfl)]
  rw [← had26 17 (Nat.le_of_ble_eq_true rfl)]
  rw [← had26 35 (Nat.le_of_ble_eq_true rfl)]
  have hac28 : ∀ j : Nat, j < 32 → adx22 j = ad j := fun j hj => (had26 j (by omega)).trans (hac18 j hj)
  refine pt_X4_best X iwX4 (Nat.le_of_ble_eq_true rfl) (Nul.k hz27 rfl rfl) (List.mem_cons_of_mem _ bw_6_12) hnm rfl 35 (Nat.le_of_ble_eq_true rfl) dX4_init_37 ?_
  have hz29 := hz27.umR 31 5 (some 35) rfl
  refine v_aload_n X 0 dX4_init_40 rfl rfl ?_
  refine v_new X (ci := 3) (n := 7) tyX3 iwX3 tyX3_ok rfl (by decide) (by intro k hk; rcases (show k = 0 ∨ k = 1 ∨ k = 2 ∨ k = 3 ∨ k = 4 ∨ k = 5 ∨ k = 6 by omega) with h | h | h | h | h | h | h <;> subst h <;> rfl) hRm (List.mem_cons_of_mem _ bw_6_11) (List.mem_cons_of_mem _ bw_2_18) (List.mem_cons_of_mem _ bw_2_19) ⟨Nat.le_of_ble_eq_true rfl, Nat.le_of_ble_eq_true rfl⟩ dX4_init_41 ?_
  intro ad30 had31
  rw [← had31 31 (Nat.le_of_ble_eq_true rfl)]
  rw [← had31 6 (Nat.le_of_ble_eq_true rfl)]
  rw [← had31 13 (Nat.le_of_ble_eq_true rfl)]
  rw [← had31 17 (Nat.le_of_ble_eq_true rfl)]
  have hac32 : ∀ j : Nat, j < 32 → ad30 j = ad j := fun j hj => (had31 j (by omega)).trans (hac28 j hj)
  refine v_cl hz29 (Nul.at hz29 rfl rfl) (N1 := 42) rfl ?_
  have hz33 := hz29.up 42 rfl
  refine v_dup X dX4_init_44 rfl ?_
  refine v_callI X [] hRm (c_X3_init_41 _ _ _ rfl hz33) (gCode bw_6_19) rfl (List.mem_cons_of_mem _ bw_2_19) (List.mem_cons_of_mem _ bw_6_17) (List.mem_cons_of_mem _ bw_6_18) rfl ddX3_init.2 (by decide) (Nat.le_of_ble_eq_true rfl) dX4_init_45 ?_
  rintro _ Nx34 shx35 adx36 Mx37 Lx38 Rx39 ⟨rfl, rfl, rfl, had40, rfl, rfl, rfl, hz41⟩
  rw [← had40 31 (Nat.le_of_ble_eq_true rfl)]
  rw [← had40 6 (Nat.le_of_ble_eq_true rfl)]
  rw [← had40 13 (Nat.le_of_ble_eq_true rfl)]
  rw [← had40 17 (Nat.le_of_ble_eq_true rfl)]
  rw [← had40 41 (Nat.le_of_ble_eq_true rfl)]
  have hac42 : ∀ j : Nat, j < 32 → adx36 j = ad j := fun j hj => (had40 j (by omega)).trans (hac32 j hj)
  refine pt_X4_trial X iwX4 (Nat.le_of_ble_eq_true rfl) (Nul.k hz41 rfl rfl) (List.mem_cons_of_mem _ bw_6_13) hnm rfl 41 (Nat.le_of_ble_eq_true rfl) dX4_init_48 ?_
  have hz43 := hz41.umR 31 6 (some 41) rfl
  refine v_aload_n X 0 dX4_init_51 rfl rfl ?_
  refine v_aload_n X 1 dX4_init_52 rfl rfl ?_
  refine pt_X4_show X iwX4 (Nat.le_of_ble_eq_true rfl) (Nul.k hz43 rfl rfl) (List.mem_cons_of_mem _ bw_6_14) hnm rfl 6 (Nat.le_of_ble_eq_true rfl) dX4_init_53 ?_
  have hz44 := hz43.umR 31 0 (some 6) rfl
  refine v_aload_n X 0 dX4_init_56 rfl rfl ?_
  refine v_aload_n X 2 dX4_init_57 rfl rfl ?_
  refine pt_X4_sky X iwX4 (Nat.le_of_ble_eq_true rfl) (Nul.k hz44 rfl rfl) (List.mem_cons_of_mem _ bw_6_15) hnm rfl 13 (Nat.le_of_ble_eq_true rfl) dX4_init_58 ?_
  have hz45 := hz44.umR 31 1 (some 13) rfl
  refine v_aload_n X 0 dX4_init_61 rfl rfl ?_
  refine v_aload_n X 3 dX4_init_62 rfl rfl ?_
  refine pt_X4_text X iwX4 (Nat.le_of_ble_eq_true rfl) (Nul.k hz45 rfl rfl) (List.mem_cons_of_mem _ bw_6_16) 17 (Nat.le_of_ble_eq_true rfl) dX4_init_63 ?_
  have hz46 := hz45.umR 31 7 (some 17) rfl
  refine hret _ _ _ _ _ _ _ _ _ _ _ none dX4_init_66 ⟨rfl, rfl⟩ (by decide) (by decide) (fun hmok => ?_)
  exact ⟨rfl, rfl, rfl, hac42, rfl, rfl, rfl, hz46⟩

def iM_X11 (M : MI) : MI := (mu (mu (iM_X3_47 (iM_X4 (iM_X10_24 (iM_X10_17 (iM_X8 (iM_X1 (iM_X7 (iM_X5 (iM_X9 M))))))))) 0 7 0) 0 10 (-1))
def iR_X11 (R : MR) : MR := (mu (iR_X3_47 (mu (iR_X4 (mu (iR_X10_24 (mu (iR_X10_17 (mu (iR_X8 (mu (iR_X1 (mu (iR_X7 (mu (iR_X5 (mu (iR_X9 R) 0 0 (some 1))) 0 1 (some 3))) 0 2 (some 6))) 0 3 (some 9))) 0 4 (some 13))) 0 8 (some 17))) 0 9 (some 24))) 0 5 (some 31))) 0 6 (some 47))

-- SkyBox.<init>
set_option maxHeartbeats 4000000 in
set_option maxRecDepth 100000 in
theorem c_X11_init (l : Launch) (D : va_G) (cy : Nat → ClassId) {N : Nat} {sh : MS} {ad : Nat → Nat} {M L : MI} {R : MR} (hN : N = 1) (hz : Nul N sh M L R) : Ctr l D cy yX11_init wsX11_init ({ frames := 4, cells := 52, slots := 4288, locals := 86 } : Room) N sh ad M L R [.ref (ad 0)] (fun rv N' sh' ad' M' L' R' => rv = none ∧ N' = 53 ∧ sh' = sh ∧ (∀ j : Nat, j < 1 → ad' j = ad j) ∧ M' = iM_X11 M ∧ L' = L ∧ R' = iR_X11 R ∧ Nul N' sh' M' L' R') := by
  refine Ctr.ofV (by decide) rfl (Nat.le_of_ble_eq_true rfl) ?_
  intro K hKl hKd hRm hnm X hret
  have X : VX K cX11_init 1 wsX11_init RX11 := X
  show V K 1 0 0 N sh ad M L R [(0, .ref (ad 0))] [] 0
  subst hN
  have hac0 : ∀ j : Nat, j < 1 → ad j = ad j := fun _ _ => rfl
  refine v_aload_n X 0 dX11_init_0 rfl rfl ?_
  refine v_objInit X hRm (List.mem_cons_of_mem _ bw_1_9) (List.mem_cons_of_mem _ bw_1_10) (List.mem_cons_of_mem _ bw_1_11) ⟨Nat.le_of_ble_eq_true rfl, Nat.le_of_ble_eq_true rfl⟩ dX11_init_1 ?_
  refine v_aload_n X 0 dX11_init_4 rfl rfl ?_
  refine v_new X (ci := 9) (n := 2) tyX9 iwX9 tyX9_ok rfl (by decide) (by intro k hk; rcases (show k = 0 ∨ k = 1 by omega) with h | h <;> subst h <;> rfl) hRm (List.mem_cons_of_mem _ bw_1_12) (List.mem_cons_of_mem _ bw_1_13) (List.mem_cons_of_mem _ bw_1_14) ⟨Nat.le_of_ble_eq_true rfl, Nat.le_of_ble_eq_true rfl⟩ dX11_init_5 ?_
  intro ad1 had2
  rw [← had2 0 (Nat.le_of_ble_eq_true rfl)]
  have hac3 : ∀ j : Nat, j < 1 → ad1 j = ad j := fun j hj => (had2 j (by omega)).trans (hac0 j hj)
  refine v_cl hz (Nul.at hz rfl rfl) (N1 := 2) rfl ?_
  have hz4 := hz.up 2 rfl
  refine v_dup X dX11_init_8 rfl ?_
  refine v_callI X [] hRm (c_X9_init _ _ _ rfl hz4) (gCode bw_3_1) rfl (List.mem_cons_of_mem _ bw_1_14) (List.mem_cons_of_mem _ bw_2_23) (List.mem_cons_of_mem _ bw_3_0) rfl ddX9_init.2 (by decide) (Nat.le_of_ble_eq_true rfl) dX11_init_9 ?_
  rintro _ Nx5 shx6 adx7 Mx8 Lx9 Rx10 ⟨rfl, rfl, rfl, had11, rfl, rfl, rfl, hz12⟩
  rw [← had11 0 (Nat.le_of_ble_eq_true rfl)]
  rw [← had11 1 (Nat.le_of_ble_eq_true rfl)]
  have hac13 : ∀ j : Nat, j < 1 → adx7 j = ad j := fun j hj => (had11 j (by omega)).trans (hac3 j hj)
  refine pt_X11_tape X iwX11 (Nat.le_of_ble_eq_true rfl) (Nul.k hz12 rfl rfl) (List.mem_cons_of_mem _ bw_1_15) hnm rfl 1 (Nat.le_of_ble_eq_true rfl) dX11_init_12 ?_
  have hz14 := hz12.umR 0 0 (some 1) rfl
  refine v_aload_n X 0 dX11_init_15 rfl rfl ?_
  refine v_new X (ci := 5) (n := 6) tyX5 iwX5 tyX5_ok rfl (by decide) (by intro k hk; rcases (show k = 0 ∨ k = 1 ∨ k = 2 ∨ k = 3 ∨ k = 4 ∨ k = 5 by omega) with h | h | h | h | h | h <;> subst h <;> rfl) hRm (List.mem_cons_of_mem _ bw_1_16) (List.mem_cons_of_mem _ bw_1_17) (List.mem_cons_of_mem _ bw_1_18) ⟨Nat.le_of_ble_eq_true rfl, Nat.le_of_ble_eq_true rfl⟩ dX11_init_16 ?_
  intro ad15 had16
  rw [← had16 0 (Nat.le_of_ble_eq_true rfl)]
  have hac17 : ∀ j : Nat, j < 1 → ad15 j = ad j := fun j hj => (had16 j (by omega)).trans (hac13 j hj)
  refine v_cl hz14 (Nul.at hz14 rfl rfl) (N1 := 4) rfl ?_
  have hz18 := hz14.up 4 rfl
  refine v_dup X dX11_init_19 rfl ?_
  refine v_aload_n X 0 dX11_init_20 rfl rfl ?_
  refine gt_X11_tape X iwX11 (Nat.le_of_ble_eq_true rfl) (Nul.k hz18 rfl rfl) (List.mem_cons_of_mem _ bw_1_15) dX11_init_21 1 rfl ?_
  refine v_callI X [.ref (ad15 1)] hRm (c_X5_init _ _ _ rfl hz18) (gCode bw_3_8) rfl (List.mem_cons_of_mem _ bw_1_18) (List.mem_cons_of_mem _ bw_3_6) (List.mem_cons_of_mem _ bw_3_7) rfl ddX5_init.2 (by decide) (Nat.le_of_ble_eq_true rfl) dX11_init_24 ?_
  rintro _ Nx19 shx20 adx21 Mx22 Lx23 Rx24 ⟨rfl, rfl, rfl, had25, rfl, rfl, rfl, hz26⟩
  rw [← had25 0 (Nat.le_of_ble_eq_true rfl)]
  rw [← had25 3 (Nat.le_of_ble_eq_true rfl)]
  have hac27 : ∀ j : Nat, j < 1 → adx21 j = ad j := fun j hj => (had25 j (by omega)).trans (hac17 j hj)
  refine pt_X11_reader X iwX11 (Nat.le_of_ble_eq_true rfl) (Nul.k hz26 rfl rfl) (List.mem_cons_of_mem _ bw_1_19) hnm rfl 3 (Nat.le_of_ble_eq_true rfl) dX11_init_27 ?_
  have hz28 := hz26.umR 0 1 (some 3) rfl
  refine v_aload_n X 0 dX11_init_30 rfl rfl ?_
  refine v_new X (ci := 7) (n := 6) tyX7 iwX7 tyX7_ok rfl (by decide) (by intro k hk; rcases (show k = 0 ∨ k = 1 ∨ k = 2 ∨ k = 3 ∨ k = 4 ∨ k = 5 by omega) with h | h | h | h | h | h <;> subst h <;> rfl) hRm (List.mem_cons_of_mem _ bw_1_20) (List.mem_cons_of_mem _ bw_1_21) (List.mem_cons_of_mem _ bw_1_22) ⟨Nat.le_of_ble_eq_true rfl, Nat.le_of_ble_eq_true rfl⟩ dX11_init_31 ?_
  intro ad29 had30
  rw [← had30 0 (Nat.le_of_ble_eq_true rfl)]
  have hac31 : ∀ j : Nat, j < 1 → ad29 j = ad j := fun j hj => (had30 j (by omega)).trans (hac27 j hj)
  refine v_cl hz28 (Nul.at hz28 rfl rfl) (N1 := 7) rfl ?_
  have hz32 := hz28.up 7 rfl
  refine v_dup X dX11_init_34 rfl ?_
  refine v_callI X [] hRm (c_X7_init _ _ _ rfl hz32) (gCode bw_4_11) rfl (List.mem_cons_of_mem _ bw_1_22) (List.mem_cons_of_mem _ bw_4_9) (List.mem_cons_of_mem _ bw_4_10) rfl ddX7_init.2 (by decide) (Nat.le_of_ble_eq_true rfl) dX11_init_35 ?_
  rintro _ Nx33 shx34 adx35 Mx36 Lx37 Rx38 ⟨rfl, rfl, rfl, had39, rfl, rfl, rfl, hz40⟩
  rw [← had39 0 (Nat.le_of_ble_eq_true rfl)]
  rw [← had39 6 (Nat.le_of_ble_eq_true rfl)]
  have hac41 : ∀ j : Nat, j < 1 → adx35 j = ad j := fun j hj => (had39 j (by omega)).trans (hac31 j hj)
  refine pt_X11_show X iwX11 (Nat.le_of_ble_eq_true rfl) (Nul.k hz40 rfl rfl) (List.mem_cons_of_mem _ bw_1_23) hnm rfl 6 (Nat.le_of_ble_eq_true rfl) dX11_init_38 ?_
  have hz42 := hz40.umR 0 2 (some 6) rfl
  refine v_aload_n X 0 dX11_init_41 rfl rfl ?_
  refine v_new X (ci := 1) (n := 4) tyX1 iwX1 tyX1_ok rfl (by decide) (by intro k hk; rcases (show k = 0 ∨ k = 1 ∨ k = 2 ∨ k = 3 by omega) with h | h | h | h <;> subst h <;> rfl) hRm (List.mem_cons_of_mem _ bw_2_0) (List.mem_cons_of_mem _ bw_2_1) (List.mem_cons_of_mem _ bw_2_2) ⟨Nat.le_of_ble_eq_true rfl, Nat.le_of_ble_eq_true rfl⟩ dX11_init_42 ?_
  intro ad43 had44
  rw [← had44 0 (Nat.le_of_ble_eq_true rfl)]
  have hac45 : ∀ j : Nat, j < 1 → ad43 j = ad j := fun j hj => (had44 j (by omega)).trans (hac41 j hj)
  refine v_cl hz42 (Nul.at hz42 rfl rfl) (N1 := 10) rfl ?_
  have hz46 := hz42.up 10 rfl
  refine v_dup X dX11_init_45 rfl ?_
  refine v_callI X [] hRm (c_X1_init _ _ _ rfl hz46) (gCode bw_4_22) rfl (List.mem_cons_of_mem _ bw_2_2) (List.mem_cons_of_mem _ bw_4_20) (List.mem_cons_of_mem _ bw_4_21) rfl ddX1_init.2 (by decide) (Nat.le_of_ble_eq_true rfl) dX11_init_46 ?_
  rintro _ Nx47 shx48 adx49 Mx50 Lx51 Rx52 ⟨rfl, rfl, rfl, had53, rfl, rfl, rfl, hz54⟩
  rw [← had53 0 (Nat.le_of_ble_eq_true rfl)]
  rw [← had53 9 (Nat.le_of_ble_eq_true rfl)]
  have hac55 : ∀ j : Nat, j < 1 → adx49 j = ad j := fun j hj => (had53 j (by omega)).trans (hac45 j hj)
  refine pt_X11_facts X iwX11 (Nat.le_of_ble_eq_true rfl) (Nul.k hz54 rfl rfl) (List.mem_cons_of_mem _ bw_2_3) hnm rfl 9 (Nat.le_of_ble_eq_true rfl) dX11_init_49 ?_
  have hz56 := hz54.umR 0 3 (some 9) rfl
  refine v_aload_n X 0 dX11_init_52 rfl rfl ?_
  refine v_new X (ci := 8) (n := 3) tyX8 iwX8 tyX8_ok rfl (by decide) (by intro k hk; rcases (show k = 0 ∨ k = 1 ∨ k = 2 by omega) with h | h | h <;> subst h <;> rfl) hRm (List.mem_cons_of_mem _ bw_2_4) (List.mem_cons_of_mem _ bw_2_5) (List.mem_cons_of_mem _ bw_2_6) ⟨Nat.le_of_ble_eq_true rfl, Nat.le_of_ble_eq_true rfl⟩ dX11_init_53 ?_
  intro ad57 had58
  rw [← had58 0 (Nat.le_of_ble_eq_true rfl)]
  have hac59 : ∀ j : Nat, j < 1 → ad57 j = ad j := fun j hj => (had58 j (by omega)).trans (hac55 j hj)
  refine v_cl hz56 (Nul.at hz56 rfl rfl) (N1 := 14) rfl ?_
  have hz60 := hz56.up 14 rfl
  refine v_dup X dX11_init_56 rfl ?_
  refine v_callI X [] hRm (c_X8_init _ _ _ rfl hz60) (gCode bw_5_6) rfl (List.mem_cons_of_mem _ bw_2_6) (List.mem_cons_of_mem _ bw_5_4) (List.mem_cons_of_mem _ bw_5_5) rfl ddX8_init.2 (by decide) (Nat.le_of_ble_eq_true rfl) dX11_init_57 ?_
  rintro _ Nx61 shx62 adx63 Mx64 Lx65 Rx66 ⟨rfl, rfl, rfl, had67, rfl, rfl, rfl, hz68⟩
  rw [← had67 0 (Nat.le_of_ble_eq_true rfl)]
  rw [← had67 13 (Nat.le_of_ble_eq_true rfl)]
  have hac69 : ∀ j : Nat, j < 1 → adx63 j = ad j := fun j hj => (had67 j (by omega)).trans (hac59 j hj)
  refine pt_X11_sky X iwX11 (Nat.le_of_ble_eq_true rfl) (Nul.k hz68 rfl rfl) (List.mem_cons_of_mem _ bw_2_7) hnm rfl 13 (Nat.le_of_ble_eq_true rfl) dX11_init_60 ?_
  have hz70 := hz68.umR 0 4 (some 13) rfl
  refine v_aload_n X 0 dX11_init_63 rfl rfl ?_
  refine v_new X (ci := 10) (n := 8) tyX10 iwX10 tyX10_ok rfl (by decide) (by intro k hk; rcases (show k = 0 ∨ k = 1 ∨ k = 2 ∨ k = 3 ∨ k = 4 ∨ k = 5 ∨ k = 6 ∨ k = 7 by omega) with h | h | h | h | h | h | h | h <;> subst h <;> rfl) hRm (List.mem_cons_of_mem _ bw_2_8) (List.mem_cons_of_mem _ bw_2_9) (List.mem_cons_of_mem _ bw_2_10) ⟨Nat.le_of_ble_eq_true rfl, Nat.le_of_ble_eq_true rfl⟩ dX11_init_64 ?_
  intro ad71 had72
  rw [← had72 0 (Nat.le_of_ble_eq_true rfl)]
  have hac73 : ∀ j : Nat, j < 1 → ad71 j = ad j := fun j hj => (had72 j (by omega)).trans (hac69 j hj)
  refine v_cl hz70 (Nul.at hz70 rfl rfl) (N1 := 18) rfl ?_
  have hz74 := hz70.up 18 rfl
  refine v_dup X dX11_init_67 rfl ?_
  refine v_callI X [] hRm (c_X10_init_17 _ _ _ rfl hz74) (gCode bw_5_17) rfl (List.mem_cons_of_mem _ bw_2_10) (List.mem_cons_of_mem _ bw_5_15) (List.mem_cons_of_mem _ bw_5_16) rfl ddX10_init.2 (by decide) (Nat.le_of_ble_eq_true rfl) dX11_init_68 ?_
  rintro _ Nx75 shx76 adx77 Mx78 Lx79 Rx80 ⟨rfl, rfl, rfl, had81, rfl, rfl, rfl, hz82⟩
  rw [← had81 0 (Nat.le_of_ble_eq_true rfl)]
  rw [← had81 17 (Nat.le_of_ble_eq_true rfl)]
  have hac83 : ∀ j : Nat, j < 1 → adx77 j = ad j := fun j hj => (had81 j (by omega)).trans (hac73 j hj)
  refine pt_X11_text X iwX11 (Nat.le_of_ble_eq_true rfl) (Nul.k hz82 rfl rfl) (List.mem_cons_of_mem _ bw_2_11) 17 (Nat.le_of_ble_eq_true rfl) dX11_init_71 ?_
  have hz84 := hz82.umR 0 8 (some 17) rfl
  refine v_aload_n X 0 dX11_init_74 rfl rfl ?_
  refine v_new X (ci := 10) (n := 8) tyX10 iwX10 tyX10_ok rfl (by decide) (by intro k hk; rcases (show k = 0 ∨ k = 1 ∨ k = 2 ∨ k = 3 ∨ k = 4 ∨ k = 5 ∨ k = 6 ∨ k = 7 by omega) with h | h | h | h | h | h | h | h <;> subst h <;> rfl) hRm (List.mem_cons_of_mem _ bw_2_8) (List.mem_cons_of_mem _ bw_2_9) (List.mem_cons_of_mem _ bw_2_10) ⟨Nat.le_of_ble_eq_true rfl, Nat.le_of_ble_eq_true rfl⟩ dX11_init_75 ?_
  intro ad85 had86
  rw [← had86 0 (Nat.le_of_ble_eq_true rfl)]
  have hac87 : ∀ j : Nat, j < 1 → ad85 j = ad j := fun j hj => (had86 j (by omega)).trans (hac83 j hj)
  refine v_cl hz84 (Nul.at hz84 rfl rfl) (N1 := 25) rfl ?_
  have hz88 := hz84.up 25 rfl
  refine v_dup X dX11_init_78 rfl ?_
  refine v_callI X [] hRm (c_X10_init_24 _ _ _ rfl hz88) (gCode bw_5_17) rfl (List.mem_cons_of_mem _ bw_2_10) (List.mem_cons_of_mem _ bw_5_15) (List.mem_cons_of_mem _ bw_5_16) rfl ddX10_init.2 (by decide) (Nat.le_of_ble_eq_true rfl) dX11_init_79 ?_
  rintro _ Nx89 shx90 adx91 Mx92 Lx93 Rx94 ⟨rfl, rfl, rfl, had95, rfl, rfl, rfl, hz96⟩
  rw [← had95 0 (Nat.le_of_ble_eq_true rfl)]
  rw [← had95 24 (Nat.le_of_ble_eq_true rfl)]
  have hac97 : ∀ j : Nat, j < 1 → adx91 j = ad j := fun j hj => (had95 j (by omega)).trans (hac87 j hj)
  refine pt_X11_draft X iwX11 (Nat.le_of_ble_eq_true rfl) (Nul.k hz96 rfl rfl) (List.mem_cons_of_mem _ bw_2_12) 24 (Nat.le_of_ble_eq_true rfl) dX11_init_82 ?_
  have hz98 := hz96.umR 0 9 (some 24) rfl
  refine v_aload_n X 0 dX11_init_85 rfl rfl ?_
  refine v_new X (ci := 4) (n := 8) tyX4 iwX4 tyX4_ok rfl (by decide) (by intro k hk; rcases (show k = 0 ∨ k = 1 ∨ k = 2 ∨ k = 3 ∨ k = 4 ∨ k = 5 ∨ k = 6 ∨ k = 7 by omega) with h | h | h | h | h | h | h | h <;> subst h <;> rfl) hRm (List.mem_cons_of_mem _ bw_2_13) (List.mem_cons_of_mem _ bw_2_14) (List.mem_cons_of_mem _ bw_2_15) ⟨Nat.le_of_ble_eq_true rfl, Nat.le_of_ble_eq_true rfl⟩ dX11_init_86 ?_
  intro ad99 had100
  rw [← had100 0 (Nat.le_of_ble_eq_true rfl)]
  have hac101 : ∀ j : Nat, j < 1 → ad99 j = ad j := fun j hj => (had100 j (by omega)).trans (hac97 j hj)
  refine v_cl hz98 (Nul.at hz98 rfl rfl) (N1 := 32) rfl ?_
  have hz102 := hz98.up 32 rfl
  refine v_dup X dX11_init_89 rfl ?_
  refine v_aload_n X 0 dX11_init_90 rfl rfl ?_
  refine gt_X11_show X iwX11 (Nat.le_of_ble_eq_true rfl) (Nul.k hz102 rfl rfl) (List.mem_cons_of_mem _ bw_1_23) dX11_init_91 6 rfl ?_
  refine v_aload_n X 0 dX11_init_94 rfl rfl ?_
  refine gt_X11_sky X iwX11 (Nat.le_of_ble_eq_true rfl) (Nul.k hz102 rfl rfl) (List.mem_cons_of_mem _ bw_2_7) dX11_init_95 13 rfl ?_
  refine v_aload_n X 0 dX11_init_98 rfl rfl ?_
  refine gt_X11_text X iwX11 (Nat.le_of_ble_eq_true rfl) (Nul.k hz102 rfl rfl) (List.mem_cons_of_mem _ bw_2_11) dX11_init_99 17 rfl ?_
  refine v_callI X [.ref (ad99 6), .ref (ad99 13), .ref (ad99 17)] hRm (c_X4_init _ _ _ rfl hz102) (gCode bw_6_5) rfl (List.mem_cons_of_mem _ bw_2_15) (List.mem_cons_of_mem _ bw_6_3) (List.mem_cons_of_mem _ bw_6_4) rfl ddX4_init.2 (by decide) (Nat.le_of_ble_eq_true rfl) dX11_init_102 ?_
  rintro _ Nx103 shx104 adx105 Mx106 Lx107 Rx108 ⟨rfl, rfl, rfl, had109, rfl, rfl, rfl, hz110⟩
  rw [← had109 0 (Nat.le_of_ble_eq_true rfl)]
  rw [← had109 31 (Nat.le_of_ble_eq_true rfl)]
  have hac111 : ∀ j : Nat, j < 1 → adx105 j = ad j := fun j hj => (had109 j (by omega)).trans (hac101 j hj)
  refine pt_X11_planner X iwX11 (Nat.le_of_ble_eq_true rfl) (Nul.k hz110 rfl rfl) (List.mem_cons_of_mem _ bw_2_16) hnm rfl 31 (Nat.le_of_ble_eq_true rfl) dX11_init_105 ?_
  have hz112 := hz110.umR 0 5 (some 31) rfl
  refine v_aload_n X 0 dX11_init_108 rfl rfl ?_
  refine v_new X (ci := 3) (n := 7) tyX3 iwX3 tyX3_ok rfl (by decide) (by intro k hk; rcases (show k = 0 ∨ k = 1 ∨ k = 2 ∨ k = 3 ∨ k = 4 ∨ k = 5 ∨ k = 6 by omega) with h | h | h | h | h | h | h <;> subst h <;> rfl) hRm (List.mem_cons_of_mem _ bw_2_17) (List.mem_cons_of_mem _ bw_2_18) (List.mem_cons_of_mem _ bw_2_19) ⟨Nat.le_of_ble_eq_true rfl, Nat.le_of_ble_eq_true rfl⟩ dX11_init_109 ?_
  intro ad113 had114
  rw [← had114 0 (Nat.le_of_ble_eq_true rfl)]
  have hac115 : ∀ j : Nat, j < 1 → ad113 j = ad j := fun j hj => (had114 j (by omega)).trans (hac111 j hj)
  refine v_cl hz112 (Nul.at hz112 rfl rfl) (N1 := 48) rfl ?_
  have hz116 := hz112.up 48 rfl
  refine v_dup X dX11_init_112 rfl ?_
  refine v_callI X [] hRm (c_X3_init_47 _ _ _ rfl hz116) (gCode bw_6_19) rfl (List.mem_cons_of_mem _ bw_2_19) (List.mem_cons_of_mem _ bw_7_9) (List.mem_cons_of_mem _ bw_6_18) rfl ddX3_init.2 (by decide) (Nat.le_of_ble_eq_true rfl) dX11_init_113 ?_
  rintro _ Nx117 shx118 adx119 Mx120 Lx121 Rx122 ⟨rfl, rfl, rfl, had123, rfl, rfl, rfl, hz124⟩
  rw [← had123 0 (Nat.le_of_ble_eq_true rfl)]
  rw [← had123 47 (Nat.le_of_ble_eq_true rfl)]
  have hac125 : ∀ j : Nat, j < 1 → adx119 j = ad j := fun j hj => (had123 j (by omega)).trans (hac115 j hj)
  refine pt_X11_planned X iwX11 (Nat.le_of_ble_eq_true rfl) (Nul.k hz124 rfl rfl) (List.mem_cons_of_mem _ bw_2_20) hnm rfl 47 (Nat.le_of_ble_eq_true rfl) dX11_init_116 ?_
  have hz126 := hz124.umR 0 6 (some 47) rfl
  refine v_aload_n X 0 dX11_init_119 rfl rfl ?_
  refine v_iconst X dX11_init_120 ?_
  refine pt_X11_isPlanned X iwX11 (Nat.le_of_ble_eq_true rfl) (Nul.k hz126 rfl rfl) (List.mem_cons_of_mem _ bw_2_21) ⟨by decide, by decide⟩ dX11_init_121 ?_
  have hz127 := hz126.um 0 7 0 rfl
  refine v_aload_n X 0 dX11_init_124 rfl rfl ?_
  refine v_iconst X dX11_init_125 ?_
  refine pt_X11_faultPlace X iwX11 (Nat.le_of_ble_eq_true rfl) (Nul.k hz127 rfl rfl) (List.mem_cons_of_mem _ bw_2_22) ⟨by decide, by decide⟩ dX11_init_126 ?_
  have hz128 := hz127.um 0 10 (-1) rfl
  refine hret _ _ _ _ _ _ _ _ _ _ _ none dX11_init_129 ⟨rfl, rfl⟩ (by decide) (by decide) (fun hmok => ?_)
  exact ⟨rfl, rfl, rfl, hac125, rfl, rfl, rfl, hz128⟩

def mr7 (a c : Int) : Int := if c = 0 then a else 27 * a + (c - 96)
def wd7 (a b c d e f g : Int) : Int := mr7 (mr7 (mr7 (mr7 (mr7 (mr7 (mr7 0 a) b) c) d) e) f) g
-- word
set_option maxHeartbeats 4000000 in
set_option maxRecDepth 100000 in
theorem c_X12_word (l : Launch) (D : va_G) (cy : Nat → ClassId) {N : Nat} {sh : MS} {ad : Nat → Nat} {M L : MI} {R : MR} (a : Int) (ha : 0 ≤ a ∧ a ≤ 1000) (b : Int) (hb : 0 ≤ b ∧ b ≤ 1000) (c : Int) (hc : 0 ≤ c ∧ c ≤ 1000) (d : Int) (hd : 0 ≤ d ∧ d ≤ 1000) (e : Int) (he : 0 ≤ e ∧ e ≤ 1000) (f : Int) (hf : 0 ≤ f ∧ f ≤ 1000) (g : Int) (hg : 0 ≤ g ∧ g ≤ 1000) : Ctr l D cy yX12_word wsX12_word ({ frames := 1, cells := 0, slots := 0, locals := 22 } : Room) N sh ad M L R [.int (iz a), .int (iz b), .int (iz c), .int (iz d), .int (iz e), .int (iz f), .int (iz g)] (pL N sh ad M L R (fun r => r = wd7 a b c d e f g)) := by
  refine Ctr.ofL (by decide) rfl (Nat.le_of_ble_eq_true rfl) ?_
  intro K hKl hKd hRm hnm X hret
  have X : VX K cX12_word 7 wsX12_word RX12 := X
  show V K 7 0 0 N sh ad M L R [(0, .int (iz a)), (1, .int (iz b)), (2, .int (iz c)), (3, .int (iz d)), (4, .int (iz e)), (5, .int (iz f)), (6, .int (iz g))] [] 0
  refine v_lconst X dX12_word_0 (by decide) ?_
  refine v_iload_n X 0 dX12_word_1 rfl rfl ?_
  refine v_callS X [.long (lz 0), .int (iz a)] hRm (c_X12_more _ _ _ 0 a ⟨by omega, by omega⟩) (gS bw_10_7 bw_10_8 bw_1_5 bw_10_9) rfl ddX12_more (by decide) (Nat.le_of_ble_eq_true rfl) dX12_word_2 (k_pL (fun r1 e2 => ?_))
  refine v_iload_n X 1 dX12_word_5 rfl rfl ?_
  refine v_callS X [.long (lz r1), .int (iz b)] hRm (c_X12_more _ _ _ r1 b ⟨by omega, by omega⟩) (gS bw_10_7 bw_10_8 bw_1_5 bw_10_9) rfl ddX12_more (by decide) (Nat.le_of_ble_eq_true rfl) dX12_word_6 (k_pL (fun r3 e4 => ?_))
  refine v_iload_n X 2 dX12_word_9 rfl rfl ?_
  refine v_callS X [.long (lz r3), .int (iz c)] hRm (c_X12_more _ _ _ r3 c ⟨by omega, by omega⟩) (gS bw_10_7 bw_10_8 bw_1_5 bw_10_9) rfl ddX12_more (by decide) (Nat.le_of_ble_eq_true rfl) dX12_word_10 (k_pL (fun r5 e6 => ?_))
  refine v_iload_n X 3 dX12_word_13 rfl rfl ?_
  refine v_callS X [.long (lz r5), .int (iz d)] hRm (c_X12_more _ _ _ r5 d ⟨by omega, by omega⟩) (gS bw_10_7 bw_10_8 bw_1_5 bw_10_9) rfl ddX12_more (by decide) (Nat.le_of_ble_eq_true rfl) dX12_word_14 (k_pL (fun r7 e8 => ?_))
  refine v_iload X 4 dX12_word_17 rfl ?_
  refine v_callS X [.long (lz r7), .int (iz e)] hRm (c_X12_more _ _ _ r7 e ⟨by omega, by omega⟩) (gS bw_10_7 bw_10_8 bw_1_5 bw_10_9) rfl ddX12_more (by decide) (Nat.le_of_ble_eq_true rfl) dX12_word_19 (k_pL (fun r9 e10 => ?_))
  refine v_iload X 5 dX12_word_22 rfl ?_
  refine v_callS X [.long (lz r9), .int (iz f)] hRm (c_X12_more _ _ _ r9 f ⟨by omega, by omega⟩) (gS bw_10_7 bw_10_8 bw_1_5 bw_10_9) rfl ddX12_more (by decide) (Nat.le_of_ble_eq_true rfl) dX12_word_24 (k_pL (fun r11 e12 => ?_))
  refine v_iload X 6 dX12_word_27 rfl ?_
  refine v_callS X [.long (lz r11), .int (iz g)] hRm (c_X12_more _ _ _ r11 g ⟨by omega, by omega⟩) (gS bw_10_7 bw_10_8 bw_1_5 bw_10_9) rfl ddX12_more (by decide) (Nat.le_of_ble_eq_true rfl) dX12_word_29 (k_pL (fun r13 e14 => ?_))
  refine hret _ _ _ _ _ _ _ _ _ _ _ (some (.long (lz r13))) dX12_word_32 ⟨rfl, _, rfl⟩ (by decide) (by decide) (fun hmok => ?_)
  refine ⟨rfl, rfl, rfl, rfl, rfl, rfl, r13, rfl, ?_⟩
  try dsimp only
  unfold wd7 mr7
  rw [← e2]
  rw [← e4]
  rw [← e6]
  rw [← e8]
  rw [← e10]
  rw [← e12]
  rw [← e14]

def iM_X12 (M : MI) : MI := (mu (mu (mu M 53 17 (-1)) 53 52 100) 53 49 (-1))
def iR_X12 (R : MR) : MR := (mu (mu (mu (mu (mu (mu (mu (mu (mu (mu (mu (mu (mu (mu (mu (mu (mu (mu (mu (mu (mu (mu (mu (mu (mu (mu (mu (mu (mu (mu (mu (mu (mu (mu (mu (mu (mu (mu (mu (mu (mu (mu (mu (mu (mu (mu (mu (mu (mu (mu (mu (mu (mu (mu (mu (mu (mu (mu R 53 1 (some 54)) 53 3 (some 55)) 53 5 (some 56)) 53 6 (some 57)) 53 7 (some 58)) 53 8 (some 59)) 53 9 (some 60)) 53 20 (some 61)) 53 21 (some 62)) 53 22 (some 63)) 53 23 (some 64)) 53 24 (some 65)) 53 25 (some 66)) 53 26 (some 67)) 53 27 (some 68)) 53 28 (some 69)) 53 29 (some 70)) 53 30 (some 71)) 53 31 (some 72)) 53 33 (some 73)) 53 34 (some 74)) 53 35 (some 75)) 53 38 (some 76)) 53 39 (some 77)) 53 40 (some 78)) 53 41 (some 79)) 53 42 (some 80)) 53 43 (some 81)) 53 44 (some 82)) 53 45 (some 83)) 53 46 (some 84)) 53 47 (some 85)) 53 48 (some 86)) 53 50 (some 87)) 53 54 (some 88)) 53 55 (some 89)) 53 56 (some 90)) 53 57 (some 91)) 53 58 (some 92)) 53 59 (some 93)) 53 60 (some 94)) 53 61 (some 95)) 53 63 (some 96)) 53 64 (some 97)) 53 65 (some 98)) 53 66 (some 99)) 53 67 (some 100)) 53 70 (some 101)) 53 71 (some 102)) 53 72 (some 103)) 53 73 (some 104)) 53 74 (some 105)) 53 79 (some 106)) 53 80 (some 107)) 53 81 (some 108)) 53 82 (some 109)) 53 83 (some 110)) 53 84 (some 111))
def iL_X12 (L : MI) : MI := (mu (mu (mu (mu (mu (mu (mu (mu (mu (mu (mu (mu (mu (mu (mu L 60 0 (wd7 111 117 116 0 0 0 0)) 60 1 (wd7 105 102 0 0 0 0 0)) 60 2 (wd7 103 97 112 0 0 0 0)) 60 3 (wd7 115 112 97 114 101 0 0)) 60 4 (wd7 111 114 0 0 0 0 0)) 60 5 (wd7 97 110 100 0 0 0 0)) 60 6 (wd7 97 99 116 0 0 0 0)) 60 7 (wd7 107 105 110 100 0 0 0)) 60 8 (wd7 97 104 101 97 100 0 0)) 60 9 (wd7 115 97 109 101 0 0 0)) 60 10 (wd7 98 97 115 101 0 0 0)) 60 11 (wd7 109 105 110 117 116 101 0)) 60 12 (wd7 119 105 110 100 0 0 0)) 60 13 (wd7 108 101 110 103 116 104 0)) 60 14 (wd7 119 111 114 116 104 0 0))

-- SkyBoxModel.<init>
set_option maxHeartbeats 4000000 in
set_option maxRecDepth 100000 in
theorem c_X12_init (l : Launch) (D : va_G) (cy : Nat → ClassId) {N : Nat} {sh : MS} {ad : Nat → Nat} {M L : MI} {R : MR} (hN : N = 54) (hz : Nul N sh M L R) : Ctr l D cy yX12_init wsX12_init ({ frames := 2, cells := 58, slots := 11427, locals := 48 } : Room) N sh ad M L R [.ref (ad 53)] (fun rv N' sh' ad' M' L' R' => rv = none ∧ N' = 112 ∧ sh' = sh ∧ (∀ j : Nat, j < 54 → ad' j = ad j) ∧ M' = iM_X12 M ∧ L' = iL_X12 L ∧ R' = iR_X12 R ∧ Nul N' sh' M' L' R') := by
  refine Ctr.ofV (by decide) rfl (Nat.le_of_ble_eq_true rfl) ?_
  intro K hKl hKd hRm hnm X hret
  have X : VX K cX12_init 1 wsX12_init RX12 := X
  show V K 1 0 0 N sh ad M L R [(0, .ref (ad 53))] [] 0
  subst hN
  have hac0 : ∀ j : Nat, j < 54 → ad j = ad j := fun _ _ => rfl
  refine v_aload_n X 0 dX12_init_0 rfl rfl ?_
  refine v_objInit X hRm (List.mem_cons_of_mem _ bw_7_13) (List.mem_cons_of_mem _ bw_1_10) (List.mem_cons_of_mem _ bw_1_11) ⟨Nat.le_of_ble_eq_true rfl, Nat.le_of_ble_eq_true rfl⟩ dX12_init_1 ?_
  refine v_aload_n X 0 dX12_init_4 rfl rfl ?_
  refine v_sipush X dX12_init_5 (by decide) ?_
  refine v_newaB X (n := 2000) hRm (List.mem_cons_of_mem _ bw_3_3) (by decide) ⟨Nat.le_of_ble_eq_true rfl, Nat.le_of_ble_eq_true rfl⟩ dX12_init_8 ?_
  intro ad1 had2
  rw [← had2 53 (Nat.le_of_ble_eq_true rfl)]
  have hac3 : ∀ j : Nat, j < 54 → ad1 j = ad j := fun j hj => (had2 j (by omega)).trans (hac0 j hj)
  refine v_cl hz (Nul.at hz rfl rfl) (N1 := 55) rfl ?_
  have hz4 := hz.up 55 rfl
  refine pt_X12_tape X iwX12 (Nat.le_of_ble_eq_true rfl) (Nul.k hz4 rfl rfl) (List.mem_cons_of_mem _ bw_7_14) hnm rfl 54 (Nat.le_of_ble_eq_true rfl) dX12_init_10 ?_
  have hz5 := hz4.umR 53 1 (some 54) rfl
  refine v_aload_n X 0 dX12_init_13 rfl rfl ?_
  refine v_sipush X dX12_init_14 (by decide) ?_
  refine v_newaB X (n := 2000) hRm (List.mem_cons_of_mem _ bw_3_3) (by decide) ⟨Nat.le_of_ble_eq_true rfl, Nat.le_of_ble_eq_true rfl⟩ dX12_init_17 ?_
  intro ad6 had7
  rw [← had7 53 (Nat.le_of_ble_eq_true rfl)]
  have hac8 : ∀ j : Nat, j < 54 → ad6 j = ad j := fun j hj => (had7 j (by omega)).trans (hac3 j hj)
  refine v_cl hz5 (Nul.at hz5 rfl rfl) (N1 := 56) rfl ?_
  have hz9 := hz5.up 56 rfl
  refine pt_X12_text X iwX12 (Nat.le_of_ble_eq_true rfl) (Nul.k hz9 rfl rfl) (List.mem_cons_of_mem _ bw_7_15) hnm rfl 55 (Nat.le_of_ble_eq_true rfl) dX12_init_19 ?_
  have hz10 := hz9.umR 53 3 (some 55) rfl
  refine v_aload_n X 0 dX12_init_22 rfl rfl ?_
  refine v_sipush X dX12_init_23 (by decide) ?_
  refine v_newaI X (n := 403) hRm (List.mem_cons_of_mem _ bw_3_10) (by decide) ⟨Nat.le_of_ble_eq_true rfl, Nat.le_of_ble_eq_true rfl⟩ dX12_init_26 ?_
  intro ad11 had12
  rw [← had12 53 (Nat.le_of_ble_eq_true rfl)]
  have hac13 : ∀ j : Nat, j < 54 → ad11 j = ad j := fun j hj => (had12 j (by omega)).trans (hac8 j hj)
  refine v_cl hz10 (Nul.at hz10 rfl rfl) (N1 := 57) rfl ?_
  have hz14 := hz10.up 57 rfl
  refine pt_X12_tKind X iwX12 (Nat.le_of_ble_eq_true rfl) (Nul.k hz14 rfl rfl) (List.mem_cons_of_mem _ bw_7_16) hnm rfl 56 (Nat.le_of_ble_eq_true rfl) dX12_init_28 ?_
  have hz15 := hz14.umR 53 5 (some 56) rfl
  refine v_aload_n X 0 dX12_init_31 rfl rfl ?_
  refine v_sipush X dX12_init_32 (by decide) ?_
  refine v_newaI X (n := 403) hRm (List.mem_cons_of_mem _ bw_3_10) (by decide) ⟨Nat.le_of_ble_eq_true rfl, Nat.le_of_ble_eq_true rfl⟩ dX12_init_35 ?_
  intro ad16 had17
  rw [← had17 53 (Nat.le_of_ble_eq_true rfl)]
  have hac18 : ∀ j : Nat, j < 54 → ad16 j = ad j := fun j hj => (had17 j (by omega)).trans (hac13 j hj)
  refine v_cl hz15 (Nul.at hz15 rfl rfl) (N1 := 58) rfl ?_
  have hz19 := hz15.up 58 rfl
  refine pt_X12_tPlace X iwX12 (Nat.le_of_ble_eq_true rfl) (Nul.k hz19 rfl rfl) (List.mem_cons_of_mem _ bw_7_17) hnm rfl 57 (Nat.le_of_ble_eq_true rfl) dX12_init_37 ?_
  have hz20 := hz19.umR 53 6 (some 57) rfl
  refine v_aload_n X 0 dX12_init_40 rfl rfl ?_
  refine v_sipush X dX12_init_41 (by decide) ?_
  refine v_newaI X (n := 403) hRm (List.mem_cons_of_mem _ bw_3_10) (by decide) ⟨Nat.le_of_ble_eq_true rfl, Nat.le_of_ble_eq_true rfl⟩ dX12_init_44 ?_
  intro ad21 had22
  rw [← had22 53 (Nat.le_of_ble_eq_true rfl)]
  have hac23 : ∀ j : Nat, j < 54 → ad21 j = ad j := fun j hj => (had22 j (by omega)).trans (hac18 j hj)
  refine v_cl hz20 (Nul.at hz20 rfl rfl) (N1 := 59) rfl ?_
  have hz24 := hz20.up 59 rfl
  refine pt_X12_tValue X iwX12 (Nat.le_of_ble_eq_true rfl) (Nul.k hz24 rfl rfl) (List.mem_cons_of_mem _ bw_7_18) hnm rfl 58 (Nat.le_of_ble_eq_true rfl) dX12_init_46 ?_
  have hz25 := hz24.umR 53 7 (some 58) rfl
  refine v_aload_n X 0 dX12_init_49 rfl rfl ?_
  refine v_sipush X dX12_init_50 (by decide) ?_
  refine v_newaJ X (n := 403) hRm (List.mem_cons_of_mem _ bw_7_19) (by decide) ⟨Nat.le_of_ble_eq_true rfl, Nat.le_of_ble_eq_true rfl⟩ dX12_init_53 ?_
  intro ad26 had27
  rw [← had27 53 (Nat.le_of_ble_eq_true rfl)]
  have hac28 : ∀ j : Nat, j < 54 → ad26 j = ad j := fun j hj => (had27 j (by omega)).trans (hac23 j hj)
  refine v_cl hz25 (Nul.at hz25 rfl rfl) (N1 := 60) rfl ?_
  have hz29 := hz25.up 60 rfl
  refine pt_X12_tName X iwX12 (Nat.le_of_ble_eq_true rfl) (Nul.k hz29 rfl rfl) (List.mem_cons_of_mem _ bw_7_20) hnm rfl 59 (Nat.le_of_ble_eq_true rfl) dX12_init_55 ?_
  have hz30 := hz29.umR 53 8 (some 59) rfl
  refine v_aload_n X 0 dX12_init_58 rfl rfl ?_
  refine v_bipush X dX12_init_59 (by decide) ?_
  refine v_newaJ X (n := 15) hRm (List.mem_cons_of_mem _ bw_7_19) (by decide) ⟨Nat.le_of_ble_eq_true rfl, Nat.le_of_ble_eq_true rfl⟩ dX12_init_61 ?_
  intro ad31 had32
  rw [← had32 53 (Nat.le_of_ble_eq_true rfl)]
  have hac33 : ∀ j : Nat, j < 54 → ad31 j = ad j := fun j hj => (had32 j (by omega)).trans (hac28 j hj)
  refine v_cl hz30 (Nul.at hz30 rfl rfl) (N1 := 61) rfl ?_
  have hz34 := hz30.up 61 rfl
  refine pt_X12_keys X iwX12 (Nat.le_of_ble_eq_true rfl) (Nul.k hz34 rfl rfl) (List.mem_cons_of_mem _ bw_7_21) hnm rfl 60 (Nat.le_of_ble_eq_true rfl) dX12_init_63 ?_
  have hz35 := hz34.umR 53 9 (some 60) rfl
  refine v_aload_n X 0 dX12_init_66 rfl rfl ?_
  refine v_iconst X dX12_init_67 ?_
  refine pt_X12_place X iwX12 (Nat.le_of_ble_eq_true rfl) (Nul.k hz35 rfl rfl) (List.mem_cons_of_mem _ bw_7_22) ⟨by decide, by decide⟩ dX12_init_68 ?_
  have hz36 := hz35.um 53 17 (-1) rfl
  refine v_aload_n X 0 dX12_init_71 rfl rfl ?_
  refine v_iconst X dX12_init_72 ?_
  refine v_newaI X (n := 2) hRm (List.mem_cons_of_mem _ bw_3_10) (by decide) ⟨Nat.le_of_ble_eq_true rfl, Nat.le_of_ble_eq_true rfl⟩ dX12_init_73 ?_
  intro ad37 had38
  rw [← had38 53 (Nat.le_of_ble_eq_true rfl)]
  have hac39 : ∀ j : Nat, j < 54 → ad37 j = ad j := fun j hj => (had38 j (by omega)).trans (hac33 j hj)
  refine v_cl hz36 (Nul.at hz36 rfl rfl) (N1 := 62) rfl ?_
  have hz40 := hz36.up 62 rfl
  refine pt_X12_rules X iwX12 (Nat.le_of_ble_eq_true rfl) (Nul.k hz40 rfl rfl) (List.mem_cons_of_mem _ bw_7_23) hnm rfl 61 (Nat.le_of_ble_eq_true rfl) dX12_init_75 ?_
  have hz41 := hz40.umR 53 20 (some 61) rfl
  refine v_aload_n X 0 dX12_init_78 rfl rfl ?_
  refine v_bipush X dX12_init_79 (by decide) ?_
  refine v_newaI X (n := 32) hRm (List.mem_cons_of_mem _ bw_3_10) (by decide) ⟨Nat.le_of_ble_eq_true rfl, Nat.le_of_ble_eq_true rfl⟩ dX12_init_81 ?_
  intro ad42 had43
  rw [← had43 53 (Nat.le_of_ble_eq_true rfl)]
  have hac44 : ∀ j : Nat, j < 54 → ad42 j = ad j := fun j hj => (had43 j (by omega)).trans (hac39 j hj)
  refine v_cl hz41 (Nul.at hz41 rfl rfl) (N1 := 63) rfl ?_
  have hz45 := hz41.up 63 rfl
  refine pt_X12_ruleSort X iwX12 (Nat.le_of_ble_eq_true rfl) (Nul.k hz45 rfl rfl) (List.mem_cons_of_mem _ bw_8_0) hnm rfl 62 (Nat.le_of_ble_eq_true rfl) dX12_init_83 ?_
  have hz46 := hz45.umR 53 21 (some 62) rfl
  refine v_aload_n X 0 dX12_init_86 rfl rfl ?_
  refine v_bipush X dX12_init_87 (by decide) ?_
  refine v_newaI X (n := 32) hRm (List.mem_cons_of_mem _ bw_3_10) (by decide) ⟨Nat.le_of_ble_eq_true rfl, Nat.le_of_ble_eq_true rfl⟩ dX12_init_89 ?_
  intro ad47 had48
  rw [← had48 53 (Nat.le_of_ble_eq_true rfl)]
  have hac49 : ∀ j : Nat, j < 54 → ad47 j = ad j := fun j hj => (had48 j (by omega)).trans (hac44 j hj)
  refine v_cl hz46 (Nul.at hz46 rfl rfl) (N1 := 64) rfl ?_
  have hz50 := hz46.up 64 rfl
  refine pt_X12_ruleFrom X iwX12 (Nat.le_of_ble_eq_true rfl) (Nul.k hz50 rfl rfl) (List.mem_cons_of_mem _ bw_8_1) hnm rfl 63 (Nat.le_of_ble_eq_true rfl) dX12_init_91 ?_
  have hz51 := hz50.umR 53 22 (some 63) rfl
  refine v_aload_n X 0 dX12_init_94 rfl rfl ?_
  refine v_bipush X dX12_init_95 (by decide) ?_
  refine v_newaI X (n := 32) hRm (List.mem_cons_of_mem _ bw_3_10) (by decide) ⟨Nat.le_of_ble_eq_true rfl, Nat.le_of_ble_eq_true rfl⟩ dX12_init_97 ?_
  intro ad52 had53
  rw [← had53 53 (Nat.le_of_ble_eq_true rfl)]
  have hac54 : ∀ j : Nat, j < 54 → ad52 j = ad j := fun j hj => (had53 j (by omega)).trans (hac49 j hj)
  refine v_cl hz51 (Nul.at hz51 rfl rfl) (N1 := 65) rfl ?_
  have hz55 := hz51.up 65 rfl
  refine pt_X12_ruleTo X iwX12 (Nat.le_of_ble_eq_true rfl) (Nul.k hz55 rfl rfl) (List.mem_cons_of_mem _ bw_8_2) hnm rfl 64 (Nat.le_of_ble_eq_true rfl) dX12_init_99 ?_
  have hz56 := hz55.umR 53 23 (some 64) rfl
  refine v_aload_n X 0 dX12_init_102 rfl rfl ?_
  refine v_bipush X dX12_init_103 (by decide) ?_
  refine v_newaI X (n := 32) hRm (List.mem_cons_of_mem _ bw_3_10) (by decide) ⟨Nat.le_of_ble_eq_true rfl, Nat.le_of_ble_eq_true rfl⟩ dX12_init_105 ?_
  intro ad57 had58
  rw [← had58 53 (Nat.le_of_ble_eq_true rfl)]
  have hac59 : ∀ j : Nat, j < 54 → ad57 j = ad j := fun j hj => (had58 j (by omega)).trans (hac54 j hj)
  refine v_cl hz56 (Nul.at hz56 rfl rfl) (N1 := 66) rfl ?_
  have hz60 := hz56.up 66 rfl
  refine pt_X12_relFirst X iwX12 (Nat.le_of_ble_eq_true rfl) (Nul.k hz60 rfl rfl) (List.mem_cons_of_mem _ bw_8_3) hnm rfl 65 (Nat.le_of_ble_eq_true rfl) dX12_init_107 ?_
  have hz61 := hz60.umR 53 24 (some 65) rfl
  refine v_aload_n X 0 dX12_init_110 rfl rfl ?_
  refine v_bipush X dX12_init_111 (by decide) ?_
  refine v_newaI X (n := 32) hRm (List.mem_cons_of_mem _ bw_3_10) (by decide) ⟨Nat.le_of_ble_eq_true rfl, Nat.le_of_ble_eq_true rfl⟩ dX12_init_113 ?_
  intro ad62 had63
  rw [← had63 53 (Nat.le_of_ble_eq_true rfl)]
  have hac64 : ∀ j : Nat, j < 54 → ad62 j = ad j := fun j hj => (had63 j (by omega)).trans (hac59 j hj)
  refine v_cl hz61 (Nul.at hz61 rfl rfl) (N1 := 67) rfl ?_
  have hz65 := hz61.up 67 rfl
  refine pt_X12_relLast X iwX12 (Nat.le_of_ble_eq_true rfl) (Nul.k hz65 rfl rfl) (List.mem_cons_of_mem _ bw_8_4) hnm rfl 66 (Nat.le_of_ble_eq_true rfl) dX12_init_115 ?_
  have hz66 := hz65.umR 53 25 (some 66) rfl
  refine v_aload_n X 0 dX12_init_118 rfl rfl ?_
  refine v_iconst X dX12_init_119 ?_
  refine v_newaI X (n := 2) hRm (List.mem_cons_of_mem _ bw_3_10) (by decide) ⟨Nat.le_of_ble_eq_true rfl, Nat.le_of_ble_eq_true rfl⟩ dX12_init_120 ?_
  intro ad67 had68
  rw [← had68 53 (Nat.le_of_ble_eq_true rfl)]
  have hac69 : ∀ j : Nat, j < 54 → ad67 j = ad j := fun j hj => (had68 j (by omega)).trans (hac64 j hj)
  refine v_cl hz66 (Nul.at hz66 rfl rfl) (N1 := 68) rfl ?_
  have hz70 := hz66.up 68 rfl
  refine pt_X12_relations X iwX12 (Nat.le_of_ble_eq_true rfl) (Nul.k hz70 rfl rfl) (List.mem_cons_of_mem _ bw_8_5) hnm rfl 67 (Nat.le_of_ble_eq_true rfl) dX12_init_122 ?_
  have hz71 := hz70.umR 53 26 (some 67) rfl
  refine v_aload_n X 0 dX12_init_125 rfl rfl ?_
  refine v_sipush X dX12_init_126 (by decide) ?_
  refine v_newaI X (n := 400) hRm (List.mem_cons_of_mem _ bw_3_10) (by decide) ⟨Nat.le_of_ble_eq_true rfl, Nat.le_of_ble_eq_true rfl⟩ dX12_init_129 ?_
  intro ad72 had73
  rw [← had73 53 (Nat.le_of_ble_eq_true rfl)]
  have hac74 : ∀ j : Nat, j < 54 → ad72 j = ad j := fun j hj => (had73 j (by omega)).trans (hac69 j hj)
  refine v_cl hz71 (Nul.at hz71 rfl rfl) (N1 := 69) rfl ?_
  have hz75 := hz71.up 69 rfl
  refine pt_X12_relSort X iwX12 (Nat.le_of_ble_eq_true rfl) (Nul.k hz75 rfl rfl) (List.mem_cons_of_mem _ bw_8_6) hnm rfl 68 (Nat.le_of_ble_eq_true rfl) dX12_init_131 ?_
  have hz76 := hz75.umR 53 27 (some 68) rfl
  refine v_aload_n X 0 dX12_init_134 rfl rfl ?_
  refine v_sipush X dX12_init_135 (by decide) ?_
  refine v_newaI X (n := 400) hRm (List.mem_cons_of_mem _ bw_3_10) (by decide) ⟨Nat.le_of_ble_eq_true rfl, Nat.le_of_ble_eq_true rfl⟩ dX12_init_138 ?_
  intro ad77 had78
  rw [← had78 53 (Nat.le_of_ble_eq_true rfl)]
  have hac79 : ∀ j : Nat, j < 54 → ad77 j = ad j := fun j hj => (had78 j (by omega)).trans (hac74 j hj)
  refine v_cl hz76 (Nul.at hz76 rfl rfl) (N1 := 70) rfl ?_
  have hz80 := hz76.up 70 rfl
  refine pt_X12_relLeft X iwX12 (Nat.le_of_ble_eq_true rfl) (Nul.k hz80 rfl rfl) (List.mem_cons_of_mem _ bw_8_7) hnm rfl 69 (Nat.le_of_ble_eq_true rfl) dX12_init_140 ?_
  have hz81 := hz80.umR 53 28 (some 69) rfl
  refine v_aload_n X 0 dX12_init_143 rfl rfl ?_
  refine v_sipush X dX12_init_144 (by decide) ?_
  refine v_newaI X (n := 400) hRm (List.mem_cons_of_mem _ bw_3_10) (by decide) ⟨Nat.le_of_ble_eq_true rfl, Nat.le_of_ble_eq_true rfl⟩ dX12_init_147 ?_
  intro ad82 had83
  rw [← had83 53 (Nat.le_of_ble_eq_true rfl)]
  have hac84 : ∀ j : Nat, j < 54 → ad82 j = ad j := fun j hj => (had83 j (by omega)).trans (hac79 j hj)
  refine v_cl hz81 (Nul.at hz81 rfl rfl) (N1 := 71) rfl ?_
  have hz85 := hz81.up 71 rfl
  refine pt_X12_relRight X iwX12 (Nat.le_of_ble_eq_true rfl) (Nul.k hz85 rfl rfl) (List.mem_cons_of_mem _ bw_8_8) hnm rfl 70 (Nat.le_of_ble_eq_true rfl) dX12_init_149 ?_
  have hz86 := hz85.umR 53 29 (some 70) rfl
  refine v_aload_n X 0 dX12_init_152 rfl rfl ?_
  refine v_sipush X dX12_init_153 (by decide) ?_
  refine v_newaI X (n := 400) hRm (List.mem_cons_of_mem _ bw_3_10) (by decide) ⟨Nat.le_of_ble_eq_true rfl, Nat.le_of_ble_eq_true rfl⟩ dX12_init_156 ?_
  intro ad87 had88
  rw [← had88 53 (Nat.le_of_ble_eq_true rfl)]
  have hac89 : ∀ j : Nat, j < 54 → ad87 j = ad j := fun j hj => (had88 j (by omega)).trans (hac84 j hj)
  refine v_cl hz86 (Nul.at hz86 rfl rfl) (N1 := 72) rfl ?_
  have hz90 := hz86.up 72 rfl
  refine pt_X12_relEnd X iwX12 (Nat.le_of_ble_eq_true rfl) (Nul.k hz90 rfl rfl) (List.mem_cons_of_mem _ bw_8_9) hnm rfl 71 (Nat.le_of_ble_eq_true rfl) dX12_init_158 ?_
  have hz91 := hz90.umR 53 30 (some 71) rfl
  refine v_aload_n X 0 dX12_init_161 rfl rfl ?_
  refine v_sipush X dX12_init_162 (by decide) ?_
  refine v_newaZ X (n := 400) hRm (List.mem_cons_of_mem _ bw_6_9) (by decide) ⟨Nat.le_of_ble_eq_true rfl, Nat.le_of_ble_eq_true rfl⟩ dX12_init_165 ?_
  intro ad92 had93
  rw [← had93 53 (Nat.le_of_ble_eq_true rfl)]
  have hac94 : ∀ j : Nat, j < 54 → ad92 j = ad j := fun j hj => (had93 j (by omega)).trans (hac89 j hj)
  refine v_cl hz91 (Nul.at hz91 rfl rfl) (N1 := 73) rfl ?_
  have hz95 := hz91.up 73 rfl
  refine pt_X12_relOr X iwX12 (Nat.le_of_ble_eq_true rfl) (Nul.k hz95 rfl rfl) (List.mem_cons_of_mem _ bw_8_10) hnm rfl 72 (Nat.le_of_ble_eq_true rfl) dX12_init_167 ?_
  have hz96 := hz95.umR 53 31 (some 72) rfl
  refine v_aload_n X 0 dX12_init_170 rfl rfl ?_
  refine v_sipush X dX12_init_171 (by decide) ?_
  refine v_newaI X (n := 1000) hRm (List.mem_cons_of_mem _ bw_3_10) (by decide) ⟨Nat.le_of_ble_eq_true rfl, Nat.le_of_ble_eq_true rfl⟩ dX12_init_174 ?_
  intro ad97 had98
  rw [← had98 53 (Nat.le_of_ble_eq_true rfl)]
  have hac99 : ∀ j : Nat, j < 54 → ad97 j = ad j := fun j hj => (had98 j (by omega)).trans (hac94 j hj)
  refine v_cl hz96 (Nul.at hz96 rfl rfl) (N1 := 74) rfl ?_
  have hz100 := hz96.up 74 rfl
  refine pt_X12_code X iwX12 (Nat.le_of_ble_eq_true rfl) (Nul.k hz100 rfl rfl) (List.mem_cons_of_mem _ bw_8_11) hnm rfl 73 (Nat.le_of_ble_eq_true rfl) dX12_init_176 ?_
  have hz101 := hz100.umR 53 33 (some 73) rfl
  refine v_aload_n X 0 dX12_init_179 rfl rfl ?_
  refine v_sipush X dX12_init_180 (by decide) ?_
  refine v_newaI X (n := 1000) hRm (List.mem_cons_of_mem _ bw_3_10) (by decide) ⟨Nat.le_of_ble_eq_true rfl, Nat.le_of_ble_eq_true rfl⟩ dX12_init_183 ?_
  intro ad102 had103
  rw [← had103 53 (Nat.le_of_ble_eq_true rfl)]
  have hac104 : ∀ j : Nat, j < 54 → ad102 j = ad j := fun j hj => (had103 j (by omega)).trans (hac99 j hj)
  refine v_cl hz101 (Nul.at hz101 rfl rfl) (N1 := 75) rfl ?_
  have hz105 := hz101.up 75 rfl
  refine pt_X12_codeInt X iwX12 (Nat.le_of_ble_eq_true rfl) (Nul.k hz105 rfl rfl) (List.mem_cons_of_mem _ bw_8_12) hnm rfl 74 (Nat.le_of_ble_eq_true rfl) dX12_init_185 ?_
  have hz106 := hz105.umR 53 34 (some 74) rfl
  refine v_aload_n X 0 dX12_init_188 rfl rfl ?_
  refine v_bipush X dX12_init_189 (by decide) ?_
  refine v_newaI X (n := 48) hRm (List.mem_cons_of_mem _ bw_3_10) (by decide) ⟨Nat.le_of_ble_eq_true rfl, Nat.le_of_ble_eq_true rfl⟩ dX12_init_191 ?_
  intro ad107 had108
  rw [← had108 53 (Nat.le_of_ble_eq_true rfl)]
  have hac109 : ∀ j : Nat, j < 54 → ad107 j = ad j := fun j hj => (had108 j (by omega)).trans (hac104 j hj)
  refine v_cl hz106 (Nul.at hz106 rfl rfl) (N1 := 76) rfl ?_
  have hz110 := hz106.up 76 rfl
  refine pt_X12_waits X iwX12 (Nat.le_of_ble_eq_true rfl) (Nul.k hz110 rfl rfl) (List.mem_cons_of_mem _ bw_8_13) hnm rfl 75 (Nat.le_of_ble_eq_true rfl) dX12_init_193 ?_
  have hz111 := hz110.umR 53 35 (some 75) rfl
  refine v_aload_n X 0 dX12_init_196 rfl rfl ?_
  refine v_bipush X dX12_init_197 (by decide) ?_
  refine v_newaI X (n := 6) hRm (List.mem_cons_of_mem _ bw_3_10) (by decide) ⟨Nat.le_of_ble_eq_true rfl, Nat.le_of_ble_eq_true rfl⟩ dX12_init_199 ?_
  intro ad112 had113
  rw [← had113 53 (Nat.le_of_ble_eq_true rfl)]
  have hac114 : ∀ j : Nat, j < 54 → ad112 j = ad j := fun j hj => (had113 j (by omega)).trans (hac109 j hj)
  refine v_cl hz111 (Nul.at hz111 rfl rfl) (N1 := 77) rfl ?_
  have hz115 := hz111.up 77 rfl
  refine pt_X12_kind X iwX12 (Nat.le_of_ble_eq_true rfl) (Nul.k hz115 rfl rfl) (List.mem_cons_of_mem _ bw_8_14) hnm rfl 76 (Nat.le_of_ble_eq_true rfl) dX12_init_201 ?_
  have hz116 := hz115.umR 53 38 (some 76) rfl
  refine v_aload_n X 0 dX12_init_204 rfl rfl ?_
  refine v_bipush X dX12_init_205 (by decide) ?_
  refine v_newaI X (n := 6) hRm (List.mem_cons_of_mem _ bw_3_10) (by decide) ⟨Nat.le_of_ble_eq_true rfl, Nat.le_of_ble_eq_true rfl⟩ dX12_init_207 ?_
  intro ad117 had118
  rw [← had118 53 (Nat.le_of_ble_eq_true rfl)]
  have hac119 : ∀ j : Nat, j < 54 → ad117 j = ad j := fun j hj => (had118 j (by omega)).trans (hac114 j hj)
  refine v_cl hz116 (Nul.at hz116 rfl rfl) (N1 := 78) rfl ?_
  have hz120 := hz116.up 78 rfl
  refine pt_X12_pilot X iwX12 (Nat.le_of_ble_eq_true rfl) (Nul.k hz120 rfl rfl) (List.mem_cons_of_mem _ bw_8_15) hnm rfl 77 (Nat.le_of_ble_eq_true rfl) dX12_init_209 ?_
  have hz121 := hz120.umR 53 39 (some 77) rfl
  refine v_aload_n X 0 dX12_init_212 rfl rfl ?_
  refine v_bipush X dX12_init_213 (by decide) ?_
  refine v_newaI X (n := 6) hRm (List.mem_cons_of_mem _ bw_3_10) (by decide) ⟨Nat.le_of_ble_eq_true rfl, Nat.le_of_ble_eq_true rfl⟩ dX12_init_215 ?_
  intro ad122 had123
  rw [← had123 53 (Nat.le_of_ble_eq_true rfl)]
  have hac124 : ∀ j : Nat, j < 54 → ad122 j = ad j := fun j hj => (had123 j (by omega)).trans (hac119 j hj)
  refine v_cl hz121 (Nul.at hz121 rfl rfl) (N1 := 79) rfl ?_
  have hz125 := hz121.up 79 rfl
  refine pt_X12_worth X iwX12 (Nat.le_of_ble_eq_true rfl) (Nul.k hz125 rfl rfl) (List.mem_cons_of_mem _ bw_8_16) hnm rfl 78 (Nat.le_of_ble_eq_true rfl) dX12_init_217 ?_
  have hz126 := hz125.umR 53 40 (some 78) rfl
  refine v_aload_n X 0 dX12_init_220 rfl rfl ?_
  refine v_bipush X dX12_init_221 (by decide) ?_
  refine v_newaI X (n := 6) hRm (List.mem_cons_of_mem _ bw_3_10) (by decide) ⟨Nat.le_of_ble_eq_true rfl, Nat.le_of_ble_eq_true rfl⟩ dX12_init_223 ?_
  intro ad127 had128
  rw [← had128 53 (Nat.le_of_ble_eq_true rfl)]
  have hac129 : ∀ j : Nat, j < 54 → ad127 j = ad j := fun j hj => (had128 j (by omega)).trans (hac124 j hj)
  refine v_cl hz126 (Nul.at hz126 rfl rfl) (N1 := 80) rfl ?_
  have hz130 := hz126.up 80 rfl
  refine pt_X12_climb X iwX12 (Nat.le_of_ble_eq_true rfl) (Nul.k hz130 rfl rfl) (List.mem_cons_of_mem _ bw_8_17) hnm rfl 79 (Nat.le_of_ble_eq_true rfl) dX12_init_225 ?_
  have hz131 := hz130.umR 53 41 (some 79) rfl
  refine v_aload_n X 0 dX12_init_228 rfl rfl ?_
  refine v_bipush X dX12_init_229 (by decide) ?_
  refine v_newaI X (n := 6) hRm (List.mem_cons_of_mem _ bw_3_10) (by decide) ⟨Nat.le_of_ble_eq_true rfl, Nat.le_of_ble_eq_true rfl⟩ dX12_init_231 ?_
  intro ad132 had133
  rw [← had133 53 (Nat.le_of_ble_eq_true rfl)]
  have hac134 : ∀ j : Nat, j < 54 → ad132 j = ad j := fun j hj => (had133 j (by omega)).trans (hac129 j hj)
  refine v_cl hz131 (Nul.at hz131 rfl rfl) (N1 := 81) rfl ?_
  have hz135 := hz131.up 81 rfl
  refine pt_X12_home X iwX12 (Nat.le_of_ble_eq_true rfl) (Nul.k hz135 rfl rfl) (List.mem_cons_of_mem _ bw_8_18) hnm rfl 80 (Nat.le_of_ble_eq_true rfl) dX12_init_233 ?_
  have hz136 := hz135.umR 53 42 (some 80) rfl
  refine v_aload_n X 0 dX12_init_236 rfl rfl ?_
  refine v_bipush X dX12_init_237 (by decide) ?_
  refine v_newaI X (n := 6) hRm (List.mem_cons_of_mem _ bw_3_10) (by decide) ⟨Nat.le_of_ble_eq_true rfl, Nat.le_of_ble_eq_true rfl⟩ dX12_init_239 ?_
  intro ad137 had138
  rw [← had138 53 (Nat.le_of_ble_eq_true rfl)]
  have hac139 : ∀ j : Nat, j < 54 → ad137 j = ad j := fun j hj => (had138 j (by omega)).trans (hac134 j hj)
  refine v_cl hz136 (Nul.at hz136 rfl rfl) (N1 := 82) rfl ?_
  have hz140 := hz136.up 82 rfl
  refine pt_X12_fuel X iwX12 (Nat.le_of_ble_eq_true rfl) (Nul.k hz140 rfl rfl) (List.mem_cons_of_mem _ bw_8_19) hnm rfl 81 (Nat.le_of_ble_eq_true rfl) dX12_init_241 ?_
  have hz141 := hz140.umR 53 43 (some 81) rfl
  refine v_aload_n X 0 dX12_init_244 rfl rfl ?_
  refine v_bipush X dX12_init_245 (by decide) ?_
  refine v_newaI X (n := 6) hRm (List.mem_cons_of_mem _ bw_3_10) (by decide) ⟨Nat.le_of_ble_eq_true rfl, Nat.le_of_ble_eq_true rfl⟩ dX12_init_247 ?_
  intro ad142 had143
  rw [← had143 53 (Nat.le_of_ble_eq_true rfl)]
  have hac144 : ∀ j : Nat, j < 54 → ad142 j = ad j := fun j hj => (had143 j (by omega)).trans (hac139 j hj)
  refine v_cl hz141 (Nul.at hz141 rfl rfl) (N1 := 83) rfl ?_
  have hz145 := hz141.up 83 rfl
  refine pt_X12_figures X iwX12 (Nat.le_of_ble_eq_true rfl) (Nul.k hz145 rfl rfl) (List.mem_cons_of_mem _ bw_8_20) hnm rfl 82 (Nat.le_of_ble_eq_true rfl) dX12_init_249 ?_
  have hz146 := hz145.umR 53 44 (some 82) rfl
  refine v_aload_n X 0 dX12_init_252 rfl rfl ?_
  refine v_bipush X dX12_init_253 (by decide) ?_
  refine v_newaI X (n := 36) hRm (List.mem_cons_of_mem _ bw_3_10) (by decide) ⟨Nat.le_of_ble_eq_true rfl, Nat.le_of_ble_eq_true rfl⟩ dX12_init_255 ?_
  intro ad147 had148
  rw [← had148 53 (Nat.le_of_ble_eq_true rfl)]
  have hac149 : ∀ j : Nat, j < 54 → ad147 j = ad j := fun j hj => (had148 j (by omega)).trans (hac144 j hj)
  refine v_cl hz146 (Nul.at hz146 rfl rfl) (N1 := 84) rfl ?_
  have hz150 := hz146.up 84 rfl
  refine pt_X12_figMinutes X iwX12 (Nat.le_of_ble_eq_true rfl) (Nul.k hz150 rfl rfl) (List.mem_cons_of_mem _ bw_8_21) hnm rfl 83 (Nat.le_of_ble_eq_true rfl) dX12_init_257 ?_
  have hz151 := hz150.umR 53 45 (some 83) rfl
  refine v_aload_n X 0 dX12_init_260 rfl rfl ?_
  refine v_bipush X dX12_init_261 (by decide) ?_
  refine v_newaI X (n := 36) hRm (List.mem_cons_of_mem _ bw_3_10) (by decide) ⟨Nat.le_of_ble_eq_true rfl, Nat.le_of_ble_eq_true rfl⟩ dX12_init_263 ?_
  intro ad152 had153
  rw [← had153 53 (Nat.le_of_ble_eq_true rfl)]
  have hac154 : ∀ j : Nat, j < 54 → ad152 j = ad j := fun j hj => (had153 j (by omega)).trans (hac149 j hj)
  refine v_cl hz151 (Nul.at hz151 rfl rfl) (N1 := 85) rfl ?_
  have hz155 := hz151.up 85 rfl
  refine pt_X12_figSpeed X iwX12 (Nat.le_of_ble_eq_true rfl) (Nul.k hz155 rfl rfl) (List.mem_cons_of_mem _ bw_8_22) hnm rfl 84 (Nat.le_of_ble_eq_true rfl) dX12_init_265 ?_
  have hz156 := hz155.umR 53 46 (some 84) rfl
  refine v_aload_n X 0 dX12_init_268 rfl rfl ?_
  refine v_bipush X dX12_init_269 (by decide) ?_
  refine v_newaI X (n := 36) hRm (List.mem_cons_of_mem _ bw_3_10) (by decide) ⟨Nat.le_of_ble_eq_true rfl, Nat.le_of_ble_eq_true rfl⟩ dX12_init_271 ?_
  intro ad157 had158
  rw [← had158 53 (Nat.le_of_ble_eq_true rfl)]
  have hac159 : ∀ j : Nat, j < 54 → ad157 j = ad j := fun j hj => (had158 j (by omega)).trans (hac154 j hj)
  refine v_cl hz156 (Nul.at hz156 rfl rfl) (N1 := 86) rfl ?_
  have hz160 := hz156.up 86 rfl
  refine pt_X12_figHeight X iwX12 (Nat.le_of_ble_eq_true rfl) (Nul.k hz160 rfl rfl) (List.mem_cons_of_mem _ bw_8_23) hnm rfl 85 (Nat.le_of_ble_eq_true rfl) dX12_init_273 ?_
  have hz161 := hz160.umR 53 47 (some 85) rfl
  refine v_aload_n X 0 dX12_init_276 rfl rfl ?_
  refine v_bipush X dX12_init_277 (by decide) ?_
  refine v_newaZ X (n := 36) hRm (List.mem_cons_of_mem _ bw_6_9) (by decide) ⟨Nat.le_of_ble_eq_true rfl, Nat.le_of_ble_eq_true rfl⟩ dX12_init_279 ?_
  intro ad162 had163
  rw [← had163 53 (Nat.le_of_ble_eq_true rfl)]
  have hac164 : ∀ j : Nat, j < 54 → ad162 j = ad j := fun j hj => (had163 j (by omega)).trans (hac159 j hj)
  refine v_cl hz161 (Nul.at hz161 rfl rfl) (N1 := 87) rfl ?_
  have hz165 := hz161.up 87 rfl
  refine pt_X12_isHigh X iwX12 (Nat.le_of_ble_eq_true rfl) (Nul.k hz165 rfl rfl) (List.mem_cons_of_mem _ bw_9_0) hnm rfl 86 (Nat.le_of_ble_eq_true rfl) dX12_init_281 ?_
  have hz166 := hz165.umR 53 48 (some 86) rfl
  refine v_aload_n X 0 dX12_init_284 rfl rfl ?_
  refine v_bipush X dX12_init_285 (by decide) ?_
  refine v_newaI X (n := 10) hRm (List.mem_cons_of_mem _ bw_3_10) (by decide) ⟨Nat.le_of_ble_eq_true rfl, Nat.le_of_ble_eq_true rfl⟩ dX12_init_287 ?_
  intro ad167 had168
  rw [← had168 53 (Nat.le_of_ble_eq_true rfl)]
  have hac169 : ∀ j : Nat, j < 54 → ad167 j = ad j := fun j hj => (had168 j (by omega)).trans (hac164 j hj)
  refine v_cl hz166 (Nul.at hz166 rfl rfl) (N1 := 88) rfl ?_
  have hz170 := hz166.up 88 rfl
  refine pt_X12_cell X iwX12 (Nat.le_of_ble_eq_true rfl) (Nul.k hz170 rfl rfl) (List.mem_cons_of_mem _ bw_9_1) hnm rfl 87 (Nat.le_of_ble_eq_true rfl) dX12_init_289 ?_
  have hz171 := hz170.umR 53 50 (some 87) rfl
  refine v_aload_n X 0 dX12_init_292 rfl rfl ?_
  refine v_bipush X dX12_init_293 (by decide) ?_
  refine v_newaI X (n := 100) hRm (List.mem_cons_of_mem _ bw_3_10) (by decide) ⟨Nat.le_of_ble_eq_true rfl, Nat.le_of_ble_eq_true rfl⟩ dX12_init_295 ?_
  intro ad172 had173
  rw [← had173 53 (Nat.le_of_ble_eq_true rfl)]
  have hac174 : ∀ j : Nat, j < 54 → ad172 j = ad j := fun j hj => (had173 j (by omega)).trans (hac169 j hj)
  refine v_cl hz171 (Nul.at hz171 rfl rfl) (N1 := 89) rfl ?_
  have hz175 := hz171.up 89 rfl
  refine pt_X12_factSort X iwX12 (Nat.le_of_ble_eq_true rfl) (Nul.k hz175 rfl rfl) (List.mem_cons_of_mem _ bw_9_2) hnm rfl 88 (Nat.le_of_ble_eq_true rfl) dX12_init_297 ?_
  have hz176 := hz175.umR 53 54 (some 88) rfl
  refine v_aload_n X 0 dX12_init_300 rfl rfl ?_
  refine v_bipush X dX12_init_301 (by decide) ?_
  refine v_newaI X (n := 100) hRm (List.mem_cons_of_mem _ bw_3_10) (by decide) ⟨Nat.le_of_ble_eq_true rfl, Nat.le_of_ble_eq_true rfl⟩ dX12_init_303 ?_
  intro ad177 had178
  rw [← had178 53 (Nat.le_of_ble_eq_true rfl)]
  have hac179 : ∀ j : Nat, j < 54 → ad177 j = ad j := fun j hj => (had178 j (by omega)).trans (hac174 j hj)
  refine v_cl hz176 (Nul.at hz176 rfl rfl) (N1 := 90) rfl ?_
  have hz180 := hz176.up 90 rfl
  refine pt_X12_factA X iwX12 (Nat.le_of_ble_eq_true rfl) (Nul.k hz180 rfl rfl) (List.mem_cons_of_mem _ bw_9_3) hnm rfl 89 (Nat.le_of_ble_eq_true rfl) dX12_init_305 ?_
  have hz181 := hz180.umR 53 55 (some 89) rfl
  refine v_aload_n X 0 dX12_init_308 rfl rfl ?_
  refine v_bipush X dX12_init_309 (by decide) ?_
  refine v_newaI X (n := 100) hRm (List.mem_cons_of_mem _ bw_3_10) (by decide) ⟨Nat.le_of_ble_eq_true rfl, Nat.le_of_ble_eq_true rfl⟩ dX12_init_311 ?_
  intro ad182 had183
  rw [← had183 53 (Nat.le_of_ble_eq_true rfl)]
  have hac184 : ∀ j : Nat, j < 54 → ad182 j = ad j := fun j hj => (had183 j (by omega)).trans (hac179 j hj)
  refine v_cl hz181 (Nul.at hz181 rfl rfl) (N1 := 91) rfl ?_
  have hz185 := hz181.up 91 rfl
  refine pt_X12_factB X iwX12 (Nat.le_of_ble_eq_true rfl) (Nul.k hz185 rfl rfl) (List.mem_cons_of_mem _ bw_9_4) hnm rfl 90 (Nat.le_of_ble_eq_true rfl) dX12_init_313 ?_
  have hz186 := hz185.umR 53 56 (some 90) rfl
  refine v_aload_n X 0 dX12_init_316 rfl rfl ?_
  refine v_sipush X dX12_init_317 (by decide) ?_
  refine v_newaI X (n := 240) hRm (List.mem_cons_of_mem _ bw_3_10) (by decide) ⟨Nat.le_of_ble_eq_true rfl, Nat.le_of_ble_eq_true rfl⟩ dX12_init_320 ?_
  intro ad187 had188
  rw [← had188 53 (Nat.le_of_ble_eq_true rfl)]
  have hac189 : ∀ j : Nat, j < 54 → ad187 j = ad j := fun j hj => (had188 j (by omega)).trans (hac184 j hj)
  refine v_cl hz186 (Nul.at hz186 rfl rfl) (N1 := 92) rfl ?_
  have hz190 := hz186.up 92 rfl
  refine pt_X12_bases X iwX12 (Nat.le_of_ble_eq_true rfl) (Nul.k hz190 rfl rfl) (List.mem_cons_of_mem _ bw_9_5) hnm rfl 91 (Nat.le_of_ble_eq_true rfl) dX12_init_322 ?_
  have hz191 := hz190.umR 53 57 (some 91) rfl
  refine v_aload_n X 0 dX12_init_325 rfl rfl ?_
  refine v_sipush X dX12_init_326 (by decide) ?_
  refine v_newaZ X (n := 240) hRm (List.mem_cons_of_mem _ bw_6_9) (by decide) ⟨Nat.le_of_ble_eq_true rfl, Nat.le_of_ble_eq_true rfl⟩ dX12_init_329 ?_
  intro ad192 had193
  rw [← had193 53 (Nat.le_of_ble_eq_true rfl)]
  have hac194 : ∀ j : Nat, j < 54 → ad192 j = ad j := fun j hj => (had193 j (by omega)).trans (hac189 j hj)
  refine v_cl hz191 (Nul.at hz191 rfl rfl) (N1 := 93) rfl ?_
  have hz195 := hz191.up 93 rfl
  refine pt_X12_isShut X iwX12 (Nat.le_of_ble_eq_true rfl) (Nul.k hz195 rfl rfl) (List.mem_cons_of_mem _ bw_9_6) hnm rfl 92 (Nat.le_of_ble_eq_true rfl) dX12_init_331 ?_
  have hz196 := hz195.umR 53 58 (some 92) rfl
  refine v_aload_n X 0 dX12_init_334 rfl rfl ?_
  refine v_bipush X dX12_init_335 (by decide) ?_
  refine v_newaI X (n := 6) hRm (List.mem_cons_of_mem _ bw_3_10) (by decide) ⟨Nat.le_of_ble_eq_true rfl, Nat.le_of_ble_eq_true rfl⟩ dX12_init_337 ?_
  intro ad197 had198
  rw [← had198 53 (Nat.le_of_ble_eq_true rfl)]
  have hac199 : ∀ j : Nat, j < 54 → ad197 j = ad j := fun j hj => (had198 j (by omega)).trans (hac194 j hj)
  refine v_cl hz196 (Nul.at hz196 rfl rfl) (N1 := 94) rfl ?_
  have hz200 := hz196.up 94 rfl
  refine pt_X12_readyAt X iwX12 (Nat.le_of_ble_eq_true rfl) (Nul.k hz200 rfl rfl) (List.mem_cons_of_mem _ bw_9_7) hnm rfl 93 (Nat.le_of_ble_eq_true rfl) dX12_init_339 ?_
  have hz201 := hz200.umR 53 59 (some 93) rfl
  refine v_aload_n X 0 dX12_init_342 rfl rfl ?_
  refine v_bipush X dX12_init_343 (by decide) ?_
  refine v_newaI X (n := 9) hRm (List.mem_cons_of_mem _ bw_3_10) (by decide) ⟨Nat.le_of_ble_eq_true rfl, Nat.le_of_ble_eq_true rfl⟩ dX12_init_345 ?_
  intro ad202 had203
  rw [← had203 53 (Nat.le_of_ble_eq_true rfl)]
  have hac204 : ∀ j : Nat, j < 54 → ad202 j = ad j := fun j hj => (had203 j (by omega)).trans (hac199 j hj)
  refine v_cl hz201 (Nul.at hz201 rfl rfl) (N1 := 95) rfl ?_
  have hz205 := hz201.up 95 rfl
  refine pt_X12_variables X iwX12 (Nat.le_of_ble_eq_true rfl) (Nul.k hz205 rfl rfl) (List.mem_cons_of_mem _ bw_9_8) hnm rfl 94 (Nat.le_of_ble_eq_true rfl) dX12_init_347 ?_
  have hz206 := hz205.umR 53 60 (some 94) rfl
  refine v_aload_n X 0 dX12_init_350 rfl rfl ?_
  refine v_sipush X dX12_init_351 (by decide) ?_
  refine v_newaI X (n := 500) hRm (List.mem_cons_of_mem _ bw_3_10) (by decide) ⟨Nat.le_of_ble_eq_true rfl, Nat.le_of_ble_eq_true rfl⟩ dX12_init_354 ?_
  intro ad207 had208
  rw [← had208 53 (Nat.le_of_ble_eq_true rfl)]
  have hac209 : ∀ j : Nat, j < 54 → ad207 j = ad j := fun j hj => (had208 j (by omega)).trans (hac204 j hj)
  refine v_cl hz206 (Nul.at hz206 rfl rfl) (N1 := 96) rfl ?_
  have hz210 := hz206.up 96 rfl
  refine pt_X12_pile X iwX12 (Nat.le_of_ble_eq_true rfl) (Nul.k hz210 rfl rfl) (List.mem_cons_of_mem _ bw_9_9) hnm rfl 95 (Nat.le_of_ble_eq_true rfl) dX12_init_356 ?_
  have hz211 := hz210.umR 53 61 (some 95) rfl
  refine v_aload_n X 0 dX12_init_359 rfl rfl ?_
  refine v_bipush X dX12_init_360 (by decide) ?_
  refine v_newaI X (n := 6) hRm (List.mem_cons_of_mem _ bw_3_10) (by decide) ⟨Nat.le_of_ble_eq_true rfl, Nat.le_of_ble_eq_true rfl⟩ dX12_init_362 ?_
  intro ad212 had213
  rw [← had213 53 (Nat.le_of_ble_eq_true rfl)]
  have hac214 : ∀ j : Nat, j < 54 → ad212 j = ad j := fun j hj => (had213 j (by omega)).trans (hac209 j hj)
  refine v_cl hz211 (Nul.at hz211 rfl rfl) (N1 := 97) rfl ?_
  have hz215 := hz211.up 97 rfl
  refine pt_X12_row X iwX12 (Nat.le_of_ble_eq_true rfl) (Nul.k hz215 rfl rfl) (List.mem_cons_of_mem _ bw_9_10) hnm rfl 96 (Nat.le_of_ble_eq_true rfl) dX12_init_364 ?_
  have hz216 := hz215.umR 53 63 (some 96) rfl
  refine v_aload_n X 0 dX12_init_367 rfl rfl ?_
  refine v_bipush X dX12_init_368 (by decide) ?_
  refine v_newaI X (n := 6) hRm (List.mem_cons_of_mem _ bw_3_10) (by decide) ⟨Nat.le_of_ble_eq_true rfl, Nat.le_of_ble_eq_true rfl⟩ dX12_init_370 ?_
  intro ad217 had218
  rw [← had218 53 (Nat.le_of_ble_eq_true rfl)]
  have hac219 : ∀ j : Nat, j < 54 → ad217 j = ad j := fun j hj => (had218 j (by omega)).trans (hac214 j hj)
  refine v_cl hz216 (Nul.at hz216 rfl rfl) (N1 := 98) rfl ?_
  have hz220 := hz216.up 98 rfl
  refine pt_X12_takesOff X iwX12 (Nat.le_of_ble_eq_true rfl) (Nul.k hz220 rfl rfl) (List.mem_cons_of_mem _ bw_9_11) hnm rfl 97 (Nat.le_of_ble_eq_true rfl) dX12_init_372 ?_
  have hz221 := hz220.umR 53 64 (some 97) rfl
  refine v_aload_n X 0 dX12_init_375 rfl rfl ?_
  refine v_bipush X dX12_init_376 (by decide) ?_
  refine v_newaI X (n := 6) hRm (List.mem_cons_of_mem _ bw_3_10) (by decide) ⟨Nat.le_of_ble_eq_true rfl, Nat.le_of_ble_eq_true rfl⟩ dX12_init_378 ?_
  intro ad222 had223
  rw [← had223 53 (Nat.le_of_ble_eq_true rfl)]
  have hac224 : ∀ j : Nat, j < 54 → ad222 j = ad j := fun j hj => (had223 j (by omega)).trans (hac219 j hj)
  refine v_cl hz221 (Nul.at hz221 rfl rfl) (N1 := 99) rfl ?_
  have hz225 := hz221.up 99 rfl
  refine pt_X12_begins X iwX12 (Nat.le_of_ble_eq_true rfl) (Nul.k hz225 rfl rfl) (List.mem_cons_of_mem _ bw_9_12) hnm rfl 98 (Nat.le_of_ble_eq_true rfl) dX12_init_380 ?_
  have hz226 := hz225.umR 53 65 (some 98) rfl
  refine v_aload_n X 0 dX12_init_383 rfl rfl ?_
  refine v_bipush X dX12_init_384 (by decide) ?_
  refine v_newaI X (n := 6) hRm (List.mem_cons_of_mem _ bw_3_10) (by decide) ⟨Nat.le_of_ble_eq_true rfl, Nat.le_of_ble_eq_true rfl⟩ dX12_init_386 ?_
  intro ad227 had228
  rw [← had228 53 (Nat.le_of_ble_eq_true rfl)]
  have hac229 : ∀ j : Nat, j < 54 → ad227 j = ad j := fun j hj => (had228 j (by omega)).trans (hac224 j hj)
  refine v_cl hz226 (Nul.at hz226 rfl rfl) (N1 := 100) rfl ?_
  have hz230 := hz226.up 100 rfl
  refine pt_X12_ends X iwX12 (Nat.le_of_ble_eq_true rfl) (Nul.k hz230 rfl rfl) (List.mem_cons_of_mem _ bw_9_13) hnm rfl 99 (Nat.le_of_ble_eq_true rfl) dX12_init_388 ?_
  have hz231 := hz230.umR 53 66 (some 99) rfl
  refine v_aload_n X 0 dX12_init_391 rfl rfl ?_
  refine v_bipush X dX12_init_392 (by decide) ?_
  refine v_newaI X (n := 6) hRm (List.mem_cons_of_mem _ bw_3_10) (by decide) ⟨Nat.le_of_ble_eq_true rfl, Nat.le_of_ble_eq_true rfl⟩ dX12_init_394 ?_
  intro ad232 had233
  rw [← had233 53 (Nat.le_of_ble_eq_true rfl)]
  have hac234 : ∀ j : Nat, j < 54 → ad232 j = ad j := fun j hj => (had233 j (by omega)).trans (hac229 j hj)
  refine v_cl hz231 (Nul.at hz231 rfl rfl) (N1 := 101) rfl ?_
  have hz235 := hz231.up 101 rfl
  refine pt_X12_lands X iwX12 (Nat.le_of_ble_eq_true rfl) (Nul.k hz235 rfl rfl) (List.mem_cons_of_mem _ bw_9_14) hnm rfl 100 (Nat.le_of_ble_eq_true rfl) dX12_init_396 ?_
  have hz236 := hz235.umR 53 67 (some 100) rfl
  refine v_aload_n X 0 dX12_init_399 rfl rfl ?_
  refine v_bipush X dX12_init_400 (by decide) ?_
  refine v_newaI X (n := 6) hRm (List.mem_cons_of_mem _ bw_3_10) (by decide) ⟨Nat.le_of_ble_eq_true rfl, Nat.le_of_ble_eq_true rfl⟩ dX12_init_402 ?_
  intro ad237 had238
  rw [← had238 53 (Nat.le_of_ble_eq_true rfl)]
  have hac239 : ∀ j : Nat, j < 54 → ad237 j = ad j := fun j hj => (had238 j (by omega)).trans (hac234 j hj)
  refine v_cl hz236 (Nul.at hz236 rfl rfl) (N1 := 102) rfl ?_
  have hz240 := hz236.up 102 rfl
  refine pt_X12_order X iwX12 (Nat.le_of_ble_eq_true rfl) (Nul.k hz240 rfl rfl) (List.mem_cons_of_mem _ bw_9_15) hnm rfl 101 (Nat.le_of_ble_eq_true rfl) dX12_init_404 ?_
  have hz241 := hz240.umR 53 70 (some 101) rfl
  refine v_aload_n X 0 dX12_init_407 rfl rfl ?_
  refine v_bipush X dX12_init_408 (by decide) ?_
  refine v_newaI X (n := 6) hRm (List.mem_cons_of_mem _ bw_3_10) (by decide) ⟨Nat.le_of_ble_eq_true rfl, Nat.le_of_ble_eq_true rfl⟩ dX12_init_410 ?_
  intro ad242 had243
  rw [← had243 53 (Nat.le_of_ble_eq_true rfl)]
  have hac244 : ∀ j : Nat, j < 54 → ad242 j = ad j := fun j hj => (had243 j (by omega)).trans (hac239 j hj)
  refine v_cl hz241 (Nul.at hz241 rfl rfl) (N1 := 103) rfl ?_
  have hz245 := hz241.up 103 rfl
  refine pt_X12_pOff X iwX12 (Nat.le_of_ble_eq_true rfl) (Nul.k hz245 rfl rfl) (List.mem_cons_of_mem _ bw_9_16) hnm rfl 102 (Nat.le_of_ble_eq_true rfl) dX12_init_412 ?_
  have hz246 := hz245.umR 53 71 (some 102) rfl
  refine v_aload_n X 0 dX12_init_415 rfl rfl ?_
  refine v_bipush X dX12_init_416 (by decide) ?_
  refine v_newaI X (n := 6) hRm (List.mem_cons_of_mem _ bw_3_10) (by decide) ⟨Nat.le_of_ble_eq_true rfl, Nat.le_of_ble_eq_true rfl⟩ dX12_init_418 ?_
  intro ad247 had248
  rw [← had248 53 (Nat.le_of_ble_eq_true rfl)]
  have hac249 : ∀ j : Nat, j < 54 → ad247 j = ad j := fun j hj => (had248 j (by omega)).trans (hac244 j hj)
  refine v_cl hz246 (Nul.at hz246 rfl rfl) (N1 := 104) rfl ?_
  have hz250 := hz246.up 104 rfl
  refine pt_X12_pBegin X iwX12 (Nat.le_of_ble_eq_true rfl) (Nul.k hz250 rfl rfl) (List.mem_cons_of_mem _ bw_9_17) hnm rfl 103 (Nat.le_of_ble_eq_true rfl) dX12_init_420 ?_
  have hz251 := hz250.umR 53 72 (some 103) rfl
  refine v_aload_n X 0 dX12_init_423 rfl rfl ?_
  refine v_bipush X dX12_init_424 (by decide) ?_
  refine v_newaI X (n := 6) hRm (List.mem_cons_of_mem _ bw_3_10) (by decide) ⟨Nat.le_of_ble_eq_true rfl, Nat.le_of_ble_eq_true rfl⟩ dX12_init_426 ?_
  intro ad252 had253
  rw [← had253 53 (Nat.le_of_ble_eq_true rfl)]
  have hac254 : ∀ j : Nat, j < 54 → ad252 j = ad j := fun j hj => (had253 j (by omega)).trans (hac249 j hj)
  refine v_cl hz251 (Nul.at hz251 rfl rfl) (N1 := 105) rfl ?_
  have hz255 := hz251.up 105 rfl
  refine pt_X12_pEnd X iwX12 (Nat.le_of_ble_eq_true rfl) (Nul.k hz255 rfl rfl) (List.mem_cons_of_mem _ bw_9_18) hnm rfl 104 (Nat.le_of_ble_eq_true rfl) dX12_init_428 ?_
  have hz256 := hz255.umR 53 73 (some 104) rfl
  refine v_aload_n X 0 dX12_init_431 rfl rfl ?_
  refine v_bipush X dX12_init_432 (by decide) ?_
  refine v_newaI X (n := 6) hRm (List.mem_cons_of_mem _ bw_3_10) (by decide) ⟨Nat.le_of_ble_eq_true rfl, Nat.le_of_ble_eq_true rfl⟩ dX12_init_434 ?_
  intro ad257 had258
  rw [← had258 53 (Nat.le_of_ble_eq_true rfl)]
  have hac259 : ∀ j : Nat, j < 54 → ad257 j = ad j := fun j hj => (had258 j (by omega)).trans (hac254 j hj)
  refine v_cl hz256 (Nul.at hz256 rfl rfl) (N1 := 106) rfl ?_
  have hz260 := hz256.up 106 rfl
  refine pt_X12_pLand X iwX12 (Nat.le_of_ble_eq_true rfl) (Nul.k hz260 rfl rfl) (List.mem_cons_of_mem _ bw_9_19) hnm rfl 105 (Nat.le_of_ble_eq_true rfl) dX12_init_436 ?_
  have hz261 := hz260.umR 53 74 (some 105) rfl
  refine v_aload_n X 0 dX12_init_439 rfl rfl ?_
  refine v_bipush X dX12_init_440 (by decide) ?_
  refine v_newaI X (n := 6) hRm (List.mem_cons_of_mem _ bw_3_10) (by decide) ⟨Nat.le_of_ble_eq_true rfl, Nat.le_of_ble_eq_true rfl⟩ dX12_init_442 ?_
  intro ad262 had263
  rw [← had263 53 (Nat.le_of_ble_eq_true rfl)]
  have hac264 : ∀ j : Nat, j < 54 → ad262 j = ad j := fun j hj => (had263 j (by omega)).trans (hac259 j hj)
  refine v_cl hz261 (Nul.at hz261 rfl rfl) (N1 := 107) rfl ?_
  have hz265 := hz261.up 107 rfl
  refine pt_X12_bestRow X iwX12 (Nat.le_of_ble_eq_true rfl) (Nul.k hz265 rfl rfl) (List.mem_cons_of_mem _ bw_9_20) hnm rfl 106 (Nat.le_of_ble_eq_true rfl) dX12_init_444 ?_
  have hz266 := hz265.umR 53 79 (some 106) rfl
  refine v_aload_n X 0 dX12_init_447 rfl rfl ?_
  refine v_bipush X dX12_init_448 (by decide) ?_
  refine v_newaI X (n := 6) hRm (List.mem_cons_of_mem _ bw_3_10) (by decide) ⟨Nat.le_of_ble_eq_true rfl, Nat.le_of_ble_eq_true rfl⟩ dX12_init_450 ?_
  intro ad267 had268
  rw [← had268 53 (Nat.le_of_ble_eq_true rfl)]
  have hac269 : ∀ j : Nat, j < 54 → ad267 j = ad j := fun j hj => (had268 j (by omega)).trans (hac264 j hj)
  refine v_cl hz266 (Nul.at hz266 rfl rfl) (N1 := 108) rfl ?_
  have hz270 := hz266.up 108 rfl
  refine pt_X12_bestOff X iwX12 (Nat.le_of_ble_eq_true rfl) (Nul.k hz270 rfl rfl) (List.mem_cons_of_mem _ bw_9_21) hnm rfl 107 (Nat.le_of_ble_eq_true rfl) dX12_init_452 ?_
  have hz271 := hz270.umR 53 80 (some 107) rfl
  refine v_aload_n X 0 dX12_init_455 rfl rfl ?_
  refine v_bipush X dX12_init_456 (by decide) ?_
  refine v_newaI X (n := 6) hRm (List.mem_cons_of_mem _ bw_3_10) (by decide) ⟨Nat.le_of_ble_eq_true rfl, Nat.le_of_ble_eq_true rfl⟩ dX12_init_458 ?_
  intro ad272 had273
  rw [← had273 53 (Nat.le_of_ble_eq_true rfl)]
  have hac274 : ∀ j : Nat, j < 54 → ad272 j = ad j := fun j hj => (had273 j (by omega)).trans (hac269 j hj)
  refine v_cl hz271 (Nul.at hz271 rfl rfl) (N1 := 109) rfl ?_
  have hz275 := hz271.up 109 rfl
  refine pt_X12_bestBegin X iwX12 (Nat.le_of_ble_eq_true rfl) (Nul.k hz275 rfl rfl) (List.mem_cons_of_mem _ bw_9_22) hnm rfl 108 (Nat.le_of_ble_eq_true rfl) dX12_init_460 ?_
  have hz276 := hz275.umR 53 81 (some 108) rfl
  refine v_aload_n X 0 dX12_init_463 rfl rfl ?_
  refine v_bipush X dX12_init_464 (by decide) ?_
  refine v_newaI X (n := 6) hRm (List.mem_cons_of_mem _ bw_3_10) (by decide) ⟨Nat.le_of_ble_eq_true rfl, Nat.le_of_ble_eq_true rfl⟩ dX12_init_466 ?_
  intro ad277 had278
  rw [← had278 53 (Nat.le_of_ble_eq_true rfl)]
  have hac279 : ∀ j : Nat, j < 54 → ad277 j = ad j := fun j hj => (had278 j (by omega)).trans (hac274 j hj)
  refine v_cl hz276 (Nul.at hz276 rfl rfl) (N1 := 110) rfl ?_
  have hz280 := hz276.up 110 rfl
  refine pt_X12_bestEnd X iwX12 (Nat.le_of_ble_eq_true rfl) (Nul.k hz280 rfl rfl) (List.mem_cons_of_mem _ bw_9_23) hnm rfl 109 (Nat.le_of_ble_eq_true rfl) dX12_init_468 ?_
  have hz281 := hz280.umR 53 82 (some 109) rfl
  refine v_aload_n X 0 dX12_init_471 rfl rfl ?_
  refine v_bipush X dX12_init_472 (by decide) ?_
  refine v_newaI X (n := 6) hRm (List.mem_cons_of_mem _ bw_3_10) (by decide) ⟨Nat.le_of_ble_eq_true rfl, Nat.le_of_ble_eq_true rfl⟩ dX12_init_474 ?_
  intro ad282 had283
  rw [← had283 53 (Nat.le_of_ble_eq_true rfl)]
  have hac284 : ∀ j : Nat, j < 54 → ad282 j = ad j := fun j hj => (had283 j (by omega)).trans (hac279 j hj)
  refine v_cl hz281 (Nul.at hz281 rfl rfl) (N1 := 111) rfl ?_
  have hz285 := hz281.up 111 rfl
  refine pt_X12_bestLand X iwX12 (Nat.le_of_ble_eq_true rfl) (Nul.k hz285 rfl rfl) (List.mem_cons_of_mem _ bw_10_0) hnm rfl 110 (Nat.le_of_ble_eq_true rfl) dX12_init_476 ?_
  have hz286 := hz285.umR 53 83 (some 110) rfl
  refine v_aload_n X 0 dX12_init_479 rfl rfl ?_
  refine v_bipush X dX12_init_480 (by decide) ?_
  refine v_newaI X (n := 7) hRm (List.mem_cons_of_mem _ bw_3_10) (by decide) ⟨Nat.le_of_ble_eq_true rfl, Nat.le_of_ble_eq_true rfl⟩ dX12_init_482 ?_
  intro ad287 had288
  rw [← had288 53 (Nat.le_of_ble_eq_true rfl)]
  have hac289 : ∀ j : Nat, j < 54 → ad287 j = ad j := fun j hj => (had288 j (by omega)).trans (hac284 j hj)
  refine v_cl hz286 (Nul.at hz286 rfl rfl) (N1 := 112) rfl ?_
  have hz290 := hz286.up 112 rfl
  refine pt_X12_tried X iwX12 (Nat.le_of_ble_eq_true rfl) (Nul.k hz290 rfl rfl) (List.mem_cons_of_mem _ bw_10_1) hnm rfl 111 (Nat.le_of_ble_eq_true rfl) dX12_init_484 ?_
  have hz291 := hz290.umR 53 84 (some 111) rfl
  refine v_aload_n X 0 dX12_init_487 rfl rfl ?_
  refine gt_X12_keys X iwX12 (Nat.le_of_ble_eq_true rfl) (Nul.k hz291 rfl rfl) (List.mem_cons_of_mem _ bw_7_21) dX12_init_488 60 rfl ?_
  refine v_iconst X dX12_init_491 ?_
  refine v_bipush X dX12_init_492 (by decide) ?_
  refine v_bipush X dX12_init_494 (by decide) ?_
  refine v_bipush X dX12_init_496 (by decide) ?_
  refine v_iconst X dX12_init_498 ?_
  refine v_iconst X dX12_init_499 ?_
  refine v_iconst X dX12_init_500 ?_
  refine v_iconst X dX12_init_501 ?_
  refine v_callS X [.int (iz 111), .int (iz 117), .int (iz 116), .int (iz 0), .int (iz 0), .int (iz 0), .int (iz 0)] hRm (c_X12_word _ _ _ 111 (by decide) 117 (by decide) 116 (by decide) 0 (by decide) 0 (by decide) 0 (by decide) 0 (by decide)) (gS bw_10_4 bw_10_5 bw_1_5 bw_10_6) rfl ddX12_word (by decide) (Nat.le_of_ble_eq_true rfl) dX12_init_502 (k_pL (fun r292 e293 => ?_))
  subst e293
  refine v_last X (Nat.le_of_ble_eq_true rfl) (Nul.at hz291 rfl rfl) (by decide) (by decide) dX12_init_505 ?_
  have hz294 := hz291.umL 60 0 (wd7 111 117 116 0 0 0 0) rfl
  refine v_aload_n X 0 dX12_init_506 rfl rfl ?_
  refine gt_X12_keys X iwX12 (Nat.le_of_ble_eq_true rfl) (Nul.k hz294 rfl rfl) (List.mem_cons_of_mem _ bw_7_21) dX12_init_507 60 rfl ?_
  refine v_iconst X dX12_init_510 ?_
  refine v_bipush X dX12_init_511 (by decide) ?_
  refine v_bipush X dX12_init_513 (by decide) ?_
  refine v_iconst X dX12_init_515 ?_
  refine v_iconst X dX12_init_516 ?_
  refine v_iconst X dX12_init_517 ?_
  refine v_iconst X dX12_init_518 ?_
  refine v_iconst X dX12_init_519 ?_
  refine v_callS X [.int (iz 105), .int (iz 102), .int (iz 0), .int (iz 0), .int (iz 0), .int (iz 0), .int (iz 0)] hRm (c_X12_word _ _ _ 105 (by decide) 102 (by decide) 0 (by decide) 0 (by decide) 0 (by decide) 0 (by decide) 0 (by decide)) (gS bw_10_4 bw_10_5 bw_1_5 bw_10_6) rfl ddX12_word (by decide) (Nat.le_of_ble_eq_true rfl) dX12_init_520 (k_pL (fun r295 e296 => ?_))
  subst e296
  refine v_last X (Nat.le_of_ble_eq_true rfl) (Nul.at hz294 rfl rfl) (by decide) (by decide) dX12_init_523 ?_
  have hz297 := hz294.umL 60 1 (wd7 105 102 0 0 0 0 0) rfl
  refine v_aload_n X 0 dX12_init_524 rfl rfl ?_
  refine gt_X12_keys X iwX12 (Nat.le_of_ble_eq_true rfl) (Nul.k hz297 rfl rfl) (List.mem_cons_of_mem _ bw_7_21) dX12_init_525 60 rfl ?_
  refine v_iconst X dX12_init_528 ?_
  refine v_bipush X dX12_init_529 (by decide) ?_
  refine v_bipush X dX12_init_531 (by decide) ?_
  refine v_bipush X dX12_init_533 (by decide) ?_
  refine v_iconst X dX12_init_535 ?_
  refine v_iconst X dX12_init_536 ?_
  refine v_iconst X dX12_init_537 ?_
  refine v_iconst X dX12_init_538 ?_
  refine v_callS X [.int (iz 103), .int (iz 97), .int (iz 112), .int (iz 0), .int (iz 0), .int (iz 0), .int (iz 0)] hRm (c_X12_word _ _ _ 103 (by decide) 97 (by decide) 112 (by decide) 0 (by decide) 0 (by decide) 0 (by decide) 0 (by decide)) (gS bw_10_4 bw_10_5 bw_1_5 bw_10_6) rfl ddX12_word (by decide) (Nat.le_of_ble_eq_true rfl) dX12_init_539 (k_pL (fun r298 e299 => ?_))
  subst e299
  refine v_last X (Nat.le_of_ble_eq_true rfl) (Nul.at hz297 rfl rfl) (by decide) (by decide) dX12_init_542 ?_
  have hz300 := hz297.umL 60 2 (wd7 103 97 112 0 0 0 0) rfl
  refine v_aload_n X 0 dX12_init_543 rfl rfl ?_
  refine gt_X12_keys X iwX12 (Nat.le_of_ble_eq_true rfl) (Nul.k hz300 rfl rfl) (List.mem_cons_of_mem _ bw_7_21) dX12_init_544 60 rfl ?_
  refine v_iconst X dX12_init_547 ?_
  refine v_bipush X dX12_init_548 (by decide) ?_
  refine v_bipush X dX12_init_550 (by decide) ?_
  refine v_bipush X dX12_init_552 (by decide) ?_
  refine v_bipush X dX12_init_554 (by decide) ?_
  refine v_bipush X dX12_init_556 (by decide) ?_
  refine v_iconst X dX12_init_558 ?_
  refine v_iconst X dX12_init_559 ?_
  refine v_callS X [.int (iz 115), .int (iz 112), .int (iz 97), .int (iz 114), .int (iz 101), .int (iz 0), .int (iz 0)] hRm (c_X12_word _ _ _ 115 (by decide) 112 (by decide) 97 (by decide) 114 (by decide) 101 (by decide) 0 (by decide) 0 (by decide)) (gS bw_10_4 bw_10_5 bw_1_5 bw_10_6) rfl ddX12_word (by decide) (Nat.le_of_ble_eq_true rfl) dX12_init_560 (k_pL (fun r301 e302 => ?_))
  subst e302
  refine v_last X (Nat.le_of_ble_eq_true rfl) (Nul.at hz300 rfl rfl) (by decide) (by decide) dX12_init_563 ?_
  have hz303 := hz300.umL 60 3 (wd7 115 112 97 114 101 0 0) rfl
  refine v_aload_n X 0 dX12_init_564 rfl rfl ?_
  refine gt_X12_keys X iwX12 (Nat.le_of_ble_eq_true rfl) (Nul.k hz303 rfl rfl) (List.mem_cons_of_mem _ bw_7_21) dX12_init_565 60 rfl ?_
  refine v_iconst X dX12_init_568 ?_
  refine v_bipush X dX12_init_569 (by decide) ?_
  refine v_bipush X dX12_init_571 (by decide) ?_
  refine v_iconst X dX12_init_573 ?_
  refine v_iconst X dX12_init_574 ?_
  refine v_iconst X dX12_init_575 ?_
  refine v_iconst X dX12_init_576 ?_
  refine v_iconst X dX12_init_577 ?_
  refine v_callS X [.int (iz 111), .int (iz 114), .int (iz 0), .int (iz 0), .int (iz 0), .int (iz 0), .int (iz 0)] hRm (c_X12_word _ _ _ 111 (by decide) 114 (by decide) 0 (by decide) 0 (by decide) 0 (by decide) 0 (by decide) 0 (by decide)) (gS bw_10_4 bw_10_5 bw_1_5 bw_10_6) rfl ddX12_word (by decide) (Nat.le_of_ble_eq_true rfl) dX12_init_578 (k_pL (fun r304 e305 => ?_))
  subst e305
  refine v_last X (Nat.le_of_ble_eq_true rfl) (Nul.at hz303 rfl rfl) (by decide) (by decide) dX12_init_581 ?_
  have hz306 := hz303.umL 60 4 (wd7 111 114 0 0 0 0 0) rfl
  refine v_aload_n X 0 dX12_init_582 rfl rfl ?_
  refine gt_X12_keys X iwX12 (Nat.le_of_ble_eq_true rfl) (Nul.k hz306 rfl rfl) (List.mem_cons_of_mem _ bw_7_21) dX12_init_583 60 rfl ?_
  refine v_iconst X dX12_init_586 ?_
  refine v_bipush X dX12_init_587 (by decide) ?_
  refine v_bipush X dX12_init_589 (by decide) ?_
  refine v_bipush X dX12_init_591 (by decide) ?_
  refine v_iconst X dX12_init_593 ?_
  refine v_iconst X dX12_init_594 ?_
  refine v_iconst X dX12_init_595 ?_
  refine v_iconst X dX12_init_596 ?_
  refine v_callS X [.int (iz 97), .int (iz 110), .int (iz 100), .int (iz 0), .int (iz 0), .int (iz 0), .int (iz 0)] hRm (c_X12_word _ _ _ 97 (by decide) 110 (by decide) 100 (by decide) 0 (by decide) 0 (by decide) 0 (by decide) 0 (by decide)) (gS bw_10_4 bw_10_5 bw_1_5 bw_10_6) rfl ddX12_word (by decide) (Nat.le_of_ble_eq_true rfl) dX12_init_597 (k_pL (fun r307 e308 => ?_))
  subst e308
  refine v_last X (Nat.le_of_ble_eq_true rfl) (Nul.at hz306 rfl rfl) (by decide) (by decide) dX12_init_600 ?_
  have hz309 := hz306.umL 60 5 (wd7 97 110 100 0 0 0 0) rfl
  refine v_aload_n X 0 dX12_init_601 rfl rfl ?_
  refine gt_X12_keys X iwX12 (Nat.le_of_ble_eq_true rfl) (Nul.k hz309 rfl rfl) (List.mem_cons_of_mem _ bw_7_21) dX12_init_602 60 rfl ?_
  refine v_bipush X dX12_init_605 (by decide) ?_
  refine v_bipush X dX12_init_607 (by decide) ?_
  refine v_bipush X dX12_init_609 (by decide) ?_
  refine v_bipush X dX12_init_611 (by decide) ?_
  refine v_iconst X dX12_init_613 ?_
  refine v_iconst X dX12_init_614 ?_
  refine v_iconst X dX12_init_615 ?_
  refine v_iconst X dX12_init_616 ?_
  refine v_callS X [.int (iz 97), .int (iz 99), .int (iz 116), .int (iz 0), .int (iz 0), .int (iz 0), .int (iz 0)] hRm (c_X12_word _ _ _ 97 (by decide) 99 (by decide) 116 (by decide) 0 (by decide) 0 (by decide) 0 (by decide) 0 (by decide)) (gS bw_10_4 bw_10_5 bw_1_5 bw_10_6) rfl ddX12_word (by decide) (Nat.le_of_ble_eq_true rfl) dX12_init_617 (k_pL (fun r310 e311 => ?_))
  subst e311
  refine v_last X (Nat.le_of_ble_eq_true rfl) (Nul.at hz309 rfl rfl) (by decide) (by decide) dX12_init_620 ?_
  have hz312 := hz309.umL 60 6 (wd7 97 99 116 0 0 0 0) rfl
  refine v_aload_n X 0 dX12_init_621 rfl rfl ?_
  refine gt_X12_keys X iwX12 (Nat.le_of_ble_eq_true rfl) (Nul.k hz312 rfl rfl) (List.mem_cons_of_mem _ bw_7_21) dX12_init_622 60 rfl ?_
  refine v_bipush X dX12_init_625 (by decide) ?_
  refine v_bipush X dX12_init_627 (by decide) ?_
  refine v_bipush X dX12_init_629 (by decide) ?_
  refine v_bipush X dX12_init_631 (by decide) ?_
  refine v_bipush X dX12_init_633 (by decide) ?_
  refine v_iconst X dX12_init_635 ?_
  refine v_iconst X dX12_init_636 ?_
  refine v_iconst X dX12_init_637 ?_
  refine v_callS X [.int (iz 107), .int (iz 105), .int (iz 110), .int (iz 100), .int (iz 0), .int (iz 0), .int (iz 0)] hRm (c_X12_word _ _ _ 107 (by decide) 105 (by decide) 110 (by decide) 100 (by decide) 0 (by decide) 0 (by decide) 0 (by decide)) (gS bw_10_4 bw_10_5 bw_1_5 bw_10_6) rfl ddX12_word (by decide) (Nat.le_of_ble_eq_true rfl) dX12_init_638 (k_pL (fun r313 e314 => ?_))
  subst e314
  refine v_last X (Nat.le_of_ble_eq_true rfl) (Nul.at hz312 rfl rfl) (by decide) (by decide) dX12_init_641 ?_
  have hz315 := hz312.umL 60 7 (wd7 107 105 110 100 0 0 0) rfl
  refine v_aload_n X 0 dX12_init_642 rfl rfl ?_
  refine gt_X12_keys X iwX12 (Nat.le_of_ble_eq_true rfl) (Nul.k hz315 rfl rfl) (List.mem_cons_of_mem _ bw_7_21) dX12_init_643 60 rfl ?_
  refine v_bipush X dX12_init_646 (by decide) ?_
  refine v_bipush X dX12_init_648 (by decide) ?_
  refine v_bipush X dX12_init_650 (by decide) ?_
  refine v_bipush X dX12_init_652 (by decide) ?_
  refine v_bipush X dX12_init_654 (by decide) ?_
  refine v_bipush X dX12_init_656 (by decide) ?_
  refine v_iconst X dX12_init_658 ?_
  refine v_iconst X dX12_init_659 ?_
  refine v_callS X [.int (iz 97), .int (iz 104), .int (iz 101), .int (iz 97), .int (iz 100), .int (iz 0), .int (iz 0)] hRm (c_X12_word _ _ _ 97 (by decide) 104 (by decide) 101 (by decide) 97 (by decide) 100 (by decide) 0 (by decide) 0 (by decide)) (gS bw_10_4 bw_10_5 bw_1_5 bw_10_6) rfl ddX12_word (by decide) (Nat.le_of_ble_eq_true rfl) dX12_init_660 (k_pL (fun r316 e317 => ?_))
  subst e317
  refine v_last X (Nat.le_of_ble_eq_true rfl) (Nul.at hz315 rfl rfl) (by decide) (by decide) dX12_init_663 ?_
  have hz318 := hz315.umL 60 8 (wd7 97 104 101 97 100 0 0) rfl
  refine v_aload_n X 0 dX12_init_664 rfl rfl ?_
  refine gt_X12_keys X iwX12 (Nat.le_of_ble_eq_true rfl) (Nul.k hz318 rfl rfl) (List.mem_cons_of_mem _ bw_7_21) dX12_init_665 60 rfl ?_
  refine v_bipush X dX12_init_668 (by decide) ?_
  refine v_bipush X dX12_init_670 (by decide) ?_
  refine v_bipush X dX12_init_672 (by decide) ?_
  refine v_bipush X dX12_init_674 (by decide) ?_
  refine v_bipush X dX12_init_676 (by decide) ?_
  refine v_iconst X dX12_init_678 ?_
  refine v_iconst X dX12_init_679 ?_
  refine v_iconst X dX12_init_680 ?_
  refine v_callS X [.int (iz 115), .int (iz 97), .int (iz 109), .int (iz 101), .int (iz 0), .int (iz 0), .int (iz 0)] hRm (c_X12_word _ _ _ 115 (by decide) 97 (by decide) 109 (by decide) 101 (by decide) 0 (by decide) 0 (by decide) 0 (by decide)) (gS bw_10_4 bw_10_5 bw_1_5 bw_10_6) rfl ddX12_word (by decide) (Nat.le_of_ble_eq_true rfl) dX12_init_681 (k_pL (fun r319 e320 => ?_))
  subst e320
  refine v_last X (Nat.le_of_ble_eq_true rfl) (Nul.at hz318 rfl rfl) (by decide) (by decide) dX12_init_684 ?_
  have hz321 := hz318.umL 60 9 (wd7 115 97 109 101 0 0 0) rfl
  refine v_aload_n X 0 dX12_init_685 rfl rfl ?_
  refine gt_X12_keys X iwX12 (Nat.le_of_ble_eq_true rfl) (Nul.k hz321 rfl rfl) (List.mem_cons_of_mem _ bw_7_21) dX12_init_686 60 rfl ?_
  refine v_bipush X dX12_init_689 (by decide) ?_
  refine v_bipush X dX12_init_691 (by decide) ?_
  refine v_bipush X dX12_init_693 (by decide) ?_
  refine v_bipush X dX12_init_695 (by decide) ?_
  refine v_bipush X dX12_init_697 (by decide) ?_
  refine v_iconst X dX12_init_699 ?_
  refine v_iconst X dX12_init_700 ?_
  refine v_iconst X dX12_init_701 ?_
  refine v_callS X [.int (iz 98), .int (iz 97), .int (iz 115), .int (iz 101), .int (iz 0), .int (iz 0), .int (iz 0)] hRm (c_X12_word _ _ _ 98 (by decide) 97 (by decide) 115 (by decide) 101 (by decide) 0 (by decide) 0 (by decide) 0 (by decide)) (gS bw_10_4 bw_10_5 bw_1_5 bw_10_6) rfl ddX12_word (by decide) (Nat.le_of_ble_eq_true rfl) dX12_init_702 (k_pL (fun r322 e323 => ?_))
  subst e323
  refine v_last X (Nat.le_of_ble_eq_true rfl) (Nul.at hz321 rfl rfl) (by decide) (by decide) dX12_init_705 ?_
  have hz324 := hz321.umL 60 10 (wd7 98 97 115 101 0 0 0) rfl
  refine v_aload_n X 0 dX12_init_706 rfl rfl ?_
  refine gt_X12_keys X iwX12 (Nat.le_of_ble_eq_true rfl) (Nul.k hz324 rfl rfl) (List.mem_cons_of_mem _ bw_7_21) dX12_init_707 60 rfl ?_
  refine v_bipush X dX12_init_710 (by decide) ?_
  refine v_bipush X dX12_init_712 (by decide) ?_
  refine v_bipush X dX12_init_714 (by decide) ?_
  refine v_bipush X dX12_init_716 (by decide) ?_
  refine v_bipush X dX12_init_718 (by decide) ?_
  refine v_bipush X dX12_init_720 (by decide) ?_
  refine v_bipush X dX12_init_722 (by decide) ?_
  refine v_iconst X dX12_init_724 ?_
  refine v_callS X [.int (iz 109), .int (iz 105), .int (iz 110), .int (iz 117), .int (iz 116), .int (iz 101), .int (iz 0)] hRm (c_X12_word _ _ _ 109 (by decide) 105 (by decide) 110 (by decide) 117 (by decide) 116 (by decide) 101 (by decide) 0 (by decide)) (gS bw_10_4 bw_10_5 bw_1_5 bw_10_6) rfl ddX12_word (by decide) (Nat.le_of_ble_eq_true rfl) dX12_init_725 (k_pL (fun r325 e326 => ?_))
  subst e326
  refine v_last X (Nat.le_of_ble_eq_true rfl) (Nul.at hz324 rfl rfl) (by decide) (by decide) dX12_init_728 ?_
  have hz327 := hz324.umL 60 11 (wd7 109 105 110 117 116 101 0) rfl
  refine v_aload_n X 0 dX12_init_729 rfl rfl ?_
  refine gt_X12_keys X iwX12 (Nat.le_of_ble_eq_true rfl) (Nul.k hz327 rfl rfl) (List.mem_cons_of_mem _ bw_7_21) dX12_init_730 60 rfl ?_
  refine v_bipush X dX12_init_733 (by decide) ?_
  refine v_bipush X dX12_init_735 (by decide) ?_
  refine v_bipush X dX12_init_737 (by decide) ?_
  refine v_bipush X dX12_init_739 (by decide) ?_
  refine v_bipush X dX12_init_741 (by decide) ?_
  refine v_iconst X dX12_init_743 ?_
  refine v_iconst X dX12_init_744 ?_
  refine v_iconst X dX12_init_745 ?_
  refine v_callS X [.int (iz 119), .int (iz 105), .int (iz 110), .int (iz 100), .int (iz 0), .int (iz 0), .int (iz 0)] hRm (c_X12_word _ _ _ 119 (by decide) 105 (by decide) 110 (by decide) 100 (by decide) 0 (by decide) 0 (by decide) 0 (by decide)) (gS bw_10_4 bw_10_5 bw_1_5 bw_10_6) rfl ddX12_word (by decide) (Nat.le_of_ble_eq_true rfl) dX12_init_746 (k_pL (fun r328 e329 => ?_))
  subst e329
  refine v_last X (Nat.le_of_ble_eq_true rfl) (Nul.at hz327 rfl rfl) (by decide) (by decide) dX12_init_749 ?_
  have hz330 := hz327.umL 60 12 (wd7 119 105 110 100 0 0 0) rfl
  refine v_aload_n X 0 dX12_init_750 rfl rfl ?_
  refine gt_X12_keys X iwX12 (Nat.le_of_ble_eq_true rfl) (Nul.k hz330 rfl rfl) (List.mem_cons_of_mem _ bw_7_21) dX12_init_751 60 rfl ?_
  refine v_bipush X dX12_init_754 (by decide) ?_
  refine v_bipush X dX12_init_756 (by decide) ?_
  refine v_bipush X dX12_init_758 (by decide) ?_
  refine v_bipush X dX12_init_760 (by decide) ?_
  refine v_bipush X dX12_init_762 (by decide) ?_
  refine v_bipush X dX12_init_764 (by decide) ?_
  refine v_bipush X dX12_init_766 (by decide) ?_
  refine v_iconst X dX12_init_768 ?_
  refine v_callS X [.int (iz 108), .int (iz 101), .int (iz 110), .int (iz 103), .int (iz 116), .int (iz 104), .int (iz 0)] hRm (c_X12_word _ _ _ 108 (by decide) 101 (by decide) 110 (by decide) 103 (by decide) 116 (by decide) 104 (by decide) 0 (by decide)) (gS bw_10_4 bw_10_5 bw_1_5 bw_10_6) rfl ddX12_word (by decide) (Nat.le_of_ble_eq_true rfl) dX12_init_769 (k_pL (fun r331 e332 => ?_))
  subst e332
  refine v_last X (Nat.le_of_ble_eq_true rfl) (Nul.at hz330 rfl rfl) (by decide) (by decide) dX12_init_772 ?_
  have hz333 := hz330.umL 60 13 (wd7 108 101 110 103 116 104 0) rfl
  refine v_aload_n X 0 dX12_init_773 rfl rfl ?_
  refine gt_X12_keys X iwX12 (Nat.le_of_ble_eq_true rfl) (Nul.k hz333 rfl rfl) (List.mem_cons_of_mem _ bw_7_21) dX12_init_774 60 rfl ?_
  refine v_bipush X dX12_init_777 (by decide) ?_
  refine v_bipush X dX12_init_779 (by decide) ?_
  refine v_bipush X dX12_init_781 (by decide) ?_
  refine v_bipush X dX12_init_783 (by decide) ?_
  refine v_bipush X dX12_init_785 (by decide) ?_
  refine v_bipush X dX12_init_787 (by decide) ?_
  refine v_iconst X dX12_init_789 ?_
  refine v_iconst X dX12_init_790 ?_
  refine v_callS X [.int (iz 119), .int (iz 111), .int (iz 114), .int (iz 116), .int (iz 104), .int (iz 0), .int (iz 0)] hRm (c_X12_word _ _ _ 119 (by decide) 111 (by decide) 114 (by decide) 116 (by decide) 104 (by decide) 0 (by decide) 0 (by decide)) (gS bw_10_4 bw_10_5 bw_1_5 bw_10_6) rfl ddX12_word (by decide) (Nat.le_of_ble_eq_true rfl) dX12_init_791 (k_pL (fun r334 e335 => ?_))
  subst e335
  refine v_last X (Nat.le_of_ble_eq_true rfl) (Nul.at hz333 rfl rfl) (by decide) (by decide) dX12_init_794 ?_
  have hz336 := hz333.umL 60 14 (wd7 119 111 114 116 104 0 0) rfl
  refine v_aload_n X 0 dX12_init_795 rfl rfl ?_
  refine v_bipush X dX12_init_796 (by decide) ?_
  refine pt_X12_line X iwX12 (Nat.le_of_ble_eq_true rfl) (Nul.k hz336 rfl rfl) (List.mem_cons_of_mem _ bw_10_2) ⟨by decide, by decide⟩ dX12_init_798 ?_
  have hz337 := hz336.um 53 52 100 rfl
  refine v_aload_n X 0 dX12_init_801 rfl rfl ?_
  refine v_iconst X dX12_init_802 ?_
  refine pt_X12_falls X iwX12 (Nat.le_of_ble_eq_true rfl) (Nul.k hz337 rfl rfl) (List.mem_cons_of_mem _ bw_10_3) ⟨by decide, by decide⟩ dX12_init_803 ?_
  have hz338 := hz337.um 53 49 (-1) rfl
  refine hret _ _ _ _ _ _ _ _ _ _ _ none dX12_init_806 ⟨rfl, rfl⟩ (by decide) (by decide) (fun hmok => ?_)
  exact ⟨rfl, rfl, rfl, hac289, rfl, rfl, rfl, hz338⟩

