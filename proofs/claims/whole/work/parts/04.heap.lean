/-! HEAP ROWS, CONTRACTS, CALLS -/
theorem cellE_obj {cy : Nat → ClassId} {sh : MS} {ad : Nat → Nat} {M L : MI} {R : MR} {i c : Nat} (h : (sh i).1 = c) (hc : c < 13) : cellE cy sh ad M L R i = .inr (c, flds ad M R i c) := by
  unfold cellE
  rw [h, if_pos hc]
theorem cellE_int {cy : Nat → ClassId} {sh : MS} {ad : Nat → Nat} {M L : MI} {R : MR} {i c n : Nat} (h : sh i = (c, n)) (hc : c = 13 ∨ c = 14 ∨ c = 16) : cellE cy sh ad M L R i = .inl (cy c, n, .inl (fun k => iz (M i (k : Int)))) := by
  unfold cellE
  rw [h]
  rcases hc with rfl | rfl | rfl <;> rfl
theorem cellE_long {cy : Nat → ClassId} {sh : MS} {ad : Nat → Nat} {M L : MI} {R : MR} {i n : Nat} (h : sh i = (15, n)) : cellE cy sh ad M L R i = .inl (cy 15, n, .inr (.inl (fun k => lz (L i (k : Int))))) := by
  unfold cellE
  rw [h]
  rfl
theorem cellE_ref {cy : Nat → ClassId} {sh : MS} {ad : Nat → Nat} {M L : MI} {R : MR} {i c n : Nat} (h : sh i = (c, n)) (hc : c = 17 ∨ c = 18) : cellE cy sh ad M L R i = .inl (cy c, n, .inr (.inr (.inr (.inr (fun k => (R i (k : Int)).map ad))))) := by
  unfold cellE
  rw [h]
  rcases hc with rfl | rfl <;> rfl
theorem flds_get {ad : Nat → Nat} {M : MI} {R : MR} {i c k n : Nat} (hn : nF c = n) (hk : k < n) : (flds ad M R i c)[k]? = some (fldV ad M R i c k) := by
  subst hn
  simp [flds, hk]
theorem flds_len {ad : Nat → Nat} {M : MI} {R : MR} {i c : Nat} : (flds ad M R i c).length = nF c := by simp [flds]
theorem fldV_i {ad : Nat → Nat} {M : MI} {R : MR} {i c k : Nat} (h : rfF c k = false) : fldV ad M R i c k = .int (iz (M i (k : Int))) := by simp [fldV, h]
theorem fldV_r {ad : Nat → Nat} {M : MI} {R : MR} {i c k : Nat} (h : rfF c k = true) : fldV ad M R i c k = va_rf ((R i (k : Int)).map ad) := by simp [fldV, h]
theorem cellE_congr {cy : Nat → ClassId} {sh sh' : MS} {ad ad' : Nat → Nat} {M L M' L' : MI} {R R' : MR} {i : Nat} (h0 : sh' i = sh i) (h1 : M' i = M i) (h2 : L' i = L i) (h3 : ∀ z, (R' i z).map ad' = (R i z).map ad) : cellE cy sh' ad' M' L' R' i = cellE cy sh ad M L R i := by
  have hf : ∀ c, flds ad' M' R' i c = flds ad M R i c := by
    intro c
    unfold flds
    apply List.map_congr_left
    intro k _
    unfold fldV
    rw [h1, h3]
  unfold cellE
  rw [h0, h1, h2]
  simp only [hf, h3]
theorem flds_setI {ad : Nat → Nat} {M : MI} {R : MR} {i c k : Nat} {z : Int} (h : rfF c k = false) (hk : k < nF c) : flds ad (mu M i (k : Int) z) R i c = (flds ad M R i c).set k (.int (iz z)) := by
  apply List.ext_getElem?
  intro j
  by_cases hj : j = k
  · subst hj
    rw [List.getElem?_set_self (by rw [flds_len]; exact hk), flds_get rfl hk, fldV_i h, mu_s]
  · rw [List.getElem?_set_ne (Ne.symm hj)]
    by_cases hl : j < nF c
    · rw [flds_get rfl hl, flds_get rfl hl]
      unfold fldV
      rw [mu_z _ _ _ (by omega)]
    · rw [List.getElem?_eq_none (by rw [flds_len]; omega), List.getElem?_eq_none (by rw [flds_len]; omega)]
theorem flds_setR {ad : Nat → Nat} {M : MI} {R : MR} {i c k : Nat} {z : Option Nat} (h : rfF c k = true) (hk : k < nF c) : flds ad M (mu R i (k : Int) z) i c = (flds ad M R i c).set k (va_rf (z.map ad)) := by
  apply List.ext_getElem?
  intro j
  by_cases hj : j = k
  · subst hj
    rw [List.getElem?_set_self (by rw [flds_len]; exact hk), flds_get rfl hk, fldV_r h, mu_s]
  · rw [List.getElem?_set_ne (Ne.symm hj)]
    by_cases hl : j < nF c
    · rw [flds_get rfl hl, flds_get rfl hl]
      unfold fldV
      rw [mu_z _ _ _ (by omega)]
    · rw [List.getElem?_eq_none (by rw [flds_len]; omega), List.getElem?_eq_none (by rw [flds_len]; omega)]
theorem nar_z {z : Int} (h : 0 ≤ z ∧ z < 2) : narrow .boolean (.int (iz z)) = .int (iz z) := by
  rcases (show z = 0 ∨ z = 1 by omega) with rfl | rfl <;> rfl
theorem nar_z2 {z : Int} (h : 0 ≤ z ∧ z < 2) : vp_nar .boolean (iz z) = iz z := by
  rcases (show z = 0 ∨ z = 1 by omega) with rfl | rfl <;> rfl
theorem iz_byte {z : Int} (h : -128 ≤ z ∧ z < 128) : (iz z).toInt8.toInt32 = iz z := by
  apply Int32.toInt_inj.1
  rw [Int8.toInt_toInt32, Int32.toInt_toInt8, iz_toInt ⟨by omega, by omega⟩, Int.bmod_eq_of_le (by omega) (by omega)]
theorem nar_b {z : Int} (h : -128 ≤ z ∧ z < 128) : vp_nar .byte (iz z) = iz z := by
  rw [vp_nar_byte, iz_byte h]
theorem iz_ofNat (n : Nat) : Int32.ofNat n = iz (n : Int) := by
  unfold iz
  rw [Int32.ofInt_eq_ofNat]
theorem upd_iz {f : Int → Int} {z w : Int} (h : 0 ≤ z) : upd (fun k : Nat => iz (f (k : Int))) z.toNat (iz w) = fun k : Nat => iz ((fun b => if b = z then w else f b) (k : Int)) := by
  funext k
  unfold upd
  by_cases e : k = z.toNat
  · subst e
    rw [if_pos rfl]
    have : ((z.toNat : Nat) : Int) = z := by omega
    simp [this]
  · rw [if_neg e]
    have : ¬ ((k : Int) = z) := by omega
    simp [this]
theorem mok_mu {N : Nat} {sh : MS} {M : MI} {R : MR} {i : Nat} {z w : Int} (h : mok N sh M R) (h1 : inR w) (h2 : (sh i).1 = 13 → -128 ≤ w ∧ w < 128) (h3 : (sh i).1 = 16 → 0 ≤ w ∧ w < 2) : mok N sh (mu M i z w) R := by
  obtain ⟨a, b, c, d, e⟩ := h
  refine ⟨fun j y => ?_, fun j y q => ?_, fun j y q => ?_, d, e⟩
  · by_cases hj : j = i
    · subst hj
      by_cases hy : y = z
      · subst hy; rw [mu_s]; exact h1
      · rw [mu_z _ _ _ hy]; exact a j y
    · rw [mu_i _ _ _ hj]; exact a j y
  · by_cases hj : j = i
    · subst hj
      by_cases hy : y = z
      · subst hy; rw [mu_s]; exact h2 q
      · rw [mu_z _ _ _ hy]; exact b j y q
    · rw [mu_i _ _ _ hj]; exact b j y q
  · by_cases hj : j = i
    · subst hj
      by_cases hy : y = z
      · subst hy; rw [mu_s]; exact h3 q
      · rw [mu_z _ _ _ hy]; exact c j y q
    · rw [mu_i _ _ _ hj]; exact c j y q
theorem mok_muR {N : Nat} {sh : MS} {M : MI} {R : MR} {i : Nat} {z : Int} {w : Option Nat} (h : mok N sh M R) (h1 : ∀ j, w = some j → j < N) : mok N sh M (mu R i z w) := by
  obtain ⟨a, b, c, d, e⟩ := h
  refine ⟨a, b, c, fun j y k q => ?_, e⟩
  by_cases hj : j = i
  · subst hj
    by_cases hy : y = z
    · subst hy; rw [mu_s] at q; exact h1 k q
    · rw [mu_z _ _ _ hy] at q; exact d j y k q
  · rw [mu_i _ _ _ hj] at q; exact d j y k q

section RowsH
variable {K : VK} {cc : ByteArray} {nL cells slots N : Nat} {Ts : List Cond} {own : String} {sh : MS} {ad : Nat → Nat} {M L : MI} {R : MR} {lv lv' : List (Nat × Value)} {st : List Value} {pc : Nat}
theorem v_getI (X : VX K cc nL Ts own) {index i ci n : Nat} {C : String} {T : u_T} (k : Nat) (hin : ∀ w ∈ u_ws C T n, w ∈ Ts) (hc : vwCl[ci]? = some (C, T, n)) (hN : i < N) (hs : (sh i).1 = ci) (hk : k < n) (hf : nF ci = n ∧ ci < 13 ∧ rfF ci k = false) (hlink : Cond.fieldLink own index (T k).1 (T k).2.1 (T k).2.2.1 ∈ Ts) (hd : decode cc pc = .ok (.getfield index, 3)) (z : Int) (hz : M i (k : Int) = z) (kk : inR z → V K nL cells slots N sh ad M L R lv (.int (iz z) :: st) (pc + 3)) : V K nL cells slots N sh ad M L R lv (.ref (ad i) :: st) pc := fun H locs ls hW hS hL =>
  va_get (D := K.2.2.2.2.1) (ci := ci) (v := .int (iz z)) (C := C) (T := T) (N := n) X.1 X.2.1 X.2.2.2.2.1 hin X.2.2.2.1 X.2.2.2.2.2.1 hW.1 i ((wl_get hN).trans (by rw [cellE_obj hs hf.2.1])) hc k hk (X.2.2.2.2.1 _ hlink) (fun _ h => h) (by rw [flds_get hf.1 hk, fldV_i hf.2.2, hz]) hd (kk (by rw [← hz]; exact hW.2.2.1 i _) H locs ls hW hS hL)
theorem v_getR (X : VX K cc nL Ts own) {index i ci n : Nat} {C : String} {T : u_T} (k : Nat) (hin : ∀ w ∈ u_ws C T n, w ∈ Ts) (hc : vwCl[ci]? = some (C, T, n)) (hN : i < N) (hs : (sh i).1 = ci) (hk : k < n) (hf : nF ci = n ∧ ci < 13 ∧ rfF ci k = true) (hlink : Cond.fieldLink own index (T k).1 (T k).2.1 (T k).2.2.1 ∈ Ts) (hd : decode cc pc = .ok (.getfield index, 3)) (j : Nat) (hz : R i (k : Int) = some j) (kk : V K nL cells slots N sh ad M L R lv (.ref (ad j) :: st) (pc + 3)) : V K nL cells slots N sh ad M L R lv (.ref (ad i) :: st) pc := fun H locs ls hW hS hL =>
  va_get (D := K.2.2.2.2.1) (ci := ci) (v := .ref (ad j)) (C := C) (T := T) (N := n) X.1 X.2.1 X.2.2.2.2.1 hin X.2.2.2.1 X.2.2.2.2.2.1 hW.1 i ((wl_get hN).trans (by rw [cellE_obj hs hf.2.1])) hc k hk (X.2.2.2.2.1 _ hlink) (fun _ h => h) (by rw [flds_get hf.1 hk, fldV_r hf.2.2, hz]; rfl) hd (kk H locs ls hW hS hL)
theorem v_putI (X : VX K cc nL Ts own) {index i ci n : Nat} {C : String} {T : u_T} (k : Nat) (hin : ∀ w ∈ u_ws C T n, w ∈ Ts) (hc : vwCl[ci]? = some (C, T, n)) (hN : i < N) (hs : (sh i).1 = ci) (hk : k < n) (ty0 : Nat → FieldType) (hty : ∀ k, k < n → parseFieldDescriptor (T k).2.2.1 = some (ty0 k)) (hnm : ∀ a, a < n → ∀ b, b < n → a ≠ b → (T a).2.1 ≠ (T b).2.1) (hf : nF ci = n ∧ ci < 13 ∧ rfF ci k = false) (hlink : Cond.fieldLink own index (T k).1 (T k).2.1 (T k).2.2.1 ∈ Ts) (hfin : (T k).2.2.2 = false) (z : Int) (hty1 : parseFieldDescriptor (T k).2.2.1 = some .int) (hz : inR z) (hd : decode cc pc = .ok (.putfield index, 3)) (kk : V K nL cells slots N sh ad (mu M i (k : Int) z) L R lv st (pc + 3)) : V K nL cells slots N sh ad M L R lv (.int (iz z) :: .ref (ad i) :: st) pc := fun H locs ls hW hS hL =>
  va_put (D := K.2.2.2.2.1) (ci := ci) (v := .int (iz z)) (ty := .int) (C := C) (T := T) (N := n) X.1 X.2.1 X.2.2.2.2.1 hin ty0 hty hnm X.2.2.2.1 X.2.2.2.2.2.1 hW.1 hW.2.1 hS i ((wl_get hN).trans (by rw [cellE_obj hs hf.2.1])) hc k hk (X.2.2.2.2.1 _ hlink) (fun _ h => h) hfin hty1 rfl rfl (by rw [flds_len, hf.1]; exact hk) hd (fun H1 locs1 hP1 hD1 hS1 => by
    have e : (wl N ad (cellE K.2.2.2.2.2 sh ad M L R)).set i (ad i, .inr (ci, (flds ad M R i ci).set k (.int (iz z)))) = wl N ad (cellE K.2.2.2.2.2 sh ad (mu M i (k : Int) z) L R) := wl_set (by rw [cellE_obj hs hf.2.1, flds_setI hf.2.2 (by rw [hf.1]; exact hk)]) (fun j hj => cellE_congr rfl (mu_i _ _ _ hj) rfl (fun _ => rfl))
    rw [e] at hP1 hD1
    exact kk H1 locs1 ls ⟨hP1, hD1, mok_mu hW.2.2 hz (fun q => by have := hf.2.1; omega) (fun q => by have := hf.2.1; omega)⟩ hS1 hL)
theorem v_putZ (X : VX K cc nL Ts own) {index i ci n : Nat} {C : String} {T : u_T} (k : Nat) (hin : ∀ w ∈ u_ws C T n, w ∈ Ts) (hc : vwCl[ci]? = some (C, T, n)) (hN : i < N) (hs : (sh i).1 = ci) (hk : k < n) (ty0 : Nat → FieldType) (hty : ∀ k, k < n → parseFieldDescriptor (T k).2.2.1 = some (ty0 k)) (hnm : ∀ a, a < n → ∀ b, b < n → a ≠ b → (T a).2.1 ≠ (T b).2.1) (hf : nF ci = n ∧ ci < 13 ∧ rfF ci k = false) (hlink : Cond.fieldLink own index (T k).1 (T k).2.1 (T k).2.2.1 ∈ Ts) (hfin : (T k).2.2.2 = false) (z : Int) (hty1 : parseFieldDescriptor (T k).2.2.1 = some .boolean) (hz : 0 ≤ z ∧ z < 2) (hd : decode cc pc = .ok (.putfield index, 3)) (kk : V K nL cells slots N sh ad (mu M i (k : Int) z) L R lv st (pc + 3)) : V K nL cells slots N sh ad M L R lv (.int (iz z) :: .ref (ad i) :: st) pc := fun H locs ls hW hS hL =>
  va_put (D := K.2.2.2.2.1) (ci := ci) (v := .int (iz z)) (ty := .boolean) (C := C) (T := T) (N := n) X.1 X.2.1 X.2.2.2.2.1 hin ty0 hty hnm X.2.2.2.1 X.2.2.2.2.2.1 hW.1 hW.2.1 hS i ((wl_get hN).trans (by rw [cellE_obj hs hf.2.1])) hc k hk (X.2.2.2.2.1 _ hlink) (fun _ h => h) hfin hty1 (nar_z hz) (by rcases (show z = 0 ∨ z = 1 by omega) with rfl | rfl <;> rfl) (by rw [flds_len, hf.1]; exact hk) hd (fun H1 locs1 hP1 hD1 hS1 => by
    have e : (wl N ad (cellE K.2.2.2.2.2 sh ad M L R)).set i (ad i, .inr (ci, (flds ad M R i ci).set k (.int (iz z)))) = wl N ad (cellE K.2.2.2.2.2 sh ad (mu M i (k : Int) z) L R) := wl_set (by rw [cellE_obj hs hf.2.1, flds_setI hf.2.2 (by rw [hf.1]; exact hk)]) (fun j hj => cellE_congr rfl (mu_i _ _ _ hj) rfl (fun _ => rfl))
    rw [e] at hP1 hD1
    exact kk H1 locs1 ls ⟨hP1, hD1, mok_mu hW.2.2 ⟨by omega, by omega⟩ (fun q => by have := hf.2.1; omega) (fun q => by have := hf.2.1; omega)⟩ hS1 hL)
theorem v_putR (X : VX K cc nL Ts own) {index i ci n : Nat} {C : String} {T : u_T} (k : Nat) (hin : ∀ w ∈ u_ws C T n, w ∈ Ts) (hc : vwCl[ci]? = some (C, T, n)) (hN : i < N) (hs : (sh i).1 = ci) (hk : k < n) (ty0 : Nat → FieldType) (hty : ∀ k, k < n → parseFieldDescriptor (T k).2.2.1 = some (ty0 k)) (hnm : ∀ a, a < n → ∀ b, b < n → a ≠ b → (T a).2.1 ≠ (T b).2.1) (hf : nF ci = n ∧ ci < 13 ∧ rfF ci k = true) (hlink : Cond.fieldLink own index (T k).1 (T k).2.1 (T k).2.2.1 ∈ Ts) (hfin : (T k).2.2.2 = false) {ty : FieldType} (j : Nat) (hj : j < N) (hty1 : parseFieldDescriptor (T k).2.2.1 = some ty) (hn : ∀ a : Nat, narrow ty (.ref a) = .ref a ∧ fits ty (.ref a) = true) (hd : decode cc pc = .ok (.putfield index, 3)) (kk : V K nL cells slots N sh ad M L (mu R i (k : Int) (some j)) lv st (pc + 3)) : V K nL cells slots N sh ad M L R lv (.ref (ad j) :: .ref (ad i) :: st) pc := fun H locs ls hW hS hL =>
  va_put (D := K.2.2.2.2.1) (ci := ci) (v := .ref (ad j)) (ty := ty) (C := C) (T := T) (N := n) X.1 X.2.1 X.2.2.2.2.1 hin ty0 hty hnm X.2.2.2.1 X.2.2.2.2.2.1 hW.1 hW.2.1 hS i ((wl_get hN).trans (by rw [cellE_obj hs hf.2.1])) hc k hk (X.2.2.2.2.1 _ hlink) (fun _ h => h) hfin hty1 (hn _).1 (hn _).2 (by rw [flds_len, hf.1]; exact hk) hd (fun H1 locs1 hP1 hD1 hS1 => by
    have e : (wl N ad (cellE K.2.2.2.2.2 sh ad M L R)).set i (ad i, .inr (ci, (flds ad M R i ci).set k (.ref (ad j)))) = wl N ad (cellE K.2.2.2.2.2 sh ad M L (mu R i (k : Int) (some j))) := wl_set (by rw [cellE_obj hs hf.2.1, flds_setR hf.2.2 (by rw [hf.1]; exact hk)]; rfl) (fun j hj => cellE_congr rfl rfl rfl (fun _ => by rw [mu_i _ _ _ hj]))
    rw [e] at hP1 hD1
    exact kk H1 locs1 ls ⟨hP1, hD1, mok_muR hW.2.2 (fun q e => by cases e; exact hj)⟩ hS1 hL)
theorem v_putIF (X : VX K cc nL Ts own) {index i ci n : Nat} {C : String} {T : u_T} (k : Nat) (hin : ∀ w ∈ u_ws C T n, w ∈ Ts) (hc : vwCl[ci]? = some (C, T, n)) (hN : i < N) (hs : (sh i).1 = ci) (hk : k < n) (ty0 : Nat → FieldType) (hty : ∀ k, k < n → parseFieldDescriptor (T k).2.2.1 = some (ty0 k)) (hnm : ∀ a, a < n → ∀ b, b < n → a ≠ b → (T a).2.1 ≠ (T b).2.1) (hf : nF ci = n ∧ ci < 13 ∧ rfF ci k = false) (hlink : Cond.fieldLink own index (T k).1 (T k).2.1 (T k).2.2.1 ∈ Ts) (hfin : (T k).2.2.2 = true) (hini : K.2.1.2.2.2.1.name = "<init>") (hdecl : (T k).1 = own) (z : Int) (hty1 : parseFieldDescriptor (T k).2.2.1 = some .int) (hz : inR z) (hd : decode cc pc = .ok (.putfield index, 3)) (kk : V K nL cells slots N sh ad (mu M i (k : Int) z) L R lv st (pc + 3)) : V K nL cells slots N sh ad M L R lv (.int (iz z) :: .ref (ad i) :: st) pc := fun H locs ls hW hS hL =>
  va_putF (D := K.2.2.2.2.1) (ci := ci) (v := .int (iz z)) (ty := .int) (C := C) (T := T) (N := n) X.1 X.2.1 X.2.2.2.2.1 hin ty0 hty hnm X.2.2.2.1 X.2.2.2.2.2.1 hW.1 hW.2.1 hS i ((wl_get hN).trans (by rw [cellE_obj hs hf.2.1])) hc k hk (X.2.2.2.2.1 _ hlink) (fun _ h => h) hfin hini hdecl hty1 rfl rfl (by rw [flds_len, hf.1]; exact hk) hd (fun H1 locs1 hP1 hD1 hS1 => by
    have e : (wl N ad (cellE K.2.2.2.2.2 sh ad M L R)).set i (ad i, .inr (ci, (flds ad M R i ci).set k (.int (iz z)))) = wl N ad (cellE K.2.2.2.2.2 sh ad (mu M i (k : Int) z) L R) := wl_set (by rw [cellE_obj hs hf.2.1, flds_setI hf.2.2 (by rw [hf.1]; exact hk)]) (fun j hj => cellE_congr rfl (mu_i _ _ _ hj) rfl (fun _ => rfl))
    rw [e] at hP1 hD1
    exact kk H1 locs1 ls ⟨hP1, hD1, mok_mu hW.2.2 hz (fun q => by have := hf.2.1; omega) (fun q => by have := hf.2.1; omega)⟩ hS1 hL)
theorem v_putZF (X : VX K cc nL Ts own) {index i ci n : Nat} {C : String} {T : u_T} (k : Nat) (hin : ∀ w ∈ u_ws C T n, w ∈ Ts) (hc : vwCl[ci]? = some (C, T, n)) (hN : i < N) (hs : (sh i).1 = ci) (hk : k < n) (ty0 : Nat → FieldType) (hty : ∀ k, k < n → parseFieldDescriptor (T k).2.2.1 = some (ty0 k)) (hnm : ∀ a, a < n → ∀ b, b < n → a ≠ b → (T a).2.1 ≠ (T b).2.1) (hf : nF ci = n ∧ ci < 13 ∧ rfF ci k = false) (hlink : Cond.fieldLink own index (T k).1 (T k).2.1 (T k).2.2.1 ∈ Ts) (hfin : (T k).2.2.2 = true) (hini : K.2.1.2.2.2.1.name = "<init>") (hdecl : (T k).1 = own) (z : Int) (hty1 : parseFieldDescriptor (T k).2.2.1 = some .boolean) (hz : 0 ≤ z ∧ z < 2) (hd : decode cc pc = .ok (.putfield index, 3)) (kk : V K nL cells slots N sh ad (mu M i (k : Int) z) L R lv st (pc + 3)) : V K nL cells slots N sh ad M L R lv (.int (iz z) :: .ref (ad i) :: st) pc := fun H locs ls hW hS hL =>
  va_putF (D := K.2.2.2.2.1) (ci := ci) (v := .int (iz z)) (ty := .boolean) (C := C) (T := T) (N := n) X.1 X.2.1 X.2.2.2.2.1 hin ty0 hty hnm X.2.2.2.1 X.2.2.2.2.2.1 hW.1 hW.2.1 hS i ((wl_get hN).trans (by rw [cellE_obj hs hf.2.1])) hc k hk (X.2.2.2.2.1 _ hlink) (fun _ h => h) hfin hini hdecl hty1 (nar_z hz) (by rcases (show z = 0 ∨ z = 1 by omega) with rfl | rfl <;> rfl) (by rw [flds_len, hf.1]; exact hk) hd (fun H1 locs1 hP1 hD1 hS1 => by
    have e : (wl N ad (cellE K.2.2.2.2.2 sh ad M L R)).set i (ad i, .inr (ci, (flds ad M R i ci).set k (.int (iz z)))) = wl N ad (cellE K.2.2.2.2.2 sh ad (mu M i (k : Int) z) L R) := wl_set (by rw [cellE_obj hs hf.2.1, flds_setI hf.2.2 (by rw [hf.1]; exact hk)]) (fun j hj => cellE_congr rfl (mu_i _ _ _ hj) rfl (fun _ => rfl))
    rw [e] at hP1 hD1
    exact kk H1 locs1 ls ⟨hP1, hD1, mok_mu hW.2.2 ⟨by omega, by omega⟩ (fun q => by have := hf.2.1; omega) (fun q => by have := hf.2.1; omega)⟩ hS1 hL)
theorem v_putRF (X : VX K cc nL Ts own) {index i ci n : Nat} {C : String} {T : u_T} (k : Nat) (hin : ∀ w ∈ u_ws C T n, w ∈ Ts) (hc : vwCl[ci]? = some (C, T, n)) (hN : i < N) (hs : (sh i).1 = ci) (hk : k < n) (ty0 : Nat → FieldType) (hty : ∀ k, k < n → parseFieldDescriptor (T k).2.2.1 = some (ty0 k)) (hnm : ∀ a, a < n → ∀ b, b < n → a ≠ b → (T a).2.1 ≠ (T b).2.1) (hf : nF ci = n ∧ ci < 13 ∧ rfF ci k = true) (hlink : Cond.fieldLink own index (T k).1 (T k).2.1 (T k).2.2.1 ∈ Ts) (hfin : (T k).2.2.2 = true) (hini : K.2.1.2.2.2.1.name = "<init>") (hdecl : (T k).1 = own) {ty : FieldType} (j : Nat) (hj : j < N) (hty1 : parseFieldDescriptor (T k).2.2.1 = some ty) (hn : ∀ a : Nat, narrow ty (.ref a) = .ref a ∧ fits ty (.ref a) = true) (hd : decode cc pc = .ok (.putfield index, 3)) (kk : V K nL cells slots N sh ad M L (mu R i (k : Int) (some j)) lv st (pc + 3)) : V K nL cells slots N sh ad M L R lv (.ref (ad j) :: .ref (ad i) :: st) pc := fun H locs ls hW hS hL =>
  va_putF (D := K.2.2.2.2.1) (ci := ci) (v := .ref (ad j)) (ty := ty) (C := C) (T := T) (N := n) X.1 X.2.1 X.2.2.2.2.1 hin ty0 hty hnm X.2.2.2.1 X.2.2.2.2.2.1 hW.1 hW.2.1 hS i ((wl_get hN).trans (by rw [cellE_obj hs hf.2.1])) hc k hk (X.2.2.2.2.1 _ hlink) (fun _ h => h) hfin hini hdecl hty1 (hn _).1 (hn _).2 (by rw [flds_len, hf.1]; exact hk) hd (fun H1 locs1 hP1 hD1 hS1 => by
    have e : (wl N ad (cellE K.2.2.2.2.2 sh ad M L R)).set i (ad i, .inr (ci, (flds ad M R i ci).set k (.ref (ad j)))) = wl N ad (cellE K.2.2.2.2.2 sh ad M L (mu R i (k : Int) (some j))) := wl_set (by rw [cellE_obj hs hf.2.1, flds_setR hf.2.2 (by rw [hf.1]; exact hk)]; rfl) (fun j hj => cellE_congr rfl rfl rfl (fun _ => by rw [mu_i _ _ _ hj]))
    rw [e] at hP1 hD1
    exact kk H1 locs1 ls ⟨hP1, hD1, mok_muR hW.2.2 (fun q e => by cases e; exact hj)⟩ hS1 hL)
theorem v_iald (X : VX K cc nL Ts own) {i n : Nat} {z : Int} (w : Int) (hN : i < N) (hs : sh i = (14, n)) (h0 : 0 ≤ z) (h1 : z < n) (hd : decode cc pc = .ok (.iaload, 1)) (hw : M i z = w) (kk : inR w → V K nL cells slots N sh ad M L R lv (.int (iz w) :: st) (pc + 1)) : V K nL cells slots N sh ad M L R lv (.int (iz z) :: .ref (ad i) :: st) pc := fun H locs ls hW hS hL => by
  have hn : (n : Int) ≤ 2147483647 := by have := hW.2.2.2.2.2.2 i; rw [hs] at this; have h2 : n ≤ 2147483647 := this; omega
  have hv : iz (M i (((iz z).toNatClampNeg : Nat) : Int)) = iz w := by
    rw [iz_nc ⟨by omega, by omega⟩, show ((z.toNat : Nat) : Int) = z by omega, hw]
  refine va_iald (D := K.2.2.2.2.1) X.1 X.2.1 X.2.2.2.2.2.1 hW.1 i 1 (cA := K.2.2.2.2.2 14) (n := n) (f := fun k => iz (M i (k : Int))) ((wl_get hN).trans (by rw [cellE_int hs (by decide)])) rfl (iz_in h0 h1 hn) hd ?_
  rw [hv]
  exact kk (by rw [← hw]; exact hW.2.2.1 i z) H locs ls hW hS hL
theorem v_iast (X : VX K cc nL Ts own) {i n : Nat} {z w : Int} (hN : i < N) (hs : sh i = (14, n)) (h0 : 0 ≤ z) (h1 : z < n) (hz : inR w) (hd : decode cc pc = .ok (.iastore, 1)) (kk : V K nL cells slots N sh ad (mu M i z w) L R lv st (pc + 1)) : V K nL cells slots N sh ad M L R lv (.int (iz w) :: .int (iz z) :: .ref (ad i) :: st) pc := fun H locs ls hW hS hL => by
  have hn : (n : Int) ≤ 2147483647 := by have := hW.2.2.2.2.2.2 i; rw [hs] at this; have h2 : n ≤ 2147483647 := this; omega
  refine va_iast (D := K.2.2.2.2.1) X.1 X.2.1 X.2.2.2.2.2.1 hW.1 hW.2.1 hS i 1 (cA := K.2.2.2.2.2 14) (n := n) (f := fun k => iz (M i (k : Int))) ((wl_get hN).trans (by rw [cellE_int hs (by decide)])) rfl (iz_in h0 h1 hn) hd (fun H1 locs1 hP1 hD1 hS1 => ?_)
  rw [iz_nc ⟨by omega, by omega⟩] at hP1 hD1
  rw [upd_iz h0] at hP1 hD1
  have e : (wl N ad (cellE K.2.2.2.2.2 sh ad M L R)).set i (ad i, .inl (K.2.2.2.2.2 14, n, .inl (fun k : Nat => iz ((fun b => if b = z then w else M i b) (k : Int))))) = wl N ad (cellE K.2.2.2.2.2 sh ad (mu M i z w) L R) := wl_set (by rw [cellE_int hs (by decide), mu_row, mrow_s]) (fun j hj => cellE_congr rfl (mu_i _ _ _ hj) rfl (fun _ => rfl))
  rw [e] at hP1 hD1
  exact kk H1 locs1 ls ⟨hP1, hD1, mok_mu hW.2.2 hz (fun q => by rw [hs] at q; cases q) (fun q => by rw [hs] at q; cases q)⟩ hS1 hL
theorem v_bald (X : VX K cc nL Ts own) {i n : Nat} {z : Int} (w : Int) (hN : i < N) (hs : sh i = (13, n)) (h0 : 0 ≤ z) (h1 : z < n) (hd : decode cc pc = .ok (.baload, 1)) (hw : M i z = w) (kk : -128 ≤ w ∧ w < 128 → V K nL cells slots N sh ad M L R lv (.int (iz w) :: st) (pc + 1)) : V K nL cells slots N sh ad M L R lv (.int (iz z) :: .ref (ad i) :: st) pc := fun H locs ls hW hS hL => by
  have hn : (n : Int) ≤ 2147483647 := by have := hW.2.2.2.2.2.2 i; rw [hs] at this; have h2 : n ≤ 2147483647 := this; omega
  have hv : iz (M i (((iz z).toNatClampNeg : Nat) : Int)) = iz w := by
    rw [iz_nc ⟨by omega, by omega⟩, show ((z.toNat : Nat) : Int) = z by omega, hw]
  refine va_bald (D := K.2.2.2.2.1) X.1 X.2.1 X.2.2.2.2.2.1 hW.1 i 0 (cA := K.2.2.2.2.2 13) (n := n) (f := fun k => iz (M i (k : Int))) ((wl_get hN).trans (by rw [cellE_int hs (by decide)])) rfl (iz_in h0 h1 hn) hd ?_
  rw [hv]
  exact kk (by rw [← hw]; exact hW.2.2.2.1 i z (by rw [hs])) H locs ls hW hS hL
theorem v_bast (X : VX K cc nL Ts own) {i n : Nat} {z w : Int} (hN : i < N) (hs : sh i = (13, n)) (h0 : 0 ≤ z) (h1 : z < n) (hz : -128 ≤ w ∧ w < 128) (hd : decode cc pc = .ok (.bastore, 1)) (kk : V K nL cells slots N sh ad (mu M i z w) L R lv st (pc + 1)) : V K nL cells slots N sh ad M L R lv (.int (iz w) :: .int (iz z) :: .ref (ad i) :: st) pc := fun H locs ls hW hS hL => by
  have hn : (n : Int) ≤ 2147483647 := by have := hW.2.2.2.2.2.2 i; rw [hs] at this; have h2 : n ≤ 2147483647 := this; omega
  refine va_bast (D := K.2.2.2.2.1) X.1 X.2.1 X.2.2.2.2.2.1 hW.1 hW.2.1 hS i 0 (cA := K.2.2.2.2.2 13) (n := n) (f := fun k => iz (M i (k : Int))) ((wl_get hN).trans (by rw [cellE_int hs (by decide)])) rfl (iz_in h0 h1 hn) hd (fun H1 locs1 hP1 hD1 hS1 => ?_)
  rw [iz_nc ⟨by omega, by omega⟩] at hP1 hD1
  rw [nar_b hz] at hP1 hD1
  rw [upd_iz h0] at hP1 hD1
  have e : (wl N ad (cellE K.2.2.2.2.2 sh ad M L R)).set i (ad i, .inl (K.2.2.2.2.2 13, n, .inl (fun k : Nat => iz ((fun b => if b = z then w else M i b) (k : Int))))) = wl N ad (cellE K.2.2.2.2.2 sh ad (mu M i z w) L R) := wl_set (by rw [cellE_int hs (by decide), mu_row, mrow_s]) (fun j hj => cellE_congr rfl (mu_i _ _ _ hj) rfl (fun _ => rfl))
  rw [e] at hP1 hD1
  exact kk H1 locs1 ls ⟨hP1, hD1, mok_mu hW.2.2 ⟨by omega, by omega⟩ (fun _ => hz) (fun q => by rw [hs] at q; cases q)⟩ hS1 hL
theorem v_zald (X : VX K cc nL Ts own) {i n : Nat} {z : Int} (w : Int) (hN : i < N) (hs : sh i = (16, n)) (h0 : 0 ≤ z) (h1 : z < n) (hd : decode cc pc = .ok (.baload, 1)) (hw : M i z = w) (kk : 0 ≤ w ∧ w < 2 → V K nL cells slots N sh ad M L R lv (.int (iz w) :: st) (pc + 1)) : V K nL cells slots N sh ad M L R lv (.int (iz z) :: .ref (ad i) :: st) pc := fun H locs ls hW hS hL => by
  have hn : (n : Int) ≤ 2147483647 := by have := hW.2.2.2.2.2.2 i; rw [hs] at this; have h2 : n ≤ 2147483647 := this; omega
  have hv : iz (M i (((iz z).toNatClampNeg : Nat) : Int)) = iz w := by
    rw [iz_nc ⟨by omega, by omega⟩, show ((z.toNat : Nat) : Int) = z by omega, hw]
  refine va_zald (D := K.2.2.2.2.1) X.1 X.2.1 X.2.2.2.2.2.1 hW.1 i 3 (cA := K.2.2.2.2.2 16) (n := n) (f := fun k => iz (M i (k : Int))) ((wl_get hN).trans (by rw [cellE_int hs (by decide)])) rfl (iz_in h0 h1 hn) hd ?_
  rw [hv]
  exact kk (by rw [← hw]; exact hW.2.2.2.2.1 i z (by rw [hs])) H locs ls hW hS hL
theorem v_zast (X : VX K cc nL Ts own) {i n : Nat} {z w : Int} (hN : i < N) (hs : sh i = (16, n)) (h0 : 0 ≤ z) (h1 : z < n) (hz : 0 ≤ w ∧ w < 2) (hd : decode cc pc = .ok (.bastore, 1)) (kk : V K nL cells slots N sh ad (mu M i z w) L R lv st (pc + 1)) : V K nL cells slots N sh ad M L R lv (.int (iz w) :: .int (iz z) :: .ref (ad i) :: st) pc := fun H locs ls hW hS hL => by
  have hn : (n : Int) ≤ 2147483647 := by have := hW.2.2.2.2.2.2 i; rw [hs] at this; have h2 : n ≤ 2147483647 := this; omega
  refine va_zast (D := K.2.2.2.2.1) X.1 X.2.1 X.2.2.2.2.2.1 hW.1 hW.2.1 hS i 3 (cA := K.2.2.2.2.2 16) (n := n) (f := fun k => iz (M i (k : Int))) ((wl_get hN).trans (by rw [cellE_int hs (by decide)])) rfl (iz_in h0 h1 hn) hd (fun H1 locs1 hP1 hD1 hS1 => ?_)
  rw [iz_nc ⟨by omega, by omega⟩] at hP1 hD1
  rw [nar_z2 hz] at hP1 hD1
  rw [upd_iz h0] at hP1 hD1
  have e : (wl N ad (cellE K.2.2.2.2.2 sh ad M L R)).set i (ad i, .inl (K.2.2.2.2.2 16, n, .inl (fun k : Nat => iz ((fun b => if b = z then w else M i b) (k : Int))))) = wl N ad (cellE K.2.2.2.2.2 sh ad (mu M i z w) L R) := wl_set (by rw [cellE_int hs (by decide), mu_row, mrow_s]) (fun j hj => cellE_congr rfl (mu_i _ _ _ hj) rfl (fun _ => rfl))
  rw [e] at hP1 hD1
  exact kk H1 locs1 ls ⟨hP1, hD1, mok_mu hW.2.2 ⟨by omega, by omega⟩ (fun q => by rw [hs] at q; cases q) (fun _ => hz)⟩ hS1 hL
theorem v_lald (X : VX K cc nL Ts own) {i n : Nat} {z : Int} (w : Int) (hN : i < N) (hs : sh i = (15, n)) (h0 : 0 ≤ z) (h1 : z < n) (hd : decode cc pc = .ok (.laload, 1)) (hw : L i z = w) (kk : V K nL cells slots N sh ad M L R lv (.long (lz w) :: st) (pc + 1)) : V K nL cells slots N sh ad M L R lv (.int (iz z) :: .ref (ad i) :: st) pc := fun H locs ls hW hS hL => by
  have hn : (n : Int) ≤ 2147483647 := by have := hW.2.2.2.2.2.2 i; rw [hs] at this; have h2 : n ≤ 2147483647 := this; omega
  have hv : lz (L i (((iz z).toNatClampNeg : Nat) : Int)) = lz w := by
    rw [iz_nc ⟨by omega, by omega⟩, show ((z.toNat : Nat) : Int) = z by omega, hw]
  refine va_lald (D := K.2.2.2.2.1) X.1 X.2.1 X.2.2.2.2.2.1 hW.1 i 2 (cA := K.2.2.2.2.2 15) (n := n) (f := fun k => lz (L i (k : Int))) ((wl_get hN).trans (by rw [cellE_long hs])) rfl (iz_in h0 h1 hn) hd ?_
  rw [hv]
  exact kk H locs ls hW hS hL
theorem v_last (X : VX K cc nL Ts own) {i n : Nat} {z w : Int} (hN : i < N) (hs : sh i = (15, n)) (h0 : 0 ≤ z) (h1 : z < n) (hd : decode cc pc = .ok (.lastore, 1)) (kk : V K nL cells slots N sh ad M (mu L i z w) R lv st (pc + 1)) : V K nL cells slots N sh ad M L R lv (.long (lz w) :: .int (iz z) :: .ref (ad i) :: st) pc := fun H locs ls hW hS hL => by
  have hn : (n : Int) ≤ 2147483647 := by have := hW.2.2.2.2.2.2 i; rw [hs] at this; have h2 : n ≤ 2147483647 := this; omega
  refine va_last (D := K.2.2.2.2.1) X.1 X.2.1 X.2.2.2.2.2.1 hW.1 hW.2.1 hS i 2 (cA := K.2.2.2.2.2 15) (n := n) (f := fun k => lz (L i (k : Int))) ((wl_get hN).trans (by rw [cellE_long hs])) rfl (iz_in h0 h1 hn) hd (fun H1 locs1 hP1 hD1 hS1 => ?_)
  rw [iz_nc ⟨by omega, by omega⟩] at hP1 hD1
  have e : (wl N ad (cellE K.2.2.2.2.2 sh ad M L R)).set i (ad i, .inl (K.2.2.2.2.2 15, n, .inr (.inl (vp_updL (fun k => lz (L i (k : Int))) z.toNat (lz w))))) = wl N ad (cellE K.2.2.2.2.2 sh ad M (mu L i z w) R) := wl_set (by
    rw [cellE_long hs, mu_row, mrow_s]
    congr 5
    funext k
    unfold vp_updL
    by_cases e : k = z.toNat
    · subst e
      rw [if_pos rfl]
      have : ((z.toNat : Nat) : Int) = z := by omega
      simp [this]
    · rw [if_neg e]
      have : ¬ ((k : Int) = z) := by omega
      simp [this]) (fun j hj => cellE_congr rfl rfl (mu_i _ _ _ hj) (fun _ => rfl))
  rw [e] at hP1 hD1
  exact kk H1 locs1 ls ⟨hP1, hD1, hW.2.2⟩ hS1 hL
theorem v_aald17 (X : VX K cc nL Ts own) {i n : Nat} {z : Int} (w : Option Nat) (hN : i < N) (hs : sh i = (17, n)) (h0 : 0 ≤ z) (h1 : z < n) (hd : decode cc pc = .ok (.aaload, 1)) (hw : R i z = w) (kk : V K nL cells slots N sh ad M L R lv (va_rf (w.map ad) :: st) (pc + 1)) : V K nL cells slots N sh ad M L R lv (.int (iz z) :: .ref (ad i) :: st) pc := fun H locs ls hW hS hL => by
  have hn : (n : Int) ≤ 2147483647 := by have := hW.2.2.2.2.2.2 i; rw [hs] at this; have h2 : n ≤ 2147483647 := this; omega
  have hv : (R i (((iz z).toNatClampNeg : Nat) : Int)).map ad = w.map ad := by
    rw [iz_nc ⟨by omega, by omega⟩, show ((z.toNat : Nat) : Int) = z by omega, hw]
  refine va_aldq (D := K.2.2.2.2.1) X.1 X.2.1 X.2.2.2.2.2.1 hW.1 i 4 (cA := K.2.2.2.2.2 17) (C := RX0) (n := n) (f := fun k => (R i (k : Int)).map ad) ((wl_get hN).trans (by rw [cellE_ref hs (by decide)])) rfl (iz_in h0 h1 hn) hd ?_
  rw [hv]
  exact kk H locs ls hW hS hL
theorem v_aald18 (X : VX K cc nL Ts own) {i n : Nat} {z : Int} (w : Option Nat) (hN : i < N) (hs : sh i = (18, n)) (h0 : 0 ≤ z) (h1 : z < n) (hd : decode cc pc = .ok (.aaload, 1)) (hw : R i z = w) (kk : V K nL cells slots N sh ad M L R lv (va_rf (w.map ad) :: st) (pc + 1)) : V K nL cells slots N sh ad M L R lv (.int (iz z) :: .ref (ad i) :: st) pc := fun H locs ls hW hS hL => by
  have hn : (n : Int) ≤ 2147483647 := by have := hW.2.2.2.2.2.2 i; rw [hs] at this; have h2 : n ≤ 2147483647 := this; omega
  have hv : (R i (((iz z).toNatClampNeg : Nat) : Int)).map ad = w.map ad := by
    rw [iz_nc ⟨by omega, by omega⟩, show ((z.toNat : Nat) : Int) = z by omega, hw]
  refine va_aldq (D := K.2.2.2.2.1) X.1 X.2.1 X.2.2.2.2.2.1 hW.1 i 5 (cA := K.2.2.2.2.2 18) (C := RX2) (n := n) (f := fun k => (R i (k : Int)).map ad) ((wl_get hN).trans (by rw [cellE_ref hs (by decide)])) rfl (iz_in h0 h1 hn) hd ?_
  rw [hv]
  exact kk H locs ls hW hS hL
theorem v_aast17 (X : VX K cc nL Ts own) {i j n : Nat} {z : Int} (hN : i < N) (hs : sh i = (17, n)) (hj : j < N) (hsj : (sh j).1 = 0) (h0 : 0 ≤ z) (h1 : z < n) (hd : decode cc pc = .ok (.aastore, 1)) (kk : V K nL cells slots N sh ad M L (mu R i z (some j)) lv st (pc + 1)) : V K nL cells slots N sh ad M L R lv (.ref (ad j) :: .int (iz z) :: .ref (ad i) :: st) pc := fun H locs ls hW hS hL => by
  have hn : (n : Int) ≤ 2147483647 := by have := hW.2.2.2.2.2.2 i; rw [hs] at this; have h2 : n ≤ 2147483647 := this; omega
  refine va_astq (D := K.2.2.2.2.1) X.1 X.2.1 X.2.2.2.2.2.1 hW.1 hW.2.1 hS i 4 j 0 (cA := K.2.2.2.2.2 17) (n := n) (f := fun k => (R i (k : Int)).map ad) ((wl_get hN).trans (by rw [cellE_ref hs (by decide)])) rfl ((wl_get hj).trans (by rw [cellE_obj hsj (by decide)])) rfl (iz_in h0 h1 hn) hd (fun H1 locs1 hP1 hD1 hS1 => ?_)
  rw [iz_nc ⟨by omega, by omega⟩] at hP1 hD1
  have e : (wl N ad (cellE K.2.2.2.2.2 sh ad M L R)).set i (ad i, .inl (K.2.2.2.2.2 17, n, .inr (.inr (.inr (.inr (va_up (fun k => (R i (k : Int)).map ad) z.toNat (some (ad j)))))))) = wl N ad (cellE K.2.2.2.2.2 sh ad M L (mu R i z (some j))) := wl_set (by
    rw [cellE_ref hs (by decide), mu_row, mrow_s]
    congr 7
    funext k
    unfold va_up
    by_cases e : k = z.toNat
    · subst e
      rw [if_pos rfl]
      have : ((z.toNat : Nat) : Int) = z := by omega
      simp [this]
    · rw [if_neg e]
      have : ¬ ((k : Int) = z) := by omega
      simp [this]) (fun j hj => cellE_congr rfl rfl rfl (fun _ => by rw [mu_i _ _ _ hj]))
  rw [e] at hP1 hD1
  exact kk H1 locs1 ls ⟨hP1, hD1, mok_muR hW.2.2 (fun q e => by cases e; exact hj)⟩ hS1 hL
theorem v_aast18 (X : VX K cc nL Ts own) {i j n : Nat} {z : Int} (hN : i < N) (hs : sh i = (18, n)) (hj : j < N) (hsj : (sh j).1 = 2) (h0 : 0 ≤ z) (h1 : z < n) (hd : decode cc pc = .ok (.aastore, 1)) (kk : V K nL cells slots N sh ad M L (mu R i z (some j)) lv st (pc + 1)) : V K nL cells slots N sh ad M L R lv (.ref (ad j) :: .int (iz z) :: .ref (ad i) :: st) pc := fun H locs ls hW hS hL => by
  have hn : (n : Int) ≤ 2147483647 := by have := hW.2.2.2.2.2.2 i; rw [hs] at this; have h2 : n ≤ 2147483647 := this; omega
  refine va_astq (D := K.2.2.2.2.1) X.1 X.2.1 X.2.2.2.2.2.1 hW.1 hW.2.1 hS i 5 j 2 (cA := K.2.2.2.2.2 18) (n := n) (f := fun k => (R i (k : Int)).map ad) ((wl_get hN).trans (by rw [cellE_ref hs (by decide)])) rfl ((wl_get hj).trans (by rw [cellE_obj hsj (by decide)])) rfl (iz_in h0 h1 hn) hd (fun H1 locs1 hP1 hD1 hS1 => ?_)
  rw [iz_nc ⟨by omega, by omega⟩] at hP1 hD1
  have e : (wl N ad (cellE K.2.2.2.2.2 sh ad M L R)).set i (ad i, .inl (K.2.2.2.2.2 18, n, .inr (.inr (.inr (.inr (va_up (fun k => (R i (k : Int)).map ad) z.toNat (some (ad j)))))))) = wl N ad (cellE K.2.2.2.2.2 sh ad M L (mu R i z (some j))) := wl_set (by
    rw [cellE_ref hs (by decide), mu_row, mrow_s]
    congr 7
    funext k
    unfold va_up
    by_cases e : k = z.toNat
    · subst e
      rw [if_pos rfl]
      have : ((z.toNat : Nat) : Int) = z := by omega
      simp [this]
    · rw [if_neg e]
      have : ¬ ((k : Int) = z) := by omega
      simp [this]) (fun j hj => cellE_congr rfl rfl rfl (fun _ => by rw [mu_i _ _ _ hj]))
  rw [e] at hP1 hD1
  exact kk H1 locs1 ls ⟨hP1, hD1, mok_muR hW.2.2 (fun q e => by cases e; exact hj)⟩ hS1 hL
theorem v_alenI (X : VX K cc nL Ts own) {i n : Nat} (hN : i < N) (hs : sh i = (14, n)) (hd : decode cc pc = .ok (.arraylength, 1)) (kk : V K nL cells slots N sh ad M L R lv (.int (iz (n : Int)) :: st) (pc + 1)) : V K nL cells slots N sh ad M L R lv (.ref (ad i) :: st) pc := fun H locs ls hW hS hL =>
  va_alen (D := K.2.2.2.2.1) X.1 X.2.1 X.2.2.2.2.2.1 hW.1 i 1 (cA := K.2.2.2.2.2 14) (x := (n, .inl (fun k => iz (M i (k : Int))))) ((wl_get hN).trans (by rw [cellE_int hs (by decide)])) (ty := .int) rfl (iz_ofNat n) hd (kk H locs ls hW hS hL)
end RowsH
