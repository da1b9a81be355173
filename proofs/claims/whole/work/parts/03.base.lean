/-! BASE: ints by their values (iz), a memory of numbered cells, the judgement V, a row an instruction -/
def iz (z : Int) : Int32 := Int32.ofInt z
def lz (z : Int) : Int64 := Int64.ofInt z
abbrev inR (z : Int) : Prop := -2147483648 ≤ z ∧ z < 2147483648
abbrev inL (z : Int) : Prop := -9223372036854775808 ≤ z ∧ z < 9223372036854775808
theorem iz_bm {z : Int} (h : inR z) : z.bmod (2 ^ 32) = z := Int.bmod_eq_of_le (by omega) (by omega)
theorem iz_toInt {z : Int} (h : inR z) : (iz z).toInt = z := by unfold iz; rw [Int32.toInt_ofInt, iz_bm h]
theorem iz_self (x : Int32) : iz x.toInt = x := Int32.ofInt_toInt x
theorem iz_rng (x : Int32) : inR x.toInt := by
  have h1 := Int32.le_toInt x
  have h2 := Int32.toInt_lt x
  constructor <;> omega
theorem iz_add (a b : Int) : iz a + iz b = iz (a + b) := (Int32.ofInt_add a b).symm
theorem iz_sub (a b : Int) : iz a - iz b = iz (a - b) := (Int32.ofInt_sub a b).symm
theorem iz_mul (a b : Int) : iz a * iz b = iz (a * b) := (Int32.ofInt_mul a b).symm
theorem iz_lt {a b : Int} (ha : inR a) (hb : inR b) : iz a < iz b ↔ a < b := by rw [Int32.lt_iff_toInt_lt, iz_toInt ha, iz_toInt hb]
theorem iz_le {a b : Int} (ha : inR a) (hb : inR b) : iz a ≤ iz b ↔ a ≤ b := by rw [Int32.le_iff_toInt_le, iz_toInt ha, iz_toInt hb]
theorem iz_eq {a b : Int} (ha : inR a) (hb : inR b) : iz a = iz b ↔ a = b := by rw [← Int32.toInt_inj, iz_toInt ha, iz_toInt hb]
theorem iz_0 : iz 0 = 0 := by decide
theorem in0 : inR 0 := ⟨by decide, by decide⟩
theorem iz_nc {z : Int} (h : inR z) : (iz z).toNatClampNeg = z.toNat := by
  show (iz z).toInt.toNat = _
  rw [iz_toInt h]
theorem iz_in {z : Int} {n : Nat} (h0 : 0 ≤ z) (h : z < n) (hn : (n : Int) ≤ 2147483647) : vp_in (iz z) n := vp_in_iff.mpr (by
  rw [iz_toInt ⟨by omega, by omega⟩]
  exact ⟨h0, h⟩)
/-- the wrapped value -/
def wrp (z : Int) : Int := z.bmod (2 ^ 32)
theorem wrp_in (z : Int) : inR (wrp z) := by
  have h1 := Int.le_bmod (x := z) (m := 2 ^ 32) (by decide)
  have h2 := Int.bmod_lt (x := z) (m := 2 ^ 32) (by decide)
  unfold wrp
  constructor <;> omega
theorem wrp_iz (z : Int) : iz (wrp z) = iz z := by
  apply Int32.toInt_inj.1
  rw [iz_toInt (wrp_in z)]
  unfold iz wrp
  rw [Int32.toInt_ofInt]
theorem wrp_id {z : Int} (h : inR z) : wrp z = z := iz_bm h
/-- ints, longs, references, shapes (kind, length) of the numbered cells -/
abbrev MI : Type := Nat → Int → Int
abbrev MR : Type := Nat → Int → Option Nat
abbrev MS : Type := Nat → Nat × Nat
def mu {α : Type} (M : Nat → Int → α) (i : Nat) (z : Int) (v : α) : Nat → Int → α := fun a b => if a = i then (if b = z then v else M a b) else M a b
def mrow {α : Type} (M : Nat → Int → α) (i : Nat) (f : Int → α) : Nat → Int → α := fun a b => if a = i then f b else M a b
theorem mu_s {α : Type} (M : Nat → Int → α) (i : Nat) (z : Int) (v : α) : mu M i z v i z = v := by simp [mu]
theorem mu_i {α : Type} (M : Nat → Int → α) {i a : Nat} (z : Int) (v : α) (h : a ≠ i) : mu M i z v a = M a := by funext b; simp [mu, h]
theorem mu_z {α : Type} (M : Nat → Int → α) (i : Nat) {z b : Int} (v : α) (h : b ≠ z) : mu M i z v i b = M i b := by simp [mu, h]
theorem mrow_s {α : Type} (M : Nat → Int → α) (i : Nat) (f : Int → α) : mrow M i f i = f := by funext b; simp [mrow]
theorem mrow_i {α : Type} (M : Nat → Int → α) {i a : Nat} (f : Int → α) (h : a ≠ i) : mrow M i f a = M a := by funext b; simp [mrow, h]
theorem mu_row {α : Type} (M : Nat → Int → α) (i : Nat) (z : Int) (v : α) : mu M i z v = mrow M i (fun b => if b = z then v else M i b) := by
  funext a b
  by_cases h : a = i
  · subst h; simp [mu, mrow]
  · simp [mu, mrow, h]

/-- how many fields, which of them are references, which are flags -/
def nF : Nat → Nat := fun c => match c with
  | 0 => 8
  | 1 => 4
  | 2 => 4
  | 3 => 7
  | 4 => 8
  | 5 => 6
  | 6 => 5
  | 7 => 6
  | 8 => 3
  | 9 => 2
  | 10 => 8
  | 11 => 11
  | _ => 85
def rfF : Nat → Nat → Bool := fun c k => match c with
  | 0 => [6].contains k
  | 1 => [0, 1, 2].contains k
  | 2 => false
  | 3 => [0, 1, 2, 3, 4].contains k
  | 4 => [0, 1, 2, 3, 4, 5, 6, 7].contains k
  | 5 => [0, 1].contains k
  | 6 => [0].contains k
  | 7 => [0, 2].contains k
  | 8 => [0, 1, 2].contains k
  | 9 => [0].contains k
  | 10 => [0, 1, 2, 3, 4, 5].contains k
  | 11 => [0, 1, 2, 3, 4, 5, 6, 8, 9].contains k
  | _ => [1, 3, 5, 6, 7, 8, 9, 20, 21, 22, 23, 24, 25, 26, 27, 28, 29, 30, 31, 33, 34, 35, 38, 39, 40, 41, 42, 43, 44, 45, 46, 47, 48, 50, 54, 55, 56, 57, 58, 59, 60, 61, 63, 64, 65, 66, 67, 70, 71, 72, 73, 74, 79, 80, 81, 82, 83, 84].contains k
def zF : Nat → Nat → Bool := fun c k => match c with
  | 0 => false
  | 1 => false
  | 2 => [3].contains k
  | 3 => false
  | 4 => false
  | 5 => false
  | 6 => false
  | 7 => [3].contains k
  | 8 => false
  | 9 => false
  | 10 => false
  | 11 => [7].contains k
  | _ => [68].contains k
def fldV (ad : Nat → Nat) (M : MI) (R : MR) (i c k : Nat) : Value := if rfF c k = true then va_rf ((R i (k : Int)).map ad) else .int (iz (M i (k : Int)))
def flds (ad : Nat → Nat) (M : MI) (R : MR) (i c : Nat) : List Value := (List.range (nF c)).map (fldV ad M R i c)
def cellE (cy : Nat → ClassId) (sh : MS) (ad : Nat → Nat) (M : MI) (L : MI) (R : MR) (i : Nat) : va_E :=
  if (sh i).1 < 13 then .inr ((sh i).1, flds ad M R i (sh i).1)
  else if (sh i).1 = 15 then .inl (cy 15, (sh i).2, .inr (.inl (fun k => lz (L i (k : Int)))))
  else if 17 ≤ (sh i).1 then .inl (cy (sh i).1, (sh i).2, .inr (.inr (.inr (.inr (fun k => (R i (k : Int)).map ad)))))
  else .inl (cy (sh i).1, (sh i).2, .inl (fun k => iz (M i (k : Int))))
def wl (N : Nat) (ad : Nat → Nat) (C : Nat → va_E) : va_W := (List.range N).map (fun i => (ad i, C i))
theorem wl_get {N i : Nat} {ad : Nat → Nat} {C : Nat → va_E} (h : i < N) : (wl N ad C)[i]? = some (ad i, C i) := by simp [wl, h]
theorem wl_len (N : Nat) (ad : Nat → Nat) (C : Nat → va_E) : (wl N ad C).length = N := by simp [wl]
theorem wl_set {N i : Nat} {ad : Nat → Nat} {C C' : Nat → va_E} {e : va_E} (he : C' i = e) (hc : ∀ j, j ≠ i → C' j = C j) : (wl N ad C).set i (ad i, e) = wl N ad C' := by
  apply List.ext_getElem?
  intro j
  by_cases hj : j = i
  · subst hj
    by_cases hl : j < N
    · rw [List.getElem?_set_self (by rw [wl_len]; exact hl), wl_get hl, he]
    · simp [wl, hl]
  · rw [List.getElem?_set_ne (Ne.symm hj)]
    by_cases hl : j < N
    · rw [wl_get hl, wl_get hl, hc j hj]
    · simp [wl, hl]
theorem wl_push {N q : Nat} {ad ad' : Nat → Nat} {C C' : Nat → va_E} {e : va_E} (h1 : ad' N = q) (h2 : C' N = e) (h3 : ∀ j, j < N → ad' j = ad j) (h4 : ∀ j, j < N → C' j = C j) : wl N ad C ++ [(q, e)] = wl (N + 1) ad' C' := by
  unfold wl
  rw [List.range_succ, List.map_append]
  simp only [List.map_cons, List.map_nil, h1, h2]
  congr 1
  apply List.map_congr_left
  intro j hj
  have := List.mem_range.mp hj
  rw [h3 j this, h4 j this]
/-- ranges: bytes, flags, ints; references name cells that are there -/
def mok (N : Nat) (sh : MS) (M : MI) (R : MR) : Prop := (∀ i z, inR (M i z)) ∧ (∀ i z, (sh i).1 = 13 → -128 ≤ M i z ∧ M i z < 128) ∧ (∀ i z, (sh i).1 = 16 → 0 ≤ M i z ∧ M i z < 2) ∧ (∀ i z j, R i z = some j → j < N) ∧ ∀ i, (sh i).2 ≤ 2147483647
def Wd (A : Nat → Prop) (D : va_G) (cy : Nat → ClassId) (N : Nat) (sh : MS) (ad : Nat → Nat) (M L : MI) (R : MR) (H : Heap) : Prop :=
  va_P D vwCl (wl N ad (cellE cy sh ad M L R)) H ∧ va_D A (wl N ad (cellE cy sh ad M L R)) ∧ mok N sh M R
abbrev tysOf (cy : Nat → ClassId) : List (ClassId × FieldType) := [(cy 13, .byte), (cy 14, .int), (cy 15, .long), (cy 16, .boolean), (cy 17, .object RX0), (cy 18, .object RX2)]
abbrev VK : Type := (Program × Launch × Env × Room × State) × (MethodId × Array Value × List Frame × Method × Code) × ((State → Prop) × (Nat → Prop) × va_G × (Nat → ClassId))
def V (K : VK) (nL cells slots N : Nat) (sh : MS) (ad : Nat → Nat) (M L : MI) (R : MR) (lv : List (Nat × Value)) (st : List Value) (pc : Nat) : Prop :=
  ∀ (H : Heap) (locs : List Loc) (ls : Array Slot), Wd K.2.2.2.1 K.2.2.2.2.1 K.2.2.2.2.2 N sh ad M L R H → va_S K.2.2.2.1 K.1.2.2.2.2.heap H locs → lv_has ls nL lv →
    W K.1.1 K.1.2.1 K.1.2.2.1 K.1.2.2.2.1 K.1.2.2.2.2 K.2.1.1 K.2.1.2.1 K.2.1.2.2.1 K.2.1.2.2.2.1 K.2.1.2.2.2.2 H locs cells slots K.2.2.1 (F0 K.2.1.1 pc ls st)
/-- the one String constant, and two static fields: they stand outside the world, at cy 100 .. 103 -/
def txW : String := "out     gap     spare   if      or      and     act     kind    ahead   same    base    minute  wind    length  worth   "
def bytW : List Int32 := [111, 117, 116, 32, 32, 32, 32, 32, 103, 97, 112, 32, 32, 32, 32, 32, 115, 112, 97, 114, 101, 32, 32, 32, 105, 102, 32, 32, 32, 32, 32, 32, 111, 114, 32, 32, 32, 32, 32, 32, 97, 110, 100, 32, 32, 32, 32, 32, 97, 99, 116, 32, 32, 32, 32, 32, 107, 105, 110, 100, 32, 32, 32, 32, 97, 104, 101, 97, 100, 32, 32, 32, 115, 97, 109, 101, 32, 32, 32, 32, 98, 97, 115, 101, 32, 32, 32, 32, 109, 105, 110, 117, 116, 101, 32, 32, 119, 105, 110, 100, 32, 32, 32, 32, 108, 101, 110, 103, 116, 104, 32, 32, 119, 111, 114, 116, 104, 32, 32, 32]
def Zz (cy : Nat → ClassId) (A : Nat → Prop) (U : State) : Prop := vk_S 1 [120] [bytW] (fun _ => cy 100) (fun _ => cy 101) A U U.heap ∧ vk_R RX6 61 txW (cy 100) U ∧ va_Z "java/lang/String" "COMPACT_STRINGS" "Z" (.int 1) A U U.heap ∧ va_Z "jdk/internal/util/Preconditions" "SIOOBE_FORMATTER" "Ljava/util/function/BiFunction;" (va_rf (if cy 102 = 0 then none else some (cy 103))) A U U.heap ∧ va_AO RX0 U ∧ va_AO RX2 U
theorem Zz.go {cy : Nat → ClassId} {A B : Nat → Prop} {s U : State} {H : Heap} {locs : List Loc} (h : Zz cy A s) (hS : va_S A s.heap H locs) (hU : U.heap = H) (hW : s.WarmedH U.vm) (hAB : ∀ q, B q → A q) : Zz cy B U := by
  subst hU
  have hk : ∀ a : Nat, a < s.heap.size → ¬ A a → U.heap[a]? = s.heap[a]? := hS.2.1
  exact ⟨((h.1.moved hW.alike).kept hk).narrow hAB, h.2.1.warm hW, ((h.2.2.1.moved hW.alike).kept hk).narrow hAB, ((h.2.2.2.1.moved hW.alike).kept hk).narrow hAB, h.2.2.2.2.1.moved hW.alike, h.2.2.2.2.2.moved hW.alike⟩
def VX (K : VK) (cc : ByteArray) (nL : Nat) (Ts : List Cond) (own : String) : Prop :=
  K.1.1.tables.exec = Jvm.exec ∧ K.2.1.2.2.2.2.code = cc ∧ K.2.1.2.2.2.2.maxLocals = nL ∧ K.1.2.2.2.2.vm.findClass own = some K.2.1.1.cls ∧ (∀ w ∈ Ts, w.before K.2.1.2.1 K.1.2.2.2.2 = true) ∧ va_K K.2.2.2.2.1 vwCl (tysOf K.2.2.2.2.2) K.1.2.2.2.2 ∧ (∀ q : Nat, K.1.2.2.2.2.heap.size ≤ q → K.2.2.2.1 q) ∧ Zz K.2.2.2.2.2 K.2.2.2.1 K.1.2.2.2.2

section RowsB
variable {K : VK} {cc : ByteArray} {nL cells slots N : Nat} {Ts : List Cond} {own : String} {sh : MS} {ad : Nat → Nat} {M L : MI} {R : MR} {lv lv' : List (Nat × Value)} {st : List Value} {pc : Nat}
theorem v_widen {k n : Nat} (h1 : cells ≤ k) (h2 : slots ≤ n) (kk : V K nL k n N sh ad M L R lv st pc) : V K nL cells slots N sh ad M L R lv st pc := fun H locs ls hW hS hL => W.widen h1 h2 (kk H locs ls hW hS hL)
theorem v_lv (ks : List Nat) (hl : lv_pick lv ks = lv') (kk : V K nL cells slots N sh ad M L R lv' st pc) : V K nL cells slots N sh ad M L R lv st pc := fun H locs ls hW hS hL => kk H locs ls hW hS (lv_sub hL ks hl)
theorem v_st {st' : List Value} (h : st = st') (kk : V K nL cells slots N sh ad M L R lv st' pc) : V K nL cells slots N sh ad M L R lv st pc := h ▸ kk
theorem v_mem {M' L' : MI} {R' : MR} (h : M = M') (h2 : L = L') (h3 : R = R') (kk : V K nL cells slots N sh ad M' L' R' lv st pc) : V K nL cells slots N sh ad M L R lv st pc := h ▸ h2 ▸ h3 ▸ kk
theorem v_rng (kk : mok N sh M R → V K nL cells slots N sh ad M L R lv st pc) : V K nL cells slots N sh ad M L R lv st pc := fun H locs ls hW hS hL => kk hW.2.2 H locs ls hW hS hL
theorem v_iconst (X : VX K cc nL Ts own) {n : Int} (hd : decode cc pc = .ok (.iconst n, 1)) (kk : V K nL cells slots N sh ad M L R lv (.int (iz n) :: st) (pc + 1)) : V K nL cells slots N sh ad M L R lv st pc := fun H locs ls hW hS hL => lv_iconst X.1 X.2.1 hd rfl (kk H locs ls hW hS hL)
theorem v_bipush (X : VX K cc nL Ts own) {n : Int} (hd : decode cc pc = .ok (.bipush n, 2)) (hv : (Int8.ofInt n).toInt32 = iz n) (kk : V K nL cells slots N sh ad M L R lv (.int (iz n) :: st) (pc + 2)) : V K nL cells slots N sh ad M L R lv st pc := fun H locs ls hW hS hL => lv_bipush X.1 X.2.1 hd hv (kk H locs ls hW hS hL)
theorem v_sipush (X : VX K cc nL Ts own) {n : Int} (hd : decode cc pc = .ok (.sipush n, 3)) (hv : (Int16.ofInt n).toInt32 = iz n) (kk : V K nL cells slots N sh ad M L R lv (.int (iz n) :: st) (pc + 3)) : V K nL cells slots N sh ad M L R lv st pc := fun H locs ls hW hS hL => lv_sipush X.1 X.2.1 hd hv (kk H locs ls hW hS hL)
theorem v_lconst (X : VX K cc nL Ts own) {n : Fin 2} (hd : decode cc pc = .ok (.lconst n, 1)) (hv : Int64.ofNat (n : Nat) = lz (n : Nat)) (kk : V K nL cells slots N sh ad M L R lv (.long (lz (n : Nat)) :: st) (pc + 1)) : V K nL cells slots N sh ad M L R lv st pc := fun H locs ls hW hS hL => lv_lconst X.1 X.2.1 hd hv (kk H locs ls hW hS hL)
theorem v_null (X : VX K cc nL Ts own)  (hd : decode cc pc = .ok (.aconst_null, 1)) (kk : V K nL cells slots N sh ad M L R lv (.null :: st) (pc + 1)) : V K nL cells slots N sh ad M L R lv st pc := fun H locs ls hW hS hL => lv_null X.1 X.2.1 hd (kk H locs ls hW hS hL)
theorem v_iload_n (X : VX K cc nL Ts own) {x : Int32} {k : Fin 4} {i : Nat} (j : Nat) (hd : decode cc pc = .ok (.iload_n k, 1)) (hi : (k : Nat) = i) (hl : lv[j]? = some (i, .int x)) (kk : V K nL cells slots N sh ad M L R lv (.int x :: st) (pc + 1)) : V K nL cells slots N sh ad M L R lv st pc := fun H locs ls hW hS hL => lv_iload_n X.1 X.2.1 hd hi (lv_at hL j hl) (kk H locs ls hW hS hL)
theorem v_iload (X : VX K cc nL Ts own) {x : Int32} {i : Nat} (j : Nat) (hd : decode cc pc = .ok (.iload i, 2)) (hl : lv[j]? = some (i, .int x)) (kk : V K nL cells slots N sh ad M L R lv (.int x :: st) (pc + 2)) : V K nL cells slots N sh ad M L R lv st pc := fun H locs ls hW hS hL => lv_iload X.1 X.2.1 hd (lv_at hL j hl) (kk H locs ls hW hS hL)
theorem v_istore_n (X : VX K cc nL Ts own) {x : Int32} {k : Fin 4} {i : Nat} (lv' : List (Nat × Value)) (hd : decode cc pc = .ok (.istore_n k, 1)) (hi : (k : Nat) = i) (hn : i < nL) (hl : (i, Value.int x) :: lv.filter (fun q => !(q.1 == i) && !(q.1 + 1 == i && q.2.category == 2)) = lv') (kk : V K nL cells slots N sh ad M L R (lv') st (pc + 1)) : V K nL cells slots N sh ad M L R lv (.int x :: st) pc := fun H locs ls hW hS hL => lv_istore_n X.1 X.2.1 hd hi hL hn hl (fun ls' hL' => kk H locs ls' hW hS hL')
theorem v_istore (X : VX K cc nL Ts own) {x : Int32} {i : Nat} (lv' : List (Nat × Value)) (hd : decode cc pc = .ok (.istore i, 2)) (hn : i < nL) (hl : (i, Value.int x) :: lv.filter (fun q => !(q.1 == i) && !(q.1 + 1 == i && q.2.category == 2)) = lv') (kk : V K nL cells slots N sh ad M L R (lv') st (pc + 2)) : V K nL cells slots N sh ad M L R lv (.int x :: st) pc := fun H locs ls hW hS hL => lv_istore X.1 X.2.1 hd hL hn hl (fun ls' hL' => kk H locs ls' hW hS hL')
theorem v_lload_n (X : VX K cc nL Ts own) {x : Int64} {k : Fin 4} {i : Nat} (j : Nat) (hd : decode cc pc = .ok (.lload_n k, 1)) (hi : (k : Nat) = i) (hl : lv[j]? = some (i, .long x)) (kk : V K nL cells slots N sh ad M L R lv (.long x :: st) (pc + 1)) : V K nL cells slots N sh ad M L R lv st pc := fun H locs ls hW hS hL => lv_lload_n X.1 X.2.1 hd hi (lv_at hL j hl) (kk H locs ls hW hS hL)
theorem v_lload (X : VX K cc nL Ts own) {x : Int64} {i : Nat} (j : Nat) (hd : decode cc pc = .ok (.lload i, 2)) (hl : lv[j]? = some (i, .long x)) (kk : V K nL cells slots N sh ad M L R lv (.long x :: st) (pc + 2)) : V K nL cells slots N sh ad M L R lv st pc := fun H locs ls hW hS hL => lv_lload X.1 X.2.1 hd (lv_at hL j hl) (kk H locs ls hW hS hL)
theorem v_lstore_n (X : VX K cc nL Ts own) {x : Int64} {k : Fin 4} {i : Nat} (lv' : List (Nat × Value)) (hd : decode cc pc = .ok (.lstore_n k, 1)) (hi : (k : Nat) = i) (hn : i + 1 < nL) (hl : (i, Value.long x) :: lv.filter (fun q => !(q.1 == i) && (!(q.1 == i + 1) && !(q.1 + 1 == i && q.2.category == 2))) = lv') (kk : V K nL cells slots N sh ad M L R (lv') st (pc + 1)) : V K nL cells slots N sh ad M L R lv (.long x :: st) pc := fun H locs ls hW hS hL => lv_lstore_n X.1 X.2.1 hd hi hL hn hl (fun ls' hL' => kk H locs ls' hW hS hL')
theorem v_lstore (X : VX K cc nL Ts own) {x : Int64} {i : Nat} (lv' : List (Nat × Value)) (hd : decode cc pc = .ok (.lstore i, 2)) (hn : i + 1 < nL) (hl : (i, Value.long x) :: lv.filter (fun q => !(q.1 == i) && (!(q.1 == i + 1) && !(q.1 + 1 == i && q.2.category == 2))) = lv') (kk : V K nL cells slots N sh ad M L R (lv') st (pc + 2)) : V K nL cells slots N sh ad M L R lv (.long x :: st) pc := fun H locs ls hW hS hL => lv_lstore X.1 X.2.1 hd hL hn hl (fun ls' hL' => kk H locs ls' hW hS hL')
theorem v_aload_n (X : VX K cc nL Ts own) {x : Nat} {k : Fin 4} {i : Nat} (j : Nat) (hd : decode cc pc = .ok (.aload_n k, 1)) (hi : (k : Nat) = i) (hl : lv[j]? = some (i, .ref x)) (kk : V K nL cells slots N sh ad M L R lv (.ref x :: st) (pc + 1)) : V K nL cells slots N sh ad M L R lv st pc := fun H locs ls hW hS hL => lv_aload_n X.1 X.2.1 hd hi (lv_at hL j hl) (kk H locs ls hW hS hL)
theorem v_aload (X : VX K cc nL Ts own) {x : Nat} {i : Nat} (j : Nat) (hd : decode cc pc = .ok (.aload i, 2)) (hl : lv[j]? = some (i, .ref x)) (kk : V K nL cells slots N sh ad M L R lv (.ref x :: st) (pc + 2)) : V K nL cells slots N sh ad M L R lv st pc := fun H locs ls hW hS hL => lv_aload X.1 X.2.1 hd (lv_at hL j hl) (kk H locs ls hW hS hL)
theorem v_astore_n (X : VX K cc nL Ts own) {x : Nat} {k : Fin 4} {i : Nat} (lv' : List (Nat × Value)) (hd : decode cc pc = .ok (.astore_n k, 1)) (hi : (k : Nat) = i) (hn : i < nL) (hl : (i, Value.ref x) :: lv.filter (fun q => !(q.1 == i) && !(q.1 + 1 == i && q.2.category == 2)) = lv') (kk : V K nL cells slots N sh ad M L R (lv') st (pc + 1)) : V K nL cells slots N sh ad M L R lv (.ref x :: st) pc := fun H locs ls hW hS hL => lv_astore_n X.1 X.2.1 hd hi hL hn hl (fun ls' hL' => kk H locs ls' hW hS hL')
theorem v_astore (X : VX K cc nL Ts own) {x : Nat} {i : Nat} (lv' : List (Nat × Value)) (hd : decode cc pc = .ok (.astore i, 2)) (hn : i < nL) (hl : (i, Value.ref x) :: lv.filter (fun q => !(q.1 == i) && !(q.1 + 1 == i && q.2.category == 2)) = lv') (kk : V K nL cells slots N sh ad M L R (lv') st (pc + 2)) : V K nL cells slots N sh ad M L R lv (.ref x :: st) pc := fun H locs ls hW hS hL => lv_astore X.1 X.2.1 hd hL hn hl (fun ls' hL' => kk H locs ls' hW hS hL')
theorem v_aload_nN (X : VX K cc nL Ts own) {k : Fin 4} {i : Nat} (j : Nat) (hd : decode cc pc = .ok (.aload_n k, 1)) (hi : (k : Nat) = i) (hl : lv[j]? = some (i, .null)) (kk : V K nL cells slots N sh ad M L R lv (.null :: st) (pc + 1)) : V K nL cells slots N sh ad M L R lv st pc := fun H locs ls hW hS hL => lv_aload_nN X.1 X.2.1 hd hi (lv_at hL j hl) (kk H locs ls hW hS hL)
theorem v_aloadN (X : VX K cc nL Ts own) {i : Nat} (j : Nat) (hd : decode cc pc = .ok (.aload i, 2)) (hl : lv[j]? = some (i, .null)) (kk : V K nL cells slots N sh ad M L R lv (.null :: st) (pc + 2)) : V K nL cells slots N sh ad M L R lv st pc := fun H locs ls hW hS hL => lv_aloadN X.1 X.2.1 hd (lv_at hL j hl) (kk H locs ls hW hS hL)
theorem v_astore_nN (X : VX K cc nL Ts own) {k : Fin 4} {i : Nat} (lv' : List (Nat × Value)) (hd : decode cc pc = .ok (.astore_n k, 1)) (hi : (k : Nat) = i) (hn : i < nL) (hl : (i, Value.null) :: lv.filter (fun q => !(q.1 == i) && !(q.1 + 1 == i && q.2.category == 2)) = lv') (kk : V K nL cells slots N sh ad M L R (lv') st (pc + 1)) : V K nL cells slots N sh ad M L R lv (.null :: st) pc := fun H locs ls hW hS hL => lv_astore_nN X.1 X.2.1 hd hi hL hn hl (fun ls' hL' => kk H locs ls' hW hS hL')
theorem v_astoreN (X : VX K cc nL Ts own) {i : Nat} (lv' : List (Nat × Value)) (hd : decode cc pc = .ok (.astore i, 2)) (hn : i < nL) (hl : (i, Value.null) :: lv.filter (fun q => !(q.1 == i) && !(q.1 + 1 == i && q.2.category == 2)) = lv') (kk : V K nL cells slots N sh ad M L R (lv') st (pc + 2)) : V K nL cells slots N sh ad M L R lv (.null :: st) pc := fun H locs ls hW hS hL => lv_astoreN X.1 X.2.1 hd hL hn hl (fun ls' hL' => kk H locs ls' hW hS hL')
theorem v_iinc (X : VX K cc nL Ts own) {i : Nat} {n z : Int} (j : Nat) (lv' : List (Nat × Value)) (hd : decode cc pc = .ok (.iinc i n, 3)) (hk : lv[j]? = some (i, .int (iz z))) (hn : i < nL) (hl : (i, Value.int (iz (z + n))) :: lv.filter (fun q => !(q.1 == i) && !(q.1 + 1 == i && q.2.category == 2)) = lv') (kk : V K nL cells slots N sh ad M L R (lv') st (pc + 3)) : V K nL cells slots N sh ad M L R lv st pc := fun H locs ls hW hS hL => lv_iinc (v := iz (z + n)) X.1 X.2.1 hd hL hk (iz_add z n) hn hl (fun ls' hL' => kk H locs ls' hW hS hL')
theorem v_iadd (X : VX K cc nL Ts own) {a b : Int} (hd : decode cc pc = .ok (.iadd, 1)) (kk : V K nL cells slots N sh ad M L R lv (.int (iz (a + b)) :: st) (pc + 1)) : V K nL cells slots N sh ad M L R lv (.int (iz b) :: .int (iz a) :: st) pc := fun H locs ls hW hS hL => lv_iadd X.1 X.2.1 hd (by rw [iz_add]; exact (kk H locs ls hW hS hL))
theorem v_isub (X : VX K cc nL Ts own) {a b : Int} (hd : decode cc pc = .ok (.isub, 1)) (kk : V K nL cells slots N sh ad M L R lv (.int (iz (a - b)) :: st) (pc + 1)) : V K nL cells slots N sh ad M L R lv (.int (iz b) :: .int (iz a) :: st) pc := fun H locs ls hW hS hL => lv_isub X.1 X.2.1 hd (by rw [iz_sub]; exact (kk H locs ls hW hS hL))
theorem v_imul (X : VX K cc nL Ts own) {a b : Int} (hd : decode cc pc = .ok (.imul, 1)) (kk : V K nL cells slots N sh ad M L R lv (.int (iz (a * b)) :: st) (pc + 1)) : V K nL cells slots N sh ad M L R lv (.int (iz b) :: .int (iz a) :: st) pc := fun H locs ls hW hS hL => lv_imul X.1 X.2.1 hd (by rw [iz_mul]; exact (kk H locs ls hW hS hL))
theorem v_iand (X : VX K cc nL Ts own) {x y : Int32} (z : Int) (hd : decode cc pc = .ok (.iand, 1)) (hz : x &&& y = iz z) (kk : V K nL cells slots N sh ad M L R lv (.int (iz z) :: st) (pc + 1)) : V K nL cells slots N sh ad M L R lv (.int y :: .int x :: st) pc := fun H locs ls hW hS hL => lv_iand X.1 X.2.1 hd (by rw [hz]; exact (kk H locs ls hW hS hL))
theorem v_ior (X : VX K cc nL Ts own) {x y : Int32} (z : Int) (hd : decode cc pc = .ok (.ior, 1)) (hz : x ||| y = iz z) (kk : V K nL cells slots N sh ad M L R lv (.int (iz z) :: st) (pc + 1)) : V K nL cells slots N sh ad M L R lv (.int y :: .int x :: st) pc := fun H locs ls hW hS hL => lv_ior X.1 X.2.1 hd (by rw [hz]; exact (kk H locs ls hW hS hL))
theorem v_ishl (X : VX K cc nL Ts own) {x y : Int32} (z : Int) (hd : decode cc pc = .ok (.ishl, 1)) (hz : x <<< (y &&& 31) = iz z) (kk : V K nL cells slots N sh ad M L R lv (.int (iz z) :: st) (pc + 1)) : V K nL cells slots N sh ad M L R lv (.int y :: .int x :: st) pc := fun H locs ls hW hS hL => lv_ishl X.1 X.2.1 hd (by rw [hz]; exact (kk H locs ls hW hS hL))
theorem v_ishr (X : VX K cc nL Ts own) {x y : Int32} (z : Int) (hd : decode cc pc = .ok (.ishr, 1)) (hz : x >>> (y &&& 31) = iz z) (kk : V K nL cells slots N sh ad M L R lv (.int (iz z) :: st) (pc + 1)) : V K nL cells slots N sh ad M L R lv (.int y :: .int x :: st) pc := fun H locs ls hW hS hL => lv_ishr X.1 X.2.1 hd (by rw [hz]; exact (kk H locs ls hW hS hL))
theorem v_idiv (X : VX K cc nL Ts own) {x y : Int32} (z : Int) (hd : decode cc pc = .ok (.idiv, 1)) (h0 : ¬ y = 0) (hz : x / y = iz z) (kk : V K nL cells slots N sh ad M L R lv (.int (iz z) :: st) (pc + 1)) : V K nL cells slots N sh ad M L R lv (.int y :: .int x :: st) pc := fun H locs ls hW hS hL => lv_idiv X.1 X.2.1 hd h0 (by rw [hz]; exact (kk H locs ls hW hS hL))
theorem v_irem (X : VX K cc nL Ts own) {x y : Int32} (z : Int) (hd : decode cc pc = .ok (.irem, 1)) (h0 : ¬ y = 0) (hz : x - x / y * y = iz z) (kk : V K nL cells slots N sh ad M L R lv (.int (iz z) :: st) (pc + 1)) : V K nL cells slots N sh ad M L R lv (.int y :: .int x :: st) pc := fun H locs ls hW hS hL => lv_irem X.1 X.2.1 hd h0 (by rw [hz]; exact (kk H locs ls hW hS hL))
theorem v_i2b (X : VX K cc nL Ts own) {x : Int32} (z : Int) (hd : decode cc pc = .ok (.i2b, 1)) (hz : x.toInt8.toInt32 = iz z) (kk : V K nL cells slots N sh ad M L R lv (.int (iz z) :: st) (pc + 1)) : V K nL cells slots N sh ad M L R lv (.int x :: st) pc := fun H locs ls hW hS hL => lv_i2b X.1 X.2.1 hd hz (kk H locs ls hW hS hL)
theorem v_i2l (X : VX K cc nL Ts own) {x : Int32} (z : Int) (hd : decode cc pc = .ok (.i2l, 1)) (hz : x.toInt64 = lz z) (kk : V K nL cells slots N sh ad M L R lv (.long (lz z) :: st) (pc + 1)) : V K nL cells slots N sh ad M L R lv (.int x :: st) pc := fun H locs ls hW hS hL => lv_i2l X.1 X.2.1 hd hz (kk H locs ls hW hS hL)
theorem v_ladd (X : VX K cc nL Ts own) {a b : Int} (hd : decode cc pc = .ok (.ladd, 1)) (kk : V K nL cells slots N sh ad M L R lv (.long (lz (a + b)) :: st) (pc + 1)) : V K nL cells slots N sh ad M L R lv (.long (lz b) :: .long (lz a) :: st) pc := fun H locs ls hW hS hL => lv_ladd X.1 X.2.1 hd (by rw [show lz a + lz b = lz (a + b) from (Int64.ofInt_add a b).symm]; exact (kk H locs ls hW hS hL))
theorem v_lmul (X : VX K cc nL Ts own) {a b : Int} (hd : decode cc pc = .ok (.lmul, 1)) (kk : V K nL cells slots N sh ad M L R lv (.long (lz (a * b)) :: st) (pc + 1)) : V K nL cells slots N sh ad M L R lv (.long (lz b) :: .long (lz a) :: st) pc := fun H locs ls hW hS hL => lv_lmul X.1 X.2.1 hd (by rw [show lz a * lz b = lz (a * b) from (Int64.ofInt_mul a b).symm]; exact (kk H locs ls hW hS hL))
theorem v_lcmp (X : VX K cc nL Ts own) {x y : Int64} (z : Int) (hd : decode cc pc = .ok (.lcmp, 1)) (hz : lg_cmp x y = iz z) (kk : V K nL cells slots N sh ad M L R lv (.int (iz z) :: st) (pc + 1)) : V K nL cells slots N sh ad M L R lv (.long y :: .long x :: st) pc := fun H locs ls hW hS hL => W.lcmp X.1 X.2.1 hd (by rw [hz]; exact (kk H locs ls hW hS hL))
theorem v_ldc2 (X : VX K cc nL Ts own) {index : Nat} {x : Int64} (hc : Jvm.Cond.constantLong own index x ∈ Ts) (hd : decode cc pc = .ok (.ldc2_w index, 3)) (kk : V K nL cells slots N sh ad M L R lv (.long x :: st) (pc + 3)) : V K nL cells slots N sh ad M L R lv st pc := fun H locs ls hW hS hL => lv_ldc2 X.1 X.2.1 X.2.2.2.1 (X.2.2.2.2.1 _ hc) hd (kk H locs ls hW hS hL)
theorem v_dup (X : VX K cc nL Ts own) {va : Value} (hd : decode cc pc = .ok (.dup, 1)) (hv : va.category = 1) (kk : V K nL cells slots N sh ad M L R lv (va :: va :: st) (pc + 1)) : V K nL cells slots N sh ad M L R lv (va :: st) pc := fun H locs ls hW hS hL => lv_dup X.1 X.2.1 hd hv (kk H locs ls hW hS hL)
theorem v_dup2 (X : VX K cc nL Ts own) {va vb : Value} (hd : decode cc pc = .ok (.dup2, 1)) (hv : va.category = 1) (hv2 : vb.category = 1) (kk : V K nL cells slots N sh ad M L R lv (va :: vb :: va :: vb :: st) (pc + 1)) : V K nL cells slots N sh ad M L R lv (va :: vb :: st) pc := fun H locs ls hW hS hL => lv_dup2_11 X.1 X.2.1 hd hv hv2 (kk H locs ls hW hS hL)
theorem v_if_eq (X : VX K cc nL Ts own) {z off : Int} (tgt : Nat) (hd : decode cc pc = .ok (.ifCond .eq off, 3)) (ht : (pc : Int) + off = (tgt : Int)) (hz : inR z) (kt : z = 0 → V K nL cells slots N sh ad M L R lv st tgt) (kf : ¬ (z = 0) → V K nL cells slots N sh ad M L R lv st (pc + 3)) : V K nL cells slots N sh ad M L R lv (.int (iz z) :: st) pc := fun H locs ls hW hS hL => lv_if_eq X.1 X.2.1 hd ht (fun q => kt ((iz_eq hz in0).mp (by rw [iz_0]; exact q)) H locs ls hW hS hL) (fun q => kf (fun e => q (by rw [e]; exact iz_0)) H locs ls hW hS hL)
theorem v_if_ne (X : VX K cc nL Ts own) {z off : Int} (tgt : Nat) (hd : decode cc pc = .ok (.ifCond .ne off, 3)) (ht : (pc : Int) + off = (tgt : Int)) (hz : inR z) (kt : z ≠ 0 → V K nL cells slots N sh ad M L R lv st tgt) (kf : ¬ (z ≠ 0) → V K nL cells slots N sh ad M L R lv st (pc + 3)) : V K nL cells slots N sh ad M L R lv (.int (iz z) :: st) pc := fun H locs ls hW hS hL => lv_if_ne X.1 X.2.1 hd ht (fun q => kt (fun e => q (by rw [e]; exact iz_0)) H locs ls hW hS hL) (fun q => kf (fun e => e ((iz_eq hz in0).mp (by rw [iz_0]; exact q))) H locs ls hW hS hL)
theorem v_if_lt (X : VX K cc nL Ts own) {z off : Int} (tgt : Nat) (hd : decode cc pc = .ok (.ifCond .lt off, 3)) (ht : (pc : Int) + off = (tgt : Int)) (hz : inR z) (kt : z < 0 → V K nL cells slots N sh ad M L R lv st tgt) (kf : ¬ (z < 0) → V K nL cells slots N sh ad M L R lv st (pc + 3)) : V K nL cells slots N sh ad M L R lv (.int (iz z) :: st) pc := fun H locs ls hW hS hL => lv_if_lt X.1 X.2.1 hd ht (fun q => kt ((iz_lt hz in0).mp (by rw [iz_0]; exact q)) H locs ls hW hS hL) (fun q => kf (fun e => q (by rw [← iz_0]; exact (iz_lt hz in0).mpr e)) H locs ls hW hS hL)
theorem v_if_ge (X : VX K cc nL Ts own) {z off : Int} (tgt : Nat) (hd : decode cc pc = .ok (.ifCond .ge off, 3)) (ht : (pc : Int) + off = (tgt : Int)) (hz : inR z) (kt : 0 ≤ z → V K nL cells slots N sh ad M L R lv st tgt) (kf : ¬ (0 ≤ z) → V K nL cells slots N sh ad M L R lv st (pc + 3)) : V K nL cells slots N sh ad M L R lv (.int (iz z) :: st) pc := fun H locs ls hW hS hL => lv_if_ge X.1 X.2.1 hd ht (fun q => kt ((iz_le in0 hz).mp (by rw [iz_0]; exact q)) H locs ls hW hS hL) (fun q => kf (fun e => q (by rw [← iz_0]; exact (iz_le in0 hz).mpr e)) H locs ls hW hS hL)
theorem v_if_gt (X : VX K cc nL Ts own) {z off : Int} (tgt : Nat) (hd : decode cc pc = .ok (.ifCond .gt off, 3)) (ht : (pc : Int) + off = (tgt : Int)) (hz : inR z) (kt : 0 < z → V K nL cells slots N sh ad M L R lv st tgt) (kf : ¬ (0 < z) → V K nL cells slots N sh ad M L R lv st (pc + 3)) : V K nL cells slots N sh ad M L R lv (.int (iz z) :: st) pc := fun H locs ls hW hS hL => lv_if_gt X.1 X.2.1 hd ht (fun q => kt ((iz_lt in0 hz).mp (by rw [iz_0]; exact q)) H locs ls hW hS hL) (fun q => kf (fun e => q (by rw [← iz_0]; exact (iz_lt in0 hz).mpr e)) H locs ls hW hS hL)
theorem v_if_le (X : VX K cc nL Ts own) {z off : Int} (tgt : Nat) (hd : decode cc pc = .ok (.ifCond .le off, 3)) (ht : (pc : Int) + off = (tgt : Int)) (hz : inR z) (kt : z ≤ 0 → V K nL cells slots N sh ad M L R lv st tgt) (kf : ¬ (z ≤ 0) → V K nL cells slots N sh ad M L R lv st (pc + 3)) : V K nL cells slots N sh ad M L R lv (.int (iz z) :: st) pc := fun H locs ls hW hS hL => lv_if_le X.1 X.2.1 hd ht (fun q => kt ((iz_le hz in0).mp (by rw [iz_0]; exact q)) H locs ls hW hS hL) (fun q => kf (fun e => q (by rw [← iz_0]; exact (iz_le hz in0).mpr e)) H locs ls hW hS hL)
theorem v_icmp_eq (X : VX K cc nL Ts own) {a b off : Int} (tgt : Nat) (hd : decode cc pc = .ok (.if_icmp .eq off, 3)) (ht : (pc : Int) + off = (tgt : Int)) (ha : inR a) (hb : inR b) (kt : a = b → V K nL cells slots N sh ad M L R lv st tgt) (kf : ¬ (a = b) → V K nL cells slots N sh ad M L R lv st (pc + 3)) : V K nL cells slots N sh ad M L R lv (.int (iz b) :: .int (iz a) :: st) pc := fun H locs ls hW hS hL => lv_icmp_eq X.1 X.2.1 hd ht (fun q => kt ((iz_eq ha hb).mp q) H locs ls hW hS hL) (fun q => kf (fun e => q (by rw [e])) H locs ls hW hS hL)
theorem v_icmp_ne (X : VX K cc nL Ts own) {a b off : Int} (tgt : Nat) (hd : decode cc pc = .ok (.if_icmp .ne off, 3)) (ht : (pc : Int) + off = (tgt : Int)) (ha : inR a) (hb : inR b) (kt : a ≠ b → V K nL cells slots N sh ad M L R lv st tgt) (kf : ¬ (a ≠ b) → V K nL cells slots N sh ad M L R lv st (pc + 3)) : V K nL cells slots N sh ad M L R lv (.int (iz b) :: .int (iz a) :: st) pc := fun H locs ls hW hS hL => lv_icmp_ne X.1 X.2.1 hd ht (fun q => kt (fun e => q (by rw [e])) H locs ls hW hS hL) (fun q => kf (fun e => e ((iz_eq ha hb).mp q)) H locs ls hW hS hL)
theorem v_icmp_lt (X : VX K cc nL Ts own) {a b off : Int} (tgt : Nat) (hd : decode cc pc = .ok (.if_icmp .lt off, 3)) (ht : (pc : Int) + off = (tgt : Int)) (ha : inR a) (hb : inR b) (kt : a < b → V K nL cells slots N sh ad M L R lv st tgt) (kf : ¬ (a < b) → V K nL cells slots N sh ad M L R lv st (pc + 3)) : V K nL cells slots N sh ad M L R lv (.int (iz b) :: .int (iz a) :: st) pc := fun H locs ls hW hS hL => lv_icmp_lt X.1 X.2.1 hd ht (fun q => kt ((iz_lt ha hb).mp q) H locs ls hW hS hL) (fun q => kf (fun e => q ((iz_lt ha hb).mpr e)) H locs ls hW hS hL)
theorem v_icmp_ge (X : VX K cc nL Ts own) {a b off : Int} (tgt : Nat) (hd : decode cc pc = .ok (.if_icmp .ge off, 3)) (ht : (pc : Int) + off = (tgt : Int)) (ha : inR a) (hb : inR b) (kt : b ≤ a → V K nL cells slots N sh ad M L R lv st tgt) (kf : ¬ (b ≤ a) → V K nL cells slots N sh ad M L R lv st (pc + 3)) : V K nL cells slots N sh ad M L R lv (.int (iz b) :: .int (iz a) :: st) pc := fun H locs ls hW hS hL => lv_icmp_ge X.1 X.2.1 hd ht (fun q => kt ((iz_le hb ha).mp q) H locs ls hW hS hL) (fun q => kf (fun e => q ((iz_le hb ha).mpr e)) H locs ls hW hS hL)
theorem v_icmp_gt (X : VX K cc nL Ts own) {a b off : Int} (tgt : Nat) (hd : decode cc pc = .ok (.if_icmp .gt off, 3)) (ht : (pc : Int) + off = (tgt : Int)) (ha : inR a) (hb : inR b) (kt : b < a → V K nL cells slots N sh ad M L R lv st tgt) (kf : ¬ (b < a) → V K nL cells slots N sh ad M L R lv st (pc + 3)) : V K nL cells slots N sh ad M L R lv (.int (iz b) :: .int (iz a) :: st) pc := fun H locs ls hW hS hL => lv_icmp_gt X.1 X.2.1 hd ht (fun q => kt ((iz_lt hb ha).mp q) H locs ls hW hS hL) (fun q => kf (fun e => q ((iz_lt hb ha).mpr e)) H locs ls hW hS hL)
theorem v_icmp_le (X : VX K cc nL Ts own) {a b off : Int} (tgt : Nat) (hd : decode cc pc = .ok (.if_icmp .le off, 3)) (ht : (pc : Int) + off = (tgt : Int)) (ha : inR a) (hb : inR b) (kt : a ≤ b → V K nL cells slots N sh ad M L R lv st tgt) (kf : ¬ (a ≤ b) → V K nL cells slots N sh ad M L R lv st (pc + 3)) : V K nL cells slots N sh ad M L R lv (.int (iz b) :: .int (iz a) :: st) pc := fun H locs ls hW hS hL => lv_icmp_le X.1 X.2.1 hd ht (fun q => kt ((iz_le ha hb).mp q) H locs ls hW hS hL) (fun q => kf (fun e => q ((iz_le ha hb).mpr e)) H locs ls hW hS hL)
theorem v_goto (X : VX K cc nL Ts own) {off : Int} (tgt : Nat) (hd : decode cc pc = .ok (.goto off, 3)) (ht : (pc : Int) + off = (tgt : Int)) (kk : V K nL cells slots N sh ad M L R lv st tgt) : V K nL cells slots N sh ad M L R lv st pc := fun H locs ls hW hS hL => lv_goto X.1 X.2.1 hd ht (kk H locs ls hW hS hL)
theorem v_ifnull (X : VX K cc nL Ts own) {x : Nat} {off : Int} (hd : decode cc pc = .ok (.ifnull off, 3)) (kk : V K nL cells slots N sh ad M L R lv st (pc + 3)) : V K nL cells slots N sh ad M L R lv (.ref x :: st) pc := fun H locs ls hW hS hL => lv_ifnull X.1 X.2.1 hd (kk H locs ls hW hS hL)
theorem v_ifnullN (X : VX K cc nL Ts own) {off : Int} (tgt : Nat) (hd : decode cc pc = .ok (.ifnull off, 3)) (ht : (pc : Int) + off = (tgt : Int)) (kk : V K nL cells slots N sh ad M L R lv st tgt) : V K nL cells slots N sh ad M L R lv (.null :: st) pc := fun H locs ls hW hS hL => lv_ifnullN X.1 X.2.1 hd ht (kk H locs ls hW hS hL)
theorem v_ifnonnull (X : VX K cc nL Ts own) {x : Nat} {off : Int} (tgt : Nat) (hd : decode cc pc = .ok (.ifnonnull off, 3)) (ht : (pc : Int) + off = (tgt : Int)) (kk : V K nL cells slots N sh ad M L R lv st tgt) : V K nL cells slots N sh ad M L R lv (.ref x :: st) pc := fun H locs ls hW hS hL => lv_ifnonnull X.1 X.2.1 hd ht (kk H locs ls hW hS hL)
theorem v_ifnonnullN (X : VX K cc nL Ts own) {off : Int} (hd : decode cc pc = .ok (.ifnonnull off, 3)) (kk : V K nL cells slots N sh ad M L R lv st (pc + 3)) : V K nL cells slots N sh ad M L R lv (.null :: st) pc := fun H locs ls hW hS hL => lv_ifnonnullN X.1 X.2.1 hd (kk H locs ls hW hS hL)
theorem v_tabOut (X : VX K cc nL Ts own) {dflt lo hi : Int} {offs : Array Int} {len : Nat} {z : Int} (tgt : Nat) (hd : decode cc pc = .ok (.tableswitch dflt lo hi offs, len)) (hz : inR z) (h : z < lo ∨ hi < z) (ht : (pc : Int) + dflt = (tgt : Int)) (kk : V K nL cells slots N sh ad M L R lv st tgt) : V K nL cells slots N sh ad M L R lv (.int (iz z) :: st) pc := fun H locs ls hW hS hL => lv_tableOut X.1 X.2.1 hd (by rw [iz_toInt hz]; exact h) ht (kk H locs ls hW hS hL)
theorem v_tabIn (X : VX K cc nL Ts own) {dflt lo hi : Int} {offs : Array Int} {len : Nat} {z off : Int} (tgt : Nat) (hd : decode cc pc = .ok (.tableswitch dflt lo hi offs, len)) (hz : inR z) (h1 : ¬ z < lo) (h2 : ¬ hi < z) (ho : offs[(z - lo).toNat]? = some off) (ht : (pc : Int) + off = (tgt : Int)) (kk : V K nL cells slots N sh ad M L R lv st tgt) : V K nL cells slots N sh ad M L R lv (.int (iz z) :: st) pc := fun H locs ls hW hS hL => lv_tableIn X.1 X.2.1 hd (by rw [iz_toInt hz]; exact h1) (by rw [iz_toInt hz]; exact h2) (by rw [iz_toInt hz]; exact ho) ht (kk H locs ls hW hS hL)
theorem v_lookup (X : VX K cc nL Ts own) {dflt : Int} {ps : Array (Int × Int)} {len : Nat} {z off : Int} (tgt : Nat) (hd : decode cc pc = .ok (.lookupswitch dflt ps, len)) (hp : (ps.toList.zip (ps.toList.drop 1)).all (fun (a, next) => a.1 < next.1) = true) (hz : inR z) (ho : Op.lookupswitch.offset ps.toList dflt z = off) (ht : (pc : Int) + off = (tgt : Int)) (kk : V K nL cells slots N sh ad M L R lv st tgt) : V K nL cells slots N sh ad M L R lv (.int (iz z) :: st) pc := fun H locs ls hW hS hL => lv_lookup X.1 X.2.1 hd hp (by rw [iz_toInt hz]; exact ho) ht (kk H locs ls hW hS hL)
end RowsB
