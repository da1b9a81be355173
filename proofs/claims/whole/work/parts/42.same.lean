/-! TWO CODES ALIKE: the class's code against the model's -/
theorem or_nI {a k : Nat} (hk : k < 32) (ha : a < 10000) : nI (a * 2 ^ 5) ||| nI k = nI (a * 2 ^ 5 + k) := by
  apply Int32.toBitVec_inj.mp
  apply BitVec.eq_of_toNat_eq
  rw [Int32.toBitVec_or, BitVec.toNat_or, pk_tn (by omega), pk_tn (by omega), pk_tn (by omega), Nat.mul_comm a, Nat.two_pow_add_eq_or_of_lt (i := 5) (by omega)]
theorem emC_e {k v : Int} (h1 : 0 ≤ k) (h2 : k < 32) (h3 : 0 ≤ v) (h4 : v < 10000) : emC k v = 32 * v + k := by
  obtain ⟨a, rfl⟩ : ∃ a : Nat, v = (a : Int) := ⟨v.toNat, by omega⟩
  obtain ⟨b, rfl⟩ : ∃ b : Nat, k = (b : Int) := ⟨k.toNat, by omega⟩
  unfold emC orI shlI
  rw [iz_self, ← iz_ofNat, ← iz_ofNat]
  show (nI a <<< _ ||| nI b).toInt = _
  rw [pk_shlN (n := a) _ 5 (by decide) (by omega), or_nI (by omega) (by omega), nI_toInt (by omega)]
  omega
theorem kdI_em {k v : Int} (h1 : 0 ≤ k) (h2 : k < 32) (h3 : 0 ≤ v) (h4 : v < 10000) : kdI (emC k v) = k := by
  rw [emC_e h1 h2 h3 h4]
  obtain ⟨a, ha⟩ : ∃ a : Nat, 32 * v + k = (a : Int) := ⟨(32 * v + k).toNat, by omega⟩
  unfold kdI
  rw [ha, ← iz_ofNat]
  show (nI a &&& _).toInt = _
  rw [pk_andN (n := a) (by omega) 5 (by decide), nI_toInt (by omega)]
  omega
theorem vlI_em {k v : Int} (h1 : 0 ≤ k) (h2 : k < 32) (h3 : 0 ≤ v) (h4 : v < 10000) : vlI (emC k v) = v := by
  rw [emC_e h1 h2 h3 h4]
  obtain ⟨a, ha⟩ : ∃ a : Nat, 32 * v + k = (a : Int) := ⟨(32 * v + k).toNat, by omega⟩
  unfold vlI
  rw [ha, ← iz_ofNat]
  show (nI a >>> _).toInt = _
  rw [pk_shrN (n := a) (by omega) _ 5 (by decide), nI_toInt (by omega)]
  omega
/-- a model's piece of code, as the class has it -/
def toC (op arg : Int) : Int := if op = 0 then emC 25 arg else if op = 1 then emC (6 + arg) 0 else emC (14 + op) 0
/-- the class's code at work on a stack -/
def rn (cd v : Int → Int) (s : List Int) (a : Int) : Nat → List Int
  | 0 => s
  | n + 1 => cStep v (rn cd v s a n) (cd (a + (n : Int)))
theorem rn_s (cd v : Int → Int) (s : List Int) (a : Int) (n : Nat) : rn cd v s a (n + 1) = cStep v (rn cd v s a n) (cd (a + (n : Int))) := rfl
theorem rn_cRun (cd v : Int → Int) (a : Int) : ∀ n : Nat, cRun cd v a n = rn cd v [] a n
  | 0 => rfl
  | n + 1 => by rw [cRun_s, rn_s, rn_cRun cd v a n]
theorem rn_add (cd v : Int → Int) (s : List Int) (a : Int) (n : Nat) : ∀ m : Nat, rn cd v s a (n + m) = rn cd v (rn cd v s a n) (a + (n : Int)) m
  | 0 => rfl
  | m + 1 => by
    show cStep v (rn cd v s a (n + m)) (cd (a + ((n + m : Nat) : Int))) = cStep v (rn cd v (rn cd v s a n) (a + (n : Int)) m) (cd (a + (n : Int) + (m : Int)))
    rw [rn_add cd v s a n m, show a + ((n + m : Nat) : Int) = a + (n : Int) + (m : Int) by omega]
theorem rn_congr {cd cd' v : Int → Int} {s : List Int} {a : Int} : ∀ n : Nat, (∀ i : Nat, i < n → cd' (a + (i : Int)) = cd (a + (i : Int))) → rn cd' v s a n = rn cd v s a n
  | 0, _ => rfl
  | n + 1, h => by rw [rn_s, rn_s, rn_congr n (fun i hi => h i (by omega)), h n (by omega)]
theorem vRun_congr {c ci c' ci' v : Int → Int} {f : Int} : ∀ n : Nat, (∀ i : Nat, i < n → c' (f + (i : Int)) = c (f + (i : Int)) ∧ ci' (f + (i : Int)) = ci (f + (i : Int))) → vRun c' ci' v f n = vRun c ci v f n
  | 0, _ => rfl
  | n + 1, h => by rw [vRun_s, vRun_s, vRun_congr n (fun i hi => h i (by omega)), (h n (by omega)).1, (h n (by omega)).2]
/-- the height of the model's stack -/
def hgt (c : Int → Int) (f : Int) : Nat → Int
  | 0 => 0
  | n + 1 => if c (f + (n : Int)) < 2 then hgt c f n + 1 else hgt c f n - 1
theorem hgt_s (c : Int → Int) (f : Int) (n : Nat) : hgt c f (n + 1) = if c (f + (n : Int)) < 2 then hgt c f n + 1 else hgt c f n - 1 := rfl
theorem hgt_congr {c c' : Int → Int} {f : Int} : ∀ n : Nat, (∀ i : Nat, i < n → c' (f + (i : Int)) = c (f + (i : Int))) → hgt c' f n = hgt c f n
  | 0, _ => rfl
  | n + 1, h => by rw [hgt_s, hgt_s, hgt_congr n (fun i hi => h i (by omega)), h n (by omega)]
/-- a code of k pieces that never wants what isn't there -/
def mlw (c ci : Int → Int) (f : Int) (k : Nat) : Prop := ∀ i : Nat, i < k → (0 ≤ c (f + (i : Int)) ∧ c (f + (i : Int)) ≤ 4) ∧ (c (f + (i : Int)) = 0 → 0 ≤ ci (f + (i : Int)) ∧ ci (f + (i : Int)) < 10000) ∧ (c (f + (i : Int)) = 1 → 0 ≤ ci (f + (i : Int)) ∧ ci (f + (i : Int)) < 9) ∧ (2 ≤ c (f + (i : Int)) → 2 ≤ hgt c f i) ∧ hgt c f i ≤ 20
theorem mlw_congr {c ci c' ci' : Int → Int} {f : Int} {k : Nat} (h : mlw c ci f k) (e : ∀ i : Nat, i < k → c' (f + (i : Int)) = c (f + (i : Int)) ∧ ci' (f + (i : Int)) = ci (f + (i : Int))) : mlw c' ci' f k := by
  intro i hi
  rw [(e i hi).1, (e i hi).2, hgt_congr (c' := c') (c := c) i (fun j hj => (e j (by omega)).1)]
  exact h i hi
theorem bin2 {f : Int → Int → Int} {x y : Int} {t s : List Int} : bin f (x :: y :: t) ++ s = bin f (x :: y :: t ++ s) := rfl
/-- alike: both at work on their code -/
theorem run_same {cd c ci : Int → Int} {a f : Int} {k : Nat} (hA : ∀ i : Nat, i < k → cd (a + (i : Int)) = toC (c (f + (i : Int))) (ci (f + (i : Int)))) (hW : mlw c ci f k) {v : Int → Int} {s : List Int} (hs : s.length ≤ 8) : ∀ i : Nat, i ≤ k → rn cd v s a i = vRun c ci v f i ++ s ∧ ((vRun c ci v f i).length : Int) = hgt c f i
  | 0, _ => ⟨rfl, rfl⟩
  | i + 1, hi => by
    have ih := run_same hA hW (v := v) hs i (by omega)
    obtain ⟨h1, h2, h3, h4, h5⟩ := hW i (by omega)
    have hl : ((vRun c ci v f i ++ s).length : Int) < 32 := by
      rw [List.length_append]
      omega
    rw [rn_s, vRun_s, hgt_s, ih.1, hA i (by omega)]
    generalize c (f + (i : Int)) = op at *
    generalize ci (f + (i : Int)) = arg at *
    unfold toC vStep cStep
    by_cases c0 : op = 0
    · have h2 := h2 c0
      rw [if_pos c0, kdI_em (by decide) (by decide) h2.1 h2.2, vlI_em (by decide) (by decide) h2.1 h2.2, if_pos ⟨rfl, hl⟩, if_pos (by omega), if_pos c0, if_pos (by omega)]
      exact ⟨rfl, by simp only [List.length_cons]; omega⟩
    · by_cases c1 : op = 1
      · have h3 := h3 c1
        rw [if_neg c0, if_pos c1, kdI_em (by omega) (by omega) (by decide) (by decide), if_neg (by omega), if_pos (by omega), if_pos (by omega), if_neg c0, if_pos (by omega), show 6 + arg - 6 = arg by omega]
        exact ⟨rfl, by simp only [List.length_cons]; omega⟩
      · have h4 := h4 (by omega)
        rw [if_neg c0, if_neg c1, kdI_em (by omega) (by omega) (by decide) (by decide), if_neg (by omega), if_neg (by omega), if_neg (by omega), if_neg (by omega)]
        obtain ⟨x, y, t, e⟩ := two_of (st := vRun c ci v f i) (by omega)
        have ih2 := ih.2
        rw [e] at ih2 ⊢
        simp only [List.length_cons] at ih2
        refine ⟨?_, ?_⟩
        · show joinC (14 + op) y x :: (t ++ s) = mBin op y x :: (t ++ s)
          congr 1
          unfold joinC mBin
          by_cases c2 : op = 2
          · rw [if_pos (by omega), if_pos c2]
          · by_cases c3 : op = 3
            · rw [if_neg (by omega), if_pos (by omega), if_neg c2, if_pos c3]
            · rw [if_neg (by omega), if_neg (by omega), if_pos (by omega), if_neg c2, if_neg c3]
        · show ((mBin op y x :: t).length : Int) = _
          simp only [List.length_cons]
          omega
/-- an E: class's code at a, model's at f, k pieces -/
def EOk (cd c ci : Int → Int) (a f : Int) (k : Nat) : Prop := (∀ i : Nat, i < k → cd (a + (i : Int)) = toC (c (f + (i : Int))) (ci (f + (i : Int)))) ∧ mlw c ci f k ∧ hgt c f k = 1
theorem EOk_congr {cd c ci cd' c' ci' : Int → Int} {a f : Int} {k : Nat} (h : EOk cd c ci a f k) (e : ∀ i : Nat, i < k → cd' (a + (i : Int)) = cd (a + (i : Int))) (e2 : ∀ i : Nat, i < k → c' (f + (i : Int)) = c (f + (i : Int)) ∧ ci' (f + (i : Int)) = ci (f + (i : Int))) : EOk cd' c' ci' a f k := by
  refine ⟨fun i hi => ?_, mlw_congr h.2.1 e2, ?_⟩
  · rw [e i hi, (e2 i hi).1, (e2 i hi).2]; exact h.1 i hi
  · rw [hgt_congr k (fun i hi => (e2 i hi).1)]; exact h.2.2
theorem EOk_pos {cd c ci : Int → Int} {a f : Int} {k : Nat} (h : EOk cd c ci a f k) : 1 ≤ k := by
  cases k with
  | zero => have := h.2.2; simp [hgt] at this
  | succ k => omega
theorem EOk_one {cd c ci : Int → Int} {a f : Int} {k : Nat} (h : EOk cd c ci a f k) (v : Int → Int) : vRun c ci v f k = [mVal c ci v f (f + (k : Int))] := by
  have q := (run_same h.1 h.2.1 (v := v) (s := []) (by simp) k (Nat.le_refl _)).2
  rw [h.2.2] at q
  unfold mVal
  rw [show (f + (k : Int) - f).toNat = k by omega]
  match hq : vRun c ci v f k, q with
  | [x], _ => rfl
  | [], q => simp at q
  | x :: y :: t, q => simp only [List.length_cons] at q; omega
theorem EOk_run {cd c ci : Int → Int} {a f : Int} {k : Nat} (h : EOk cd c ci a f k) (v : Int → Int) {s : List Int} (hs : s.length ≤ 8) : rn cd v s a k = mVal c ci v f (f + (k : Int)) :: s := by
  rw [(run_same h.1 h.2.1 hs k (Nat.le_refl _)).1, EOk_one h v]
  rfl
theorem EOk_wf {cd c ci : Int → Int} {a f : Int} {k : Nat} (h : EOk cd c ci a f k) (h0 : 0 ≤ f) (h1 : f + (k : Int) ≤ 1000) (h2 : k ≤ 400) : mWf c ci f (f + (k : Int)) := by
  have hp := EOk_pos h
  refine ⟨⟨h0, by omega, h1, by omega⟩, fun n hn => ?_, fun v => ?_⟩
  · have q := h.2.1 n (by omega)
    refine ⟨q.1.1, q.2.2.1, fun v hv => ?_⟩
    rw [(run_same h.1 h.2.1 (v := v) (s := []) (by simp) n (by omega)).2]
    exact q.2.2.2.1 hv
  · rw [show (f + (k : Int) - f).toNat = k by omega, EOk_one h v]
    simp
/-! what waits -/
def opens : List Int → Int
  | [] => 0
  | x :: t => (if x = 6 then 1 else 0) + opens t
def nops : List Int → Int
  | [] => 0
  | x :: t => (if x = 6 then 0 else 1) + nops t
def wOk : List Int → Prop
  | [] => True
  | x :: t => ((x = 6) ∨ (x = 10 ∧ t.head? ≠ some 10) ∨ ((x = 8 ∨ x = 9) ∧ (t = [] ∨ t.head? = some 6))) ∧ wOk t
theorem op_len : ∀ w : List Int, opens w + nops w = (w.length : Int) ∧ 0 ≤ opens w ∧ 0 ≤ nops w
  | [] => ⟨rfl, Int.le_refl _, Int.le_refl _⟩
  | x :: t => by
    have := op_len t
    show (if x = 6 then 1 else 0) + opens t + ((if x = 6 then 0 else 1) + nops t) = ((x :: t).length : Int) ∧ 0 ≤ (if x = 6 then 1 else 0) + opens t ∧ 0 ≤ (if x = 6 then 0 else 1) + nops t
    simp only [List.length_cons]
    split <;> omega
theorem wOk_b : ∀ w : List Int, wOk w → nops w ≤ 2 * opens w + 2 ∧ (w.head? ≠ some 10 → nops w ≤ 2 * opens w + 1) ∧ (w = [] ∨ w.head? = some 6 → nops w ≤ 2 * opens w)
  | [], _ => ⟨by simp [nops, opens], fun _ => by simp [nops, opens], fun _ => by simp [nops, opens]⟩
  | x :: t, h => by
    have ih := wOk_b t h.2
    show (if x = 6 then 0 else 1) + nops t ≤ 2 * ((if x = 6 then 1 else 0) + opens t) + 2 ∧ _ ∧ _
    rcases h.1 with rfl | ⟨rfl, h1⟩ | ⟨h0, h1⟩
    · refine ⟨?_, fun _ => ?_, fun _ => ?_⟩
      · rw [if_pos rfl, if_pos rfl]; omega
      · show (if (6 : Int) = 6 then 0 else 1) + nops t ≤ 2 * ((if (6 : Int) = 6 then 1 else 0) + opens t) + 1
        rw [if_pos rfl, if_pos rfl]; omega
      · show (if (6 : Int) = 6 then 0 else 1) + nops t ≤ 2 * ((if (6 : Int) = 6 then 1 else 0) + opens t)
        rw [if_pos rfl, if_pos rfl]; omega
    · have := ih.2.1 h1
      refine ⟨?_, fun z => absurd rfl z, fun z => ?_⟩
      · rw [if_neg (by decide), if_neg (by decide)]; omega
      · rcases z with z | z
        · cases z
        · cases z
    · have := ih.2.2 h1
      have hx : x ≠ 6 := by omega
      refine ⟨?_, fun _ => ?_, fun z => ?_⟩
      · rw [if_neg hx, if_neg hx]; omega
      · show (if x = 6 then 0 else 1) + nops t ≤ 2 * ((if x = 6 then 1 else 0) + opens t) + 1
        rw [if_neg hx, if_neg hx]; omega
      · rcases z with z | z
        · cases z
        · exact absurd (Option.some.inj z) hx
theorem wOk_mem : ∀ {w : List Int}, wOk w → ∀ x ∈ w, x = 6 ∨ x = 8 ∨ x = 9 ∨ x = 10
  | [], _, x, hx => by simp at hx
  | y :: t, h, x, hx => by
    rcases List.mem_cons.mp hx with rfl | hx
    · rcases h.1 with a | a | a <;> omega
    · exact wOk_mem h.2 x hx
/-- the model lets come out: all down to a bracket, or what is times alone -/
def mpB (tm x : Int) : Prop := x ≠ 6 ∧ (tm = 0 ∨ x = 10)
def opm (x : Int) : Int := if x = 8 then 2 else if x = 9 then 3 else 4
def mpW (tm : Int) : List Int → List Int
  | [] => []
  | x :: t => if x ≠ 6 ∧ (tm = 0 ∨ x = 10) then mpW tm t else x :: t
def mpZ (tm : Int) : List Int → Int → Int
  | [], z => z
  | x :: t, z => if x ≠ 6 ∧ (tm = 0 ∨ x = 10) then mpZ tm t (z + 1) else z
def mpC (tm : Int) : List Int → Int → (Int → Int) → (Int → Int)
  | [], _, c => c
  | x :: t, z, c => if x ≠ 6 ∧ (tm = 0 ∨ x = 10) then mpC tm t (z + 1) (fu c z (opm x)) else c
def mpI (tm : Int) : List Int → Int → (Int → Int) → (Int → Int)
  | [], _, c => c
  | x :: t, z, c => if x ≠ 6 ∧ (tm = 0 ∨ x = 10) then mpI tm t (z + 1) (fu c z 0) else c
theorem mp_go {tm x z : Int} {t : List Int} {c ci : Int → Int} (h : x ≠ 6 ∧ (tm = 0 ∨ x = 10)) : mpW tm (x :: t) = mpW tm t ∧ mpZ tm (x :: t) z = mpZ tm t (z + 1) ∧ mpC tm (x :: t) z c = mpC tm t (z + 1) (fu c z (opm x)) ∧ mpI tm (x :: t) z ci = mpI tm t (z + 1) (fu ci z 0) := ⟨if_pos h, if_pos h, if_pos h, if_pos h⟩
theorem mp_stop {tm z : Int} {w : List Int} {c ci : Int → Int} (h : w = [] ∨ ∃ x t, w = x :: t ∧ ¬ (x ≠ 6 ∧ (tm = 0 ∨ x = 10))) : mpW tm w = w ∧ mpZ tm w z = z ∧ mpC tm w z c = c ∧ mpI tm w z ci = ci := by
  rcases h with rfl | ⟨x, t, rfl, h⟩
  · exact ⟨rfl, rfl, rfl, rfl⟩
  · exact ⟨if_neg h, if_neg h, if_neg h, if_neg h⟩
theorem mp_len {tm : Int} : ∀ {w : List Int} {z : Int}, (mpW tm w).length ≤ w.length ∧ mpZ tm w z = z + (w.length : Int) - ((mpW tm w).length : Int)
  | [], z => ⟨Nat.le_refl _, by show z = z + 0 - 0; omega⟩
  | x :: t, z => by
    unfold mpW mpZ
    by_cases h : x ≠ 6 ∧ (tm = 0 ∨ x = 10)
    · rw [if_pos h, if_pos h]
      have := mp_len (tm := tm) (w := t) (z := z + 1)
      simp only [List.length_cons]
      omega
    · rw [if_neg h, if_neg h]
      omega
theorem mp_out {tm : Int} : ∀ {w : List Int} {z b : Int} {c ci : Int → Int}, (b < z ∨ z + (w.length : Int) ≤ b) → mpC tm w z c b = c b ∧ mpI tm w z ci b = ci b
  | [], z, b, c, ci, h => ⟨rfl, rfl⟩
  | x :: t, z, b, c, ci, h => by
    unfold mpC mpI
    simp only [List.length_cons] at h
    by_cases q : x ≠ 6 ∧ (tm = 0 ∨ x = 10)
    · rw [if_pos q, if_pos q, (mp_out (w := t) (ci := fu ci z 0) (by omega)).1, (mp_out (w := t) (c := fu c z (opm x)) (by omega)).2]
      unfold fu
      rw [if_neg (by omega), if_neg (by omega)]
      exact ⟨rfl, rfl⟩
    · rw [if_neg q, if_neg q]
      exact ⟨rfl, rfl⟩
/-- in step: what has come out since cz0 and mz0 -/
def LSq (cz0 mz0 : Int) (cd0 cd c ci : Int → Int) (k : Nat) : Prop := (∀ z : Int, z < cz0 → cd z = cd0 z) ∧ (∀ i : Nat, i < k → cd (cz0 + (i : Int)) = toC (c (mz0 + (i : Int))) (ci (mz0 + (i : Int)))) ∧ mlw c ci mz0 k
theorem fu_s (f : Int → Int) (k v : Int) : fu f k v k = v := if_pos rfl
theorem fu_n (f : Int → Int) {k b : Int} (v : Int) (h : b ≠ k) : fu f k v b = f b := if_neg h
theorem LS_emit {cz0 mz0 : Int} {cd0 cd c ci : Int → Int} {k : Nat} (h : LSq cz0 mz0 cd0 cd c ci k) {op arg : Int} (h0 : 0 ≤ op ∧ op ≤ 4) (h1 : op = 0 → 0 ≤ arg ∧ arg < 10000) (h2 : op = 1 → 0 ≤ arg ∧ arg < 9) (h3 : 2 ≤ op → 2 ≤ hgt c mz0 k) (h4 : hgt c mz0 k ≤ 20) : LSq cz0 mz0 cd0 (fu cd (cz0 + (k : Int)) (toC op arg)) (fu c (mz0 + (k : Int)) op) (fu ci (mz0 + (k : Int)) arg) (k + 1) ∧ hgt (fu c (mz0 + (k : Int)) op) mz0 (k + 1) = if op < 2 then hgt c mz0 k + 1 else hgt c mz0 k - 1 := by
  have hh : ∀ i : Nat, i ≤ k → hgt (fu c (mz0 + (k : Int)) op) mz0 i = hgt c mz0 i := fun i hi => hgt_congr i (fun j hj => fu_n _ _ (by omega))
  refine ⟨⟨fun z hz => ?_, fun i hi => ?_, fun i hi => ?_⟩, ?_⟩
  · rw [fu_n _ _ (by omega)]; exact h.1 z hz
  · by_cases e : i = k
    · subst e; rw [fu_s, fu_s, fu_s]
    · rw [fu_n _ _ (by omega), fu_n _ _ (by omega), fu_n _ _ (by omega)]; exact h.2.1 i (by omega)
  · rw [hh i (by omega)]
    by_cases e : i = k
    · subst e; rw [fu_s, fu_s]; exact ⟨h0, h1, h2, h3, h4⟩
    · rw [fu_n _ _ (by omega), fu_n _ _ (by omega)]; exact h.2.2 i (by omega)
  · rw [hgt_s, fu_s, hh k (Nat.le_refl _)]
theorem opm_C {x : Int} (h : x = 8 ∨ x = 9 ∨ x = 10) : (2 ≤ opm x ∧ opm x ≤ 4) ∧ toC (opm x) 0 = emC (cOf x) 0 ∧ cOf x ≠ 23 := by
  rcases h with rfl | rfl | rfl
  · exact ⟨by decide, rfl, by decide⟩
  · exact ⟨by decide, rfl, by decide⟩
  · exact ⟨by decide, rfl, by decide⟩
theorem LS_pop {cz0 mz0 tm r : Int} {cd0 : Int → Int} {wt0 : List Int} (hr : ∀ x : Int, (x = 8 ∨ x = 9 ∨ x = 10) → ((tm = 0 ∨ x = 10) ↔ r ≤ rkI (cOf x))) : ∀ {w : List Int} {k : Nat} {cd c ci : Int → Int}, wOk w → ((∀ (z : Int) (d : Int → Int), rlW r wt0 = wt0 ∧ rlZ r wt0 z = z ∧ rlD r wt0 z d = d) ∨ 0 < opens w) → cz0 + (k : Int) + (w.length : Int) ≤ 400 → LSq cz0 mz0 cd0 cd c ci k → hgt c mz0 k = nops w + 1 → nops w ≤ 19 →
    rlW r (w.map cOf ++ wt0) = (mpW tm w).map cOf ++ wt0 ∧ rlZ r (w.map cOf ++ wt0) (cz0 + (k : Int)) = cz0 + ((k + (w.length - (mpW tm w).length) : Nat) : Int) ∧ LSq cz0 mz0 cd0 (rlD r (w.map cOf ++ wt0) (cz0 + (k : Int)) cd) (mpC tm w (mz0 + (k : Int)) c) (mpI tm w (mz0 + (k : Int)) ci) (k + (w.length - (mpW tm w).length)) ∧ hgt (mpC tm w (mz0 + (k : Int)) c) mz0 (k + (w.length - (mpW tm w).length)) = nops (mpW tm w) + 1 ∧ wOk (mpW tm w) ∧ opens (mpW tm w) = opens w
  | [], k, cd, c, ci, _, hs, _, hL, hh, _ => by
    rcases hs with hs | hs
    · have a := hs (cz0 + (k : Int)) cd
      show rlW r wt0 = wt0 ∧ rlZ r wt0 (cz0 + (k : Int)) = cz0 + ((k + 0 : Nat) : Int) ∧ LSq cz0 mz0 cd0 (rlD r wt0 (cz0 + (k : Int)) cd) c ci (k + 0) ∧ hgt c mz0 (k + 0) = nops [] + 1 ∧ True ∧ opens [] = opens []
      rw [a.1, a.2.1, a.2.2]
      exact ⟨rfl, rfl, hL, hh, trivial, rfl⟩
    · exact absurd hs (by simp [opens])
  | x :: t, k, cd, c, ci, hw, hs, hz, hL, hh, hn => by
    have hx := wOk_mem hw x List.mem_cons_self
    have hl := (mp_len (tm := tm) (w := t) (z := 0)).1
    have ot := op_len t
    by_cases q : x ≠ 6 ∧ (tm = 0 ∨ x = 10)
    · have hx3 : x = 8 ∨ x = 9 ∨ x = 10 := by omega
      have o := opm_C hx3
      have hk : nops (x :: t) = 1 + nops t := by show (if x = 6 then 0 else 1) + nops t = _; rw [if_neg q.1]
      have ho : opens (x :: t) = opens t := by show (if x = 6 then 1 else 0) + opens t = _; rw [if_neg q.1]; omega
      simp only [List.length_cons] at hz
      have em := LS_emit hL (op := opm x) (arg := 0) (by omega) (by omega) (by omega) (by omega) (by omega)
      rw [o.2.1, if_neg (by omega)] at em
      have ih := LS_pop hr (w := t) (k := k + 1) hw.2 (by rw [ho] at hs; exact hs) (by omega) em.1 (by rw [em.2]; omega) (by omega)
      have g := rl_go (r := r) (x := cOf x) (z := cz0 + (k : Int)) (t := t.map cOf ++ wt0) (d := cd) o.2.2 ((hr x hx3).mp q.2)
      have p := mp_go (tm := tm) (x := x) (z := mz0 + (k : Int)) (t := t) (c := c) (ci := ci) q
      have ez : emZ (cz0 + (k : Int)) = cz0 + ((k + 1 : Nat) : Int) := by unfold emZ; rw [if_pos (by omega)]; omega
      have ed : emD (cz0 + (k : Int)) cd (cOf x) 0 = fu cd (cz0 + (k : Int)) (emC (cOf x) 0) := if_pos (by omega)
      rw [ez, ed] at g
      have e1 : mz0 + (k : Int) + 1 = mz0 + ((k + 1 : Nat) : Int) := by omega
      rw [e1] at p
      have e2 : k + ((x :: t).length - (mpW tm (x :: t)).length) = k + 1 + (t.length - (mpW tm t).length) := by rw [p.1]; simp only [List.length_cons]; omega
      rw [List.map_cons, List.cons_append, g.1, g.2.1, g.2.2, p.2.2.1, p.2.2.2, e2, p.1, ho]
      exact ih
    · have p := mp_stop (tm := tm) (z := mz0 + (k : Int)) (w := x :: t) (c := c) (ci := ci) (Or.inr ⟨x, t, rfl, q⟩)
      have g := rl_stop (r := r) (x := cOf x) (z := cz0 + (k : Int)) (t := t.map cOf ++ wt0) (d := cd) (fun y => by
        by_cases c6 : x = 6
        · exact y.1 (by rw [c6]; decide)
        · exact q ⟨c6, (hr x (by omega)).mpr y.2⟩)
      rw [List.map_cons, List.cons_append, g.1, g.2.1, g.2.2, p.1, p.2.2.1, p.2.2.2, Nat.sub_self, List.map_cons, List.cons_append]
      exact ⟨rfl, rfl, hL, hh, hw, rfl⟩
theorem hr5 : ∀ x : Int, (x = 8 ∨ x = 9 ∨ x = 10) → (((1 : Int) = 0 ∨ x = 10) ↔ 5 ≤ rkI (cOf x)) := by
  intro x h
  rcases h with rfl | rfl | rfl <;> decide
theorem hr04 {r : Int} (h0 : r ≤ 4) : ∀ x : Int, (x = 8 ∨ x = 9 ∨ x = 10) → (((0 : Int) = 0 ∨ x = 10) ↔ r ≤ rkI (cOf x)) := by
  intro x h
  have e : 4 ≤ rkI (cOf x) := by rcases h with rfl | rfl | rfl <;> decide
  exact ⟨fun _ => by omega, fun _ => Or.inl rfl⟩
theorem rl_app {r : Int} {w0 : List Int} : ∀ {w : List Int} {z : Int} {d : Int → Int}, (∀ x ∈ w, x ≠ 23 ∧ r ≤ rkI x) → rlW r (w ++ w0) = rlW r w0 ∧ rlZ r (w ++ w0) z = rlZ r w0 (rlZ r w z) ∧ rlD r (w ++ w0) z d = rlD r w0 (rlZ r w z) (rlD r w z d)
  | [], _, _, _ => ⟨rfl, rfl, rfl⟩
  | x :: t, z, d, h => by
    have hx := h x List.mem_cons_self
    have g := rl_go (r := r) (x := x) (z := z) (t := t ++ w0) (d := d) hx.1 hx.2
    have g2 := rl_go (r := r) (x := x) (z := z) (t := t) (d := d) hx.1 hx.2
    rw [List.cons_append, g.1, g.2.1, g.2.2, g2.2.1, g2.2.2]
    exact rl_app (fun y hy => h y (List.mem_cons_of_mem _ hy))
theorem rl_same {r r' : Int} : ∀ {w : List Int} {z : Int} {d : Int → Int}, (∀ x ∈ w, x ≠ 23 ∧ r ≤ rkI x ∧ r' ≤ rkI x) → rlZ r w z = rlZ r' w z ∧ rlD r w z d = rlD r' w z d
  | [], _, _, _ => ⟨rfl, rfl⟩
  | x :: t, z, d, h => by
    have hx := h x List.mem_cons_self
    have g := rl_go (r := r) (x := x) (z := z) (t := t) (d := d) hx.1 hx.2.1
    have g2 := rl_go (r := r') (x := x) (z := z) (t := t) (d := d) hx.1 hx.2.2
    rw [g.2.1, g.2.2, g2.2.1, g2.2.2]
    exact rl_same (fun y hy => h y (List.mem_cons_of_mem _ hy))
theorem rl_low {r z : Int} {w : List Int} {d : Int → Int} (h : ∀ x ∈ w, rkI x < r) : rlW r w = w ∧ rlZ r w z = z ∧ rlD r w z d = d := by
  cases w with
  | nil => exact ⟨rfl, rfl, rfl⟩
  | cons x t => exact rl_stop (fun y => by have := h x List.mem_cons_self; omega)
theorem rl_sz {r : Int} : ∀ {w : List Int} {z : Int}, rlZ r w z + ((rlW r w).length : Int) ≤ z + (w.length : Int)
  | [], z => by show z + 0 ≤ z + 0; omega
  | x :: t, z => by
    unfold rlZ rlW
    by_cases h : x ≠ 23 ∧ r ≤ rkI x
    · rw [if_pos h, if_pos h]
      have q := rl_sz (r := r) (w := t) (z := emZ z)
      have e : emZ z ≤ z + 1 := by unfold emZ; split <;> omega
      simp only [List.length_cons]
      omega
    · rw [if_neg h, if_neg h]
      omega
def szC (c : CSt) : Int := c.2.2.2.2.1 + (c.2.2.2.1.length : Int)
theorem szC_t {c : CSt} {k v : Int} : szC (tkC c k v) ≤ szC c + 1 := by
  obtain ⟨st, sd, dp, wt, cz, cd, rz, rk, rs, rc, re⟩ := c
  have hp : ∀ (k : Int) (w : List Int), ((psh k w).length : Int) ≤ (w.length : Int) + 1 := by
    intro k w
    unfold psh
    split
    · simp only [List.length_cons]; omega
    · omega
  have e : emZ cz ≤ cz + 1 := by unfold emZ; split <;> omega
  have r0 := rl_sz (r := 0) (w := wt) (z := cz)
  have rk' := rl_sz (r := rkI k) (w := wt) (z := cz)
  by_cases c0 : st = 0
  · rw [tkC_0 c0]; show cz + (wt.length : Int) ≤ cz + (wt.length : Int) + 1; omega
  by_cases c1 : st = 1
  · rw [tkC_1 c1]; show cz + (wt.length : Int) ≤ cz + (wt.length : Int) + 1; omega
  by_cases c2 : st = 2
  · by_cases d : k = 23
    · rw [tkC_2o c2 d]; show cz + ((psh 23 wt).length : Int) ≤ cz + (wt.length : Int) + 1; have := hp 23 wt; omega
    · rw [tkC_2u c2 d]; show emZ cz + (wt.length : Int) ≤ cz + (wt.length : Int) + 1; omega
  have c3 : ¬ (st = 0 ∨ st = 1 ∨ st = 2) := by omega
  by_cases d : k = 24
  · rw [tkC_3c c3 d]; show rlZ 0 wt cz + ((rlW 0 wt).tail.length : Int) ≤ cz + (wt.length : Int) + 1; rw [List.length_tail]; omega
  by_cases d2 : k = 15
  · rw [tkC_3s c3 d2]; show rlZ 0 wt cz + ((rlW 0 wt).length : Int) ≤ cz + (wt.length : Int) + 1; omega
  by_cases d3 : k = 3
  · rw [tkC_3i c3 d3]; show rlZ 0 wt cz + ((rlW 0 wt).length : Int) ≤ cz + (wt.length : Int) + 1; omega
  · rw [tkC_3o c3 ⟨d, d2, d3⟩]; show rlZ (rkI k) wt cz + ((psh k (rlW (rkI k) wt)).length : Int) ≤ cz + (wt.length : Int) + 1; have := hp k (rlW (rkI k) wt); omega
theorem cm_sz {g : Int → Int} {n : Int} {c0 : CSt} (h0 : szC c0 ≤ 0) : ∀ j : Nat, szC (cm g n c0 j) ≤ (j : Int)
  | 0 => h0
  | j + 1 => by
    have a := cm_sz (g := g) (n := n) h0 j
    have b := szC_t (c := cm g n c0 j) (k := kdT g n j) (v := vlT g n j)
    show szC (tkC _ _ _) ≤ _
    omega
/-! AT A TOKEN -/
abbrev CRt : Type := Int × (Int → Int) × (Int → Int) × (Int → Int) × (Int → Int)
def GT (g : Int → Int) (n : Int) (c0 : CSt) (t : Nat) : Prop := t ≤ 400 ∧ ∀ i : Nat, i < t → gkT (cm g n c0 i) i (kdT g n i)
/-- a fault has been told, the class's own -/
def FlT (g : Int → Int) (n : Int) (c0 : CSt) (M : MI) : Prop := ∃ (t : Nat) (F : Int), GT g n c0 t ∧ vdT (cm g n c0 t) t (kdT g n t) F ∧ M 53 13 = F ∧ (F = 1 ∨ F = 2) ∧ M 53 14 = plT g n t ∧ 0 ≤ M 53 11 ∧ M 53 11 ≤ 400
theorem goW_26 {st sd dp k : Int} (h : goW st sd dp k) : k ≠ 26 := by
  unfold goW goU at h
  omega
theorem GT_tok {g : Int → Int} {n : Int} {c0 : CSt} {M : MI} {t : Nat} (h : GT g n c0 t) (hk : tokOk g n M) : cOf (M 56 (t : Int)) = kdT g n t ∧ M 57 (t : Int) = plT g n t ∧ (kdT g n t = 25 → M 58 (t : Int) = vlT g n t) := hk t h.1 (fun i hi => goW_26 (h.2 i hi).1)
theorem GT_s {g : Int → Int} {n : Int} {c0 : CSt} {t : Nat} (h : GT g n c0 t) (hg : gkT (cm g n c0 t) t (kdT g n t)) (ht : t < 400) : GT g n c0 (t + 1) := ⟨by omega, fun i hi => by
  by_cases e : i = t
  · rw [e]; exact hg
  · exact h.2 i (by omega)⟩
theorem cOf_in (m : Int) : 0 ≤ cOf m ∧ cOf m ≤ 27 := by
  unfold cOf
  repeat' split
  all_goals omega
theorem vlT_in {f : Int → Int} {n : Int} {t : Nat} (h : kdT (bt f n) n t = 25) : 0 ≤ vlT (bt f n) n t ∧ vlT (bt f n) n t < 10000 := by
  unfold kdT at h
  unfold vlT
  generalize plT (bt f n) n t = p at *
  by_cases c1 : n ≤ p
  · rw [(tk_end c1).1] at h; omega
  by_cases c2 : ltB (bt f n p) = true
  · rw [(tk_word (by omega) c2).1] at h
    exfalso
    have q9 := firstN_in (p := isWB (bt f n) p (skp ltB (bt f n) n p)) 15
    unfold wdK at h
    split at h <;> omega
  by_cases c3 : dgB (bt f n p) = true
  · have q := tk_int (n := n) (by omega) c2 c3
    rw [q.1] at h
    rw [q.2.1]
    have h4 : skp dgB (bt f n) n p - p ≤ 4 := by
      split at h
      · assumption
      · omega
    have hp : p ≤ skp dgB (bt f n) n p := skp_le
    have hd : ∀ i : Nat, i < (skp dgB (bt f n) n p - p).toNat → 48 ≤ bt f n (p + (i : Int)) ∧ bt f n (p + (i : Int)) ≤ 57 := fun i hi => dgB_t.mp (skp_in (n := n) (i := p) (by omega) (by omega))
    rw [dgV_U _ (by omega) hd]
    exact dgU_4 (by omega) hd
  · rw [(tk_sign (by omega) c2 c3).1] at h
    exact absurd h (sgK_25 _ _)
