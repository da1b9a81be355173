/-! A RULE AS A WHOLE -/
/-- between rules: t tokens are taken -/
def TS (g : Int → Int) (n : Int) (c0 : CSt) (s : Int) (t : Nat) (M : MI) : Prop := ∃ (sd cz rz : Int) (cd rk rs rc re : Int → Int), GT g n c0 t ∧ cm g n c0 t = (0, sd, 0, [], cz, cd, rz, rk, rs, rc, re) ∧ (M 53 11 = (t : Int) ∧ M 53 12 = 0 ∧ M 53 13 = 0 ∧ M 53 19 = s ∧ M 61 s = rz) ∧ (500 * s ≤ M 53 32 ∧ M 53 32 - 500 * s ≤ cz ∧ 0 ≤ M 67 s ∧ 2 * M 67 s ≤ (t : Int)) ∧ (0 ≤ rz ∧ rz ≤ 16) ∧ ∀ r : Int, 0 ≤ r → r < rz → RlEq cd rk rs rc re M s cz (M 53 32) (M 67 s) r
/-- rule rz is under way: its heads stand, its condition begins at cc, its code goes up to cz -/
def HM (s rz cz0 cc kd i q0 : Int) (rk rs rc re rcx cd : Int → Int) (cz : Int) (t : Nat) (M : MI) : Prop := (M 53 11 = (t : Int) ∧ M 53 12 = 0 ∧ M 53 13 = 0 ∧ M 53 19 = s ∧ M 61 s = rz) ∧ (500 * s ≤ M 53 32 ∧ M 53 32 - 500 * s ≤ cz) ∧ (q0 ≤ M 67 s ∧ 2 * M 67 s ≤ (t : Int) ∧ 0 ≤ q0) ∧ (M 65 i = q0 ∧ M 62 i = kd ∧ (kd = 0 ∨ kd = 1 ∨ kd = 2)) ∧ (rcx rz = cc ∧ ∀ z : Int, z ≠ rz → rcx z = rc z) ∧ (0 ≤ cz0 ∧ cz0 ≤ cc ∧ cc ≤ cz) ∧ (kd ≠ 0 → ∃ k : Nat, cc = cz0 + (k : Int) ∧ M 64 i = M 63 i + (k : Int) ∧ 500 * s ≤ M 63 i ∧ M 64 i ≤ M 53 32 ∧ EOk cd (M 73) (M 74) cz0 (M 63 i) k) ∧ ∀ r : Int, 0 ≤ r → r < rz → RlEq cd rk rs rc re M s cz (M 53 32) (M 67 s) r
section Rules
variable {g : Int → Int} {n : Int} {c0 : CSt} {s rz cz0 cc kd i q0 cz : Int} {rk rs rc re rcx cd cd0 : Int → Int} {t t' : Nat} {M M' : MI}
theorem agS_eq {q mz : Int} (h : ∀ j : Nat, 68 ≤ j → j ≤ 74 → M' j = M j) : agS M M' s q mz := ⟨fun j a b k _ _ => by rw [h j a (by omega)], fun z _ _ => by rw [h 73 (by decide) (by decide), h 74 (by decide) (by decide)]; exact ⟨rfl, rfl⟩⟩
theorem HM_11 (h : HM s rz cz0 cc kd i q0 rk rs rc re rcx cd cz t M) (e : ∀ j : Nat, j ≠ 53 → M' j = M j) (e2 : ∀ z : Int, z ≠ 11 → M' 53 z = M 53 z) (e3 : M' 53 11 = (t' : Int)) (ht : t ≤ t') : HM s rz cz0 cc kd i q0 rk rs rc re rcx cd cz t' M' := by
  obtain ⟨⟨a1, a2, a3, a4, a5⟩, b, c, d, e', f, k, l⟩ := h
  unfold HM
  rw [e2 12 (by decide), e2 13 (by decide), e2 19 (by decide), e2 32 (by decide), e 61 (by decide), e 62 (by decide), e 63 (by decide), e 64 (by decide), e 65 (by decide), e 67 (by decide), e 73 (by decide), e 74 (by decide)]
  refine ⟨⟨e3, a2, a3, a4, a5⟩, b, by omega, d, e', f, k, fun r r1 r2 => ?_⟩
  exact RlEq_congr (l r r1 r2) (Int.le_refl _) (Int.le_refl _) (Int.le_refl _) rfl rfl rfl rfl (fun _ _ => rfl) (fun j _ _ => by rw [e j (by omega)]) (agS_eq (fun j _ _ => e j (by omega)))
theorem HM_0 (hG : M 53 11 = (t : Int) ∧ M 53 12 = 0 ∧ M 53 13 = 0 ∧ M 53 19 = s ∧ M 61 s = rz) (hz : 500 * s ≤ M 53 32 ∧ M 53 32 - 500 * s ≤ cz0 ∧ 0 ≤ M 67 s ∧ 2 * M 67 s ≤ (t : Int)) (hO : ∀ r : Int, 0 ≤ r → r < rz → RlEq cd0 rk rs rc re M s cz0 (M 53 32) (M 67 s) r) (hi : i = 16 * s + rz) (h0 : 0 ≤ cz0) (hf : frI i M M') (e62 : M' 62 i = 0) (e65 : M' 65 i = M 67 s) (e11 : M' 53 11 = (t' : Int)) (ht : t ≤ t') : HM s rz cz0 cz0 0 i (M 67 s) rk rs rc re (fu rc rz cz0) cd0 cz0 t' M' := by
  have e := fun j a b => hf.1 j a b
  unfold HM
  rw [hf.2.1 12 (by decide), hf.2.1 13 (by decide), hf.2.1 19 (by decide), hf.2.1 32 (by decide), hf.1 61 (by decide) (by decide), hf.1 67 (by decide) (by decide)]
  refine ⟨⟨e11, hG.2⟩, ⟨hz.1, hz.2.1⟩, by omega, ⟨e65, e62, Or.inl rfl⟩, ⟨fu_s _ _ _, fun z hz => fu_n _ _ hz⟩, by omega, fun z => absurd rfl z, fun r r1 r2 => ?_⟩
  exact RlEq_congr (hO r r1 r2) (Int.le_refl _) (Int.le_refl _) (Int.le_refl _) rfl rfl rfl rfl (fun _ _ => rfl) (fun j a b => hf.2.2 j a b _ (by omega)) (agS_eq (fun j _ _ => hf.1 j (by omega) (by omega)))
theorem HM_A {Mb M1 : MI} {w1 : List Int} {cz1 mz0 : Int} {cd1 : Int → Int} {k : Nat} (hG : M 53 11 = (t : Int) ∧ M 53 12 = 0 ∧ M 53 13 = 0 ∧ M 53 19 = s ∧ M 61 s = rz) (hz : 500 * s ≤ M 53 32 ∧ M 53 32 - 500 * s ≤ cz0 ∧ 0 ≤ M 67 s ∧ 2 * M 67 s ≤ (t : Int)) (hs : s = 0 ∨ s = 1) (hO : ∀ r : Int, 0 ≤ r → r < rz → RlEq cd0 rk rs rc re M s cz0 (M 53 32) (M 67 s) r) (hi : i = 16 * s + rz) (h0 : 0 ≤ cz0) (hkd : kd = 1 ∨ kd = 2) (hm : M 53 32 = mz0) (hf : frI i M Mb) (he : frE mz0 (mz0 + 401 - cz0) Mb M1) (hf2 : frI i M1 M')
    (x11 : M1 53 11 = (t' : Int)) (x12 : M1 53 12 = 0) (x13 : M1 53 13 = 0) (x32 : M1 53 32 = mz0 + (k : Int)) (xz : rlZ 4 w1 cz1 = cz0 + (k : Int)) (xa : ∀ z : Int, z < cz0 → rlD 4 w1 cz1 cd1 z = cd0 z) (xo : EOk (rlD 4 w1 cz1 cd1) (M1 73) (M1 74) cz0 mz0 k)
    (e62 : Mb 62 i = kd) (e62b : M' 62 i = M1 62 i) (e63 : Mb 63 i = mz0) (e63b : M' 63 i = M1 63 i) (e64 : M' 64 i = M1 53 32) (e65 : M' 65 i = M1 67 s) (e11 : M' 53 11 = M1 53 11) (ht : t ≤ t') : HM s rz cz0 (cz0 + (k : Int)) kd i (M 67 s) rk rs rc re (fu (fu rc rz (-1)) rz (cz0 + (k : Int))) (rlD 4 w1 cz1 cd1) (cz0 + (k : Int)) t' M' := by
  have q67 : M1 67 = M 67 := (he.1 67 (by decide) (by decide) (by decide) (by decide)).trans (hf.1 67 (by decide) (by decide))
  have q61 : M1 61 = M 61 := (he.1 61 (by decide) (by decide) (by decide) (by decide)).trans (hf.1 61 (by decide) (by decide))
  have q62 : M1 62 = Mb 62 := he.1 62 (by decide) (by decide) (by decide) (by decide)
  have q63 : M1 63 = Mb 63 := he.1 63 (by decide) (by decide) (by decide) (by decide)
  have q19 : M1 53 19 = M 53 19 := (he.2.1 19 (by decide) (by decide) (by decide) (by decide) (by decide) (by decide)).trans (hf.2.1 19 (by decide))
  unfold HM
  rw [hf2.2.1 12 (by decide), hf2.2.1 13 (by decide), hf2.2.1 19 (by decide), hf2.2.1 32 (by decide), hf2.1 61 (by decide) (by decide), hf2.1 67 (by decide) (by decide), hf2.1 73 (by decide) (by decide), hf2.1 74 (by decide) (by decide), e62b, e63b, e64, e65, q61, q62, q63, q67, q19, e62, e63, x32]
  refine ⟨⟨e11.trans x11, x12, x13, hG.2.2.2.1, hG.2.2.2.2⟩, by omega, by omega, ⟨rfl, rfl, by omega⟩, ⟨fu_s _ _ _, fun z hz => by rw [fu_n _ _ hz, fu_n _ _ hz]⟩, by omega, fun _ => ⟨k, rfl, rfl, by omega, Int.le_refl _, xo⟩, fun r r1 r2 => ?_⟩
  have q2 : ∀ j : Nat, 62 ≤ j → j ≤ 66 → M' j (16 * s + r) = M j (16 * s + r) := fun j a b => by
    rw [hf2.2.2 j a b _ (by omega), he.1 j (by omega) (by omega) (by omega) (by omega), hf.2.2 j a b _ (by omega)]
  refine RlEq_congr (hO r r1 r2) (by omega) (by omega) (Int.le_refl _) rfl rfl rfl rfl xa q2 ⟨fun j a b q q1 q2 => ?_, fun z z1 z2 => ?_⟩
  · rw [hf2.1 j (by omega) (by omega), he.1 j (by omega) (by omega) (by omega) (by omega), hf.1 j (by omega) (by omega)]
  · rw [hf2.1 73 (by decide) (by decide), hf2.1 74 (by decide) (by decide), (he.2.2 z (Or.inl (by omega))).1, (he.2.2 z (Or.inl (by omega))).2, hf.1 73 (by decide) (by decide), hf.1 74 (by decide) (by decide)]
    exact ⟨rfl, rfl⟩
/-- a relation of rule rz is due -/
def LI (g : Int → Int) (n : Int) (c0 : CSt) (s rz cz0 cc kd i q0 : Int) (rk rs rc re rcx : Int → Int) (t nr : Nat) (orf : Int) (pend : List Int) (cz : Int) (cd : Int → Int) (M : MI) : Prop := GT g n c0 t ∧ cm g n c0 t = (2, 1, 0, pend, cz, cd, rz, fu rk rz kd, fu rs rz cz0, rcx, re) ∧ HM s rz cz0 cc kd i q0 rk rs rc re rcx cd cz t M ∧ M 67 s = q0 + (nr : Int) ∧ CP cd cc cz pend (oS M s) (xS M s) q0 nr orf ∧ RelsOk M s q0 (q0 + (nr : Int)) (M 53 32)
/-- a relation of rule rz has been told -/
def LQ (g : Int → Int) (n : Int) (c0 : CSt) (s rz cz0 cc kd i q0 : Int) (rk rs rc re rcx : Int → Int) (t nr : Nat) (w1 : List Int) (kop : Int) (pend : List Int) (cz : Int) (cd : Int → Int) (M : MI) : Prop := GT g n c0 t ∧ cm g n c0 t = (3, 2, 0, w1 ++ kop :: pend, cz, cd, rz, fu rk rz kd, fu rs rz cz0, rcx, re) ∧ (∀ x ∈ w1, x = 16 ∨ x = 17 ∨ x = 18) ∧ pend.length ≤ 2 ∧ HM s rz cz0 cc kd i q0 rk rs rc re rcx (rlD 2 (kop :: pend) (rlZ 4 w1 cz) (rlD 4 w1 cz cd)) (rlZ 2 (kop :: pend) (rlZ 4 w1 cz)) t M ∧ M 67 s = q0 + (nr : Int) ∧ CQ (rlD 2 (kop :: pend) (rlZ 4 w1 cz) (rlD 4 w1 cz cd)) cc (rlZ 2 (kop :: pend) (rlZ 4 w1 cz)) (rlW 2 (kop :: pend)) (oS M s) (xS M s) q0 nr ∧ cc < rlZ 2 (kop :: pend) (rlZ 4 w1 cz) ∧ rlZ 2 (kop :: pend) (rlZ 4 w1 cz) + ((rlW 2 (kop :: pend)).length : Int) ≤ (t : Int) ∧ RelsOk M s q0 (q0 + (nr : Int)) (M 53 32) ∧ ¬ (kdT g n t = 16 ∨ kdT g n t = 17 ∨ kdT g n t = 18)
theorem LI_0 (hG : GT g n c0 t) (hc : cm g n c0 t = (2, 1, 0, [], cz, cd, rz, fu rk rz kd, fu rs rz cz0, rcx, re)) (h : HM s rz cz0 cz kd i q0 rk rs rc re rcx cd cz t M) (hq : M 67 s = q0) : LI g n c0 s rz cz0 cz kd i q0 rk rs rc re rcx t 0 1 [] cz cd M := ⟨hG, hc, h, by omega, Or.inl ⟨rfl, rfl, rfl, rfl⟩, fun k k1 k2 => by omega⟩
theorem rlD_low {r : Int} : ∀ {w : List Int} {z b : Int} {d : Int → Int}, b < z → rlD r w z d b = d b
  | [], _, _, _, _ => rfl
  | x :: t, z, b, d, h => by
    unfold rlD
    split
    · have e : b < emZ z := by unfold emZ; split <;> omega
      rw [rlD_low e]
      unfold emD
      split
      · exact fu_n _ _ (by omega)
      · rfl
    · rfl
theorem rlZ_ge {r : Int} : ∀ {w : List Int} {z : Int}, z ≤ rlZ r w z
  | [], z => Int.le_refl _
  | x :: t, z => by
    unfold rlZ
    split
    · have e : z ≤ emZ z := by unfold emZ; split <;> omega
      exact Int.le_trans e rlZ_ge
    · exact Int.le_refl _
theorem LI_RE {nr t1 : Nat} {orf mz0 : Int} {pend : List Int} (h : LI g n c0 s rz cz0 cc kd i q0 rk rs rc re rcx t nr orf pend cz cd M) (hi : i = 16 * s + rz) (hs : s = 0 ∨ s = 1) (hm : M 53 32 = mz0) (hor : 0 ≤ orf ∧ orf < 2) (hR : RE g n c0 pend cz cd (rz, fu rk rz kd, fu rs rz cz0, rcx, re) mz0 s (q0 + (nr : Int)) orf t1 M') (hf : frL mz0 (mz0 + 401 - cz) s (q0 + (nr : Int)) M M') (ht : t + 2 < t1) : ∃ (w1 : List Int) (kop cz1 : Int) (cd1 : Int → Int), LQ g n c0 s rz cz0 cc kd i q0 rk rs rc re rcx t1 (nr + 1) w1 kop pend cz1 cd1 M' := by
  obtain ⟨hG, hc, hH, hq, hP, hW⟩ := h
  obtain ⟨w1, kop, cz1, cd1, k1, k2, rG, ⟨r11, r12, r13, r32⟩, rc', rw', rk', rz', ra, ro1, ro2, rl, rn', r68, r69, r70, r71, r72, r67⟩ := hR
  obtain ⟨⟨a1, a2, a3, a4, a5⟩, ⟨b1, b2⟩, ⟨c1, c2, c3⟩, ⟨d1, d2, d3⟩, e, ⟨f1, f2, f3⟩, hk, hO⟩ := hH
  have hpl := CP_pend hP
  have ht4 := rG.1
  have hz2 := rlZ_ge (r := 2) (w := kop :: pend) (z := cz + (k1 : Int) + (k2 : Int))
  have sz2 := rl_sz (r := 2) (w := kop :: pend) (z := cz + (k1 : Int) + (k2 : Int))
  simp only [List.length_cons] at sz2
  have hag : agS M M' s (q0 + (nr : Int)) mz0 := ⟨fun j a b k k1 k2 => hf.2.2.2.2 j a b _ (by omega), fun z z1 z2 => hf.2.2.1 z (Or.inl (by omega))⟩
  have hrel := agS_rel hag (by rw [← hm]; exact hW) (Int.le_refl _) c3
  have hcdl : ∀ z : Int, z < cz → rlD 2 (kop :: pend) (cz + (k1 : Int) + (k2 : Int)) (rlD 4 w1 cz1 cd1) z = cd z := fun z hz => by rw [rlD_low (by omega)]; exact ra z hz
  have hCP : CP cd cc cz pend (oS M' s) (xS M' s) q0 nr orf := CP_congr hP (fun j hj => hrel.2 _ (by omega) (by omega))
  have hx : ∀ v : Int → Int, xS M' s v (q0 + (nr : Int)) = relB (kop - 19) (mVal (M' 73) (M' 74) v mz0 (mz0 + (k1 : Int))) (mVal (M' 73) (M' 74) v (mz0 + (k1 : Int)) (mz0 + (k1 : Int) + (k2 : Int))) := fun v => by
    unfold xS
    rw [r68, r69, r70, r71]
  have ho : oS M' s (q0 + (nr : Int)) = decide (orf ≠ 0) := by unfold oS; rw [r72]
  have hQ := CP_rel hCP f3 ra ro1 ro2 ho hx rk' (by omega)
  refine ⟨w1, kop, cz1, cd1, rG, rc', rw', hpl.2, ?_, by rw [r67]; omega, ?_, ?_, ?_, ?_, rn'⟩
  · rw [rz']
    unfold HM
    rw [hf.2.1 19 (by decide) (by decide) (by decide) (by decide) (by decide) (by decide), hf.1 61 (by decide) (by decide), hf.1 62 (by decide) (by decide), hf.1 63 (by decide) (by decide), hf.1 64 (by decide) (by decide), hf.1 65 (by decide) (by decide), r32, r67]
    refine ⟨⟨r11, r12, r13, a4, a5⟩, by omega, by omega, ⟨d1, d2, d3⟩, e, by omega, fun z => ?_, fun r r1 r2 => ?_⟩
    · obtain ⟨k, x1, x2, x3, x4, x5⟩ := hk z
      exact ⟨k, x1, x2, x3, by omega, EOk_congr x5 (fun j hj => hcdl _ (by omega)) (fun j hj => hag.2 _ (by omega) (by omega))⟩
    · refine RlEq_congr (hO r r1 r2) (by omega) (by omega) (by omega) rfl rfl rfl rfl hcdl (fun j a b => by rw [hf.1 j (by omega) (by omega)]) ?_
      rw [hq, hm]
      exact hag
  · rw [rz']; exact hQ.1
  · rw [rz']; exact hQ.2
  · rw [rz']; omega
  · intro k' k1' k2'
    by_cases c : k' < q0 + (nr : Int)
    · have x := hrel.1 k' k1' c
      exact ⟨x.1, x.2.1, by have := x.2.2.1; omega, x.2.2.2⟩
    · have ek : k' = q0 + (nr : Int) := by omega
      subst ek
      rw [r69, r70, r71, r32]
      exact ⟨EOk_wf ro1 (by omega) (by omega) (by omega), EOk_wf ro2 (by omega) (by omega) (by omega), Int.le_refl _, by omega⟩
theorem LQ_con {nr : Nat} {kop : Int} {w1 pend : List Int} (h : LQ g n c0 s rz cz0 cc kd i q0 rk rs rc re rcx t nr w1 kop pend cz cd M) (hk : kdT g n t = 5 ∨ kdT g n t = 4) (ht : t < 400) (e : ∀ j : Nat, j ≠ 53 → M' j = M j) (e2 : ∀ z : Int, z ≠ 11 → M' 53 z = M 53 z) (e3 : M' 53 11 = ((t + 1 : Nat) : Int)) : ∃ (pend' : List Int) (cz' : Int) (cd' : Int → Int), LI g n c0 s rz cz0 cc kd i q0 rk rs rc re rcx (t + 1) nr (if kdT g n t = 4 then 1 else 0) pend' cz' cd' M' := by
  obtain ⟨hG, hc, hw, hpl, hH, hq, hQ, hcc, hsz, hW, hno⟩ := h
  have st := st_con hG hc hw hpl hk ht
  have eo : oS M' s = oS M s := by unfold oS; rw [e 72 (by decide)]
  have ex : xS M' s = xS M s := by unfold xS; rw [e 68 (by decide), e 69 (by decide), e 70 (by decide), e 71 (by decide), e 73 (by decide), e 74 (by decide)]
  have eW : RelsOk M' s q0 (q0 + (nr : Int)) (M' 53 32) := by unfold RelsOk; rw [e 69 (by decide), e 70 (by decide), e 71 (by decide), e 73 (by decide), e 74 (by decide), e2 32 (by decide)]; exact hW
  have hH' := HM_11 (t' := t + 1) hH e e2 e3 (by omega)
  have ht4 := hG.1
  rcases hk with hk | hk
  · rw [hk] at st
    refine ⟨_, _, _, st.1, st.2, hH', by rw [e 67 (by decide)]; exact hq, ?_, eW⟩
    rw [eo, ex, hk, if_neg (by decide)]
    exact CQ_and hQ
  · rw [hk] at st
    have two := rl_two (r := 1) (r' := 2) (by decide) (w := kop :: pend) (z := rlZ 4 w1 cz) (d := rlD 4 w1 cz cd)
    have q := CQ_or hQ hcc (by omega)
    have q2 := CQ_out (r := 1) (by decide) hQ hcc (by omega)
    refine ⟨_, _, _, st.1, st.2, ?_, by rw [e 67 (by decide)]; exact hq, ?_, eW⟩
    · show HM s rz cz0 cc kd i q0 rk rs rc re rcx (rlD 1 (kop :: pend) (rlZ 4 w1 cz) (rlD 4 w1 cz cd)) (rlZ 1 (kop :: pend) (rlZ 4 w1 cz)) (t + 1) M'
      rw [two.2.1, two.2.2]
      have zz := rlZ_ge (r := 1) (w := rlW 2 (kop :: pend)) (z := rlZ 2 (kop :: pend) (rlZ 4 w1 cz))
      obtain ⟨a, b, c, d, e', f, k, l⟩ := hH'
      refine ⟨a, by omega, c, d, e', by omega, fun z => ?_, fun r r1 r2 => ?_⟩
      · obtain ⟨k', x1, x2, x3, x4, x5⟩ := k z
        exact ⟨k', x1, x2, x3, x4, EOk_congr x5 (fun j hj => rlD_low (by omega)) (fun _ _ => ⟨rfl, rfl⟩)⟩
      · exact RlEq_congr (l r r1 r2) zz (Int.le_refl _) (Int.le_refl _) rfl rfl rfl rfl (fun z hz => rlD_low hz) (fun _ _ _ => rfl) (agS_eq (fun _ _ _ => rfl))
    · rw [eo, ex, hk, if_pos rfl]
      show CP (rlD 1 (kop :: pend) (rlZ 4 w1 cz) (rlD 4 w1 cz cd)) cc (rlZ 1 (kop :: pend) (rlZ 4 w1 cz)) (4 :: rlW 1 (kop :: pend)) (oS M s) (xS M s) q0 nr 1
      rw [two.1, two.2.1, two.2.2, q.1]
      exact q.2
/-- the rule's end -/
theorem TS_end {nr : Nat} {sd cz' : Int} {cd' : Int → Int} (h : HM s rz cz0 cc kd i q0 rk rs rc re rcx cd cz t M) (hi : i = 16 * s + rz) (hr : 0 ≤ rz ∧ rz < 16) (hq : M 67 s = q0 + (nr : Int)) (hG : GT g n c0 (t + 1)) (hc : cm g n c0 (t + 1) = (0, sd, 0, [], cz', cd', rz + 1, fu rk rz kd, fu rs rz cz0, rcx, fu re rz cz')) (hz : cz ≤ cz') (ha : ∀ z : Int, z < cz → cd' z = cd z) (hW : RelsOk M s q0 (q0 + (nr : Int)) (M 53 32)) (hcond : (cc = cz' ∧ nr = 0 ∧ kd ≠ 0) ∨ (cc < cz' ∧ 1 ≤ nr ∧ ∀ v : Int → Int, rn cd' v [] cc (cz' - cc).toNat = [b2i (hRes (oS M s) (xS M s v) q0 nr)]))
    (e : ∀ j : Nat, j ≠ 53 → j ≠ 61 → j ≠ 66 → M' j = M j) (e2 : ∀ z : Int, z ≠ 11 → M' 53 z = M 53 z) (e3 : M' 53 11 = ((t + 1 : Nat) : Int)) (e66 : ∀ z : Int, M' 66 z = if z = i then M 67 s else M 66 z) (e61 : M' 61 s = rz + 1) : TS g n c0 s (t + 1) M' := by
  obtain ⟨⟨a1, a2, a3, a4, a5⟩, ⟨b1, b2⟩, ⟨c1, c2, c3⟩, ⟨d1, d2, d3⟩, ⟨x1, x2⟩, ⟨f1, f2, f3⟩, hk, hO⟩ := h
  have eo : oS M' s = oS M s := by unfold oS; rw [e 72 (by decide) (by decide) (by decide)]
  have ex : xS M' s = xS M s := by unfold xS; rw [e 68 (by decide) (by decide) (by decide), e 69 (by decide) (by decide) (by decide), e 70 (by decide) (by decide) (by decide), e 71 (by decide) (by decide) (by decide), e 73 (by decide) (by decide) (by decide), e 74 (by decide) (by decide) (by decide)]
  have e67 := e 67 (by decide) (by decide) (by decide)
  have e32 := e2 32 (by decide)
  refine ⟨sd, cz', rz + 1, cd', fu rk rz kd, fu rs rz cz0, rcx, fu re rz cz', hG, hc, ⟨e3, ?_, ?_, ?_, e61⟩, ?_, by omega, fun r r1 r2 => ?_⟩
  · rw [e2 12 (by decide)]; exact a2
  · rw [e2 13 (by decide)]; exact a3
  · rw [e2 19 (by decide)]; exact a4
  · rw [e32, e67]; omega
  · rw [e32, e67]
    by_cases c : r = rz
    · subst c
      unfold RlEq
      rw [fu_s, fu_s, fu_s, x1, eo, ← hi, e 62 (by decide) (by decide) (by decide), e 63 (by decide) (by decide) (by decide), e 64 (by decide) (by decide) (by decide), e 65 (by decide) (by decide) (by decide), e 73 (by decide) (by decide) (by decide), e 74 (by decide) (by decide) (by decide), e66 i, if_pos rfl, d1, d2]
      refine ⟨d3, rfl, by omega, fun z => ?_, by omega, ?_, ?_⟩
      · obtain ⟨k, y1, y2, y3, y4, y5⟩ := hk z
        exact ⟨k, y1, y2, y3, y4, EOk_congr y5 (fun j hj => ha _ (by omega)) (fun _ _ => ⟨rfl, rfl⟩)⟩
      · rw [hq]
        unfold RelsOk
        rw [e 69 (by decide) (by decide) (by decide), e 70 (by decide) (by decide) (by decide), e 71 (by decide) (by decide) (by decide), e 73 (by decide) (by decide) (by decide), e 74 (by decide) (by decide) (by decide)]
        exact hW
      · rcases hcond with ⟨y1, y2, y3⟩ | ⟨y1, y2, y3⟩
        · exact Or.inl ⟨y1, by rw [hq, y2]; omega, y3⟩
        · refine Or.inr ⟨y1, by omega, fun v => ?_⟩
          rw [y3 v, ex, show (M 67 s - q0).toNat = nr by omega]
    · refine RlEq_congr (hO r r1 (by omega)) hz (Int.le_refl _) (Int.le_refl _) (fu_n _ _ c) (fu_n _ _ c) (x2 r c) (fu_n _ _ c) ha (fun j a b => ?_) (agS_eq (fun j a b => e j (by omega) (by omega) (by omega)))
      by_cases c6 : j = 66
      · subst c6
        rw [e66, if_neg (by omega)]
      · rw [e j (by omega) (by omega) c6]
theorem LQ_end {nr : Nat} {kop : Int} {w1 pend : List Int} (h : LQ g n c0 s rz cz0 cc kd i q0 rk rs rc re rcx t nr w1 kop pend cz cd M) (hi : i = 16 * s + rz) (hr : 0 ≤ rz ∧ rz < 16) (hk : kdT g n t = 15) (ht : t < 400) (e : ∀ j : Nat, j ≠ 53 → j ≠ 61 → j ≠ 66 → M' j = M j) (e2 : ∀ z : Int, z ≠ 11 → M' 53 z = M 53 z) (e3 : M' 53 11 = ((t + 1 : Nat) : Int)) (e66 : ∀ z : Int, M' 66 z = if z = i then M 67 s else M 66 z) (e61 : M' 61 s = rz + 1) : TS g n c0 s (t + 1) M' := by
  obtain ⟨hG, hc, hw, hpl, hH, hq, hQ, hcc, hsz, hW, hno⟩ := h
  have st := st_semi hG hc (Or.inr rfl) hw hk hr.2 ht
  have two := rl_two (r := 0) (r' := 2) (by decide) (w := kop :: pend) (z := rlZ 4 w1 cz) (d := rlD 4 w1 cz cd)
  have q := CQ_out (r := 0) (by decide) hQ hcc (by have := hG.1; omega)
  have hx := hH.2.2.2.2.1.1
  have hf := hH.2.2.2.2.2.1
  rw [if_neg (by rw [hx]; omega), two.1, two.2.1, two.2.2, q.1] at st
  exact TS_end hH hi hr hq st.1 st.2 rlZ_ge (fun z hz => rlD_low hz) hW (Or.inr ⟨q.2.1, hQ.1, q.2.2.2⟩) e e2 e3 e66 e61
theorem A_end {w1 : List Int} {cz1 : Int} {cd1 : Int → Int} (hH : HM s rz cz0 cc kd i q0 rk rs rc re (fu (fu rc rz (-1)) rz cc) (rlD 4 w1 cz1 cd1) cc t M) (hkd : kd ≠ 0) (hz : rlZ 4 w1 cz1 = cc) (hG : GT g n c0 t) (hc : cm g n c0 t = (3, 0, 0, w1 ++ [], cz1, cd1, rz, fu rk rz kd, fu rs rz cz0, fu rc rz (-1), re)) (hw : ∀ x ∈ w1, x = 16 ∨ x = 17 ∨ x = 18) (hq : M 67 s = q0) (hi : i = 16 * s + rz) (hr : 0 ≤ rz ∧ rz < 16) (hk : kdT g n t = 15) (ht : t < 400) (e : ∀ j : Nat, j ≠ 53 → j ≠ 61 → j ≠ 66 → M' j = M j) (e2 : ∀ z : Int, z ≠ 11 → M' 53 z = M 53 z) (e3 : M' 53 11 = ((t + 1 : Nat) : Int)) (e66 : ∀ z : Int, M' 66 z = if z = i then M 67 s else M 66 z) (e61 : M' 61 s = rz + 1) : TS g n c0 s (t + 1) M' := by
  have st := st_semi hG hc (Or.inl rfl) hw hk hr.2 ht
  rw [if_pos (fu_s _ _ _)] at st
  have st2 : cm g n c0 (t + 1) = (0, 0, 0, [], cc, rlD 4 w1 cz1 cd1, rz + 1, fu rk rz kd, fu rs rz cz0, fu (fu rc rz (-1)) rz cc, fu re rz cc) := by
    rw [st.2, hz]; rfl
  exact TS_end (nr := 0) hH hi hr (by rw [hq]; omega) st.1 st2 (Int.le_refl _) (fun _ _ => rfl) (fun k k1 k2 => by omega) (Or.inl ⟨rfl, rfl, hkd⟩) e e2 e3 e66 e61
end Rules
