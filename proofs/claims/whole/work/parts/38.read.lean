/-! THE READER AT WORK -/
theorem rl_go {r x z : Int} {t : List Int} {d : Int → Int} (h : x ≠ 23) (h2 : r ≤ rkI x) : rlW r (x :: t) = rlW r t ∧ rlZ r (x :: t) z = rlZ r t (emZ z) ∧ rlD r (x :: t) z d = rlD r t (emZ z) (emD z d x 0) := ⟨if_pos ⟨h, h2⟩, if_pos ⟨h, h2⟩, if_pos ⟨h, h2⟩⟩
theorem rl_stop {r x z : Int} {t : List Int} {d : Int → Int} (h : ¬ (x ≠ 23 ∧ r ≤ rkI x)) : rlW r (x :: t) = x :: t ∧ rlZ r (x :: t) z = z ∧ rlD r (x :: t) z d = d := ⟨if_neg h, if_neg h, if_neg h⟩
theorem rl_stops {r z : Int} {w : List Int} {d : Int → Int} (h : w = [] ∨ ∃ x t, w = x :: t ∧ ¬ (x ≠ 23 ∧ r ≤ rkI x)) : rlW r w = w ∧ rlZ r w z = z ∧ rlD r w z d = d := by
  rcases h with rfl | ⟨x, t, rfl, h⟩
  · exact ⟨rfl, rfl, rfl⟩
  · exact rl_stop h
theorem li_cons {w : List Int} (h : 0 < (w.length : Int)) : ∃ x t, w = x :: t ∧ (w.length : Int) = (t.length : Int) + 1 := by
  cases w with
  | nil => simp at h
  | cons x t => exact ⟨x, t, rfl, by simp⟩
section TKs
variable {st sd dp cz rz k v : Int} {wt : List Int} {cd rk rs rc re : Int → Int}
theorem tkC_0 (h : st = 0) : tkC (st, sd, dp, wt, cz, cd, rz, rk, rs, rc, re) k v = (if k = 0 then 1 else 2, if k = 0 then 1 else 0, dp, wt, cz, cd, rz, if rz < 16 then fu rk rz k else rk, if rz < 16 then fu rs rz cz else rs, if rz < 16 then fu rc rz (if k = 0 then cz else -1) else rc, re) := if_pos h
theorem tkC_1 (h : st = 1) : tkC (st, sd, dp, wt, cz, cd, rz, rk, rs, rc, re) k v = (2, sd, dp, wt, cz, cd, rz, rk, rs, rc, re) := (if_neg (by omega)).trans (if_pos h)
theorem tkC_2o (h : st = 2) (hk : k = 23) : tkC (st, sd, dp, wt, cz, cd, rz, rk, rs, rc, re) k v = (2, sd, dp + 1, psh 23 wt, cz, cd, rz, rk, rs, rc, re) := (if_neg (by omega)).trans ((if_neg (by omega)).trans ((if_pos h).trans (if_pos hk)))
theorem tkC_2u (h : st = 2) (hk : k ≠ 23) : tkC (st, sd, dp, wt, cz, cd, rz, rk, rs, rc, re) k v = (3, sd, dp, wt, emZ cz, emD cz cd k v, rz, rk, rs, rc, re) := (if_neg (by omega)).trans ((if_neg (by omega)).trans ((if_pos h).trans (if_neg hk)))
theorem tkC_3c (h : ¬ (st = 0 ∨ st = 1 ∨ st = 2)) (hk : k = 24) : tkC (st, sd, dp, wt, cz, cd, rz, rk, rs, rc, re) k v = (st, sd, dp - 1, (rlW 0 wt).tail, rlZ 0 wt cz, rlD 0 wt cz cd, rz, rk, rs, rc, re) := (if_neg (by omega)).trans ((if_neg (by omega)).trans ((if_neg (by omega)).trans (if_pos hk)))
theorem tkC_3s (h : ¬ (st = 0 ∨ st = 1 ∨ st = 2)) (hk : k = 15) : tkC (st, sd, dp, wt, cz, cd, rz, rk, rs, rc, re) k v = (0, sd, dp, rlW 0 wt, rlZ 0 wt cz, rlD 0 wt cz cd, if rz < 16 then rz + 1 else rz, rk, rs, if rz < 16 ∧ rc rz = -1 then fu rc rz (rlZ 0 wt cz) else rc, if rz < 16 then fu re rz (rlZ 0 wt cz) else re) := (if_neg (by omega)).trans ((if_neg (by omega)).trans ((if_neg (by omega)).trans ((if_neg (by omega)).trans (if_pos hk))))
theorem tkC_3i (h : ¬ (st = 0 ∨ st = 1 ∨ st = 2)) (hk : k = 3) : tkC (st, sd, dp, wt, cz, cd, rz, rk, rs, rc, re) k v = (2, 1, dp, rlW 0 wt, rlZ 0 wt cz, rlD 0 wt cz cd, rz, rk, rs, if rz < 16 then fu rc rz (rlZ 0 wt cz) else rc, re) := (if_neg (by omega)).trans ((if_neg (by omega)).trans ((if_neg (by omega)).trans ((if_neg (by omega)).trans ((if_neg (by omega)).trans (if_pos hk)))))
theorem tkC_3o (h : ¬ (st = 0 ∨ st = 1 ∨ st = 2)) (hk : k ≠ 24 ∧ k ≠ 15 ∧ k ≠ 3) : tkC (st, sd, dp, wt, cz, cd, rz, rk, rs, rc, re) k v = (2, if 19 ≤ k ∧ k ≤ 22 then 2 else if k = 5 ∨ k = 4 then 1 else sd, dp, psh k (rlW (rkI k) wt), rlZ (rkI k) wt cz, rlD (rkI k) wt cz cd, rz, rk, rs, rc, re) := (if_neg (by omega)).trans ((if_neg (by omega)).trans ((if_neg (by omega)).trans ((if_neg (by omega)).trans ((if_neg (by omega)).trans (if_neg (by omega))))))
end TKs
/-- the tokens of the row g of n bytes -/
def psT (g : Int → Int) (n : Int) : Nat → Int
  | 0 => 0
  | j + 1 => tkE g n (lexP g n (psT g n j))
def plT (g : Int → Int) (n : Int) (j : Nat) : Int := lexP g n (psT g n j)
def kdT (g : Int → Int) (n : Int) (j : Nat) : Int := tkK g n (plT g n j)
def vlT (g : Int → Int) (n : Int) (j : Nat) : Int := tkV g n (plT g n j)
def cm (g : Int → Int) (n : Int) (c0 : CSt) : Nat → CSt
  | 0 => c0
  | j + 1 => tkC (cm g n c0 j) (kdT g n j) (vlT g n j)
/-- token k, the j-th, is taken; or reading ends at it with F -/
def gkT (c : CSt) (j : Nat) (k : Int) : Prop := goW c.1 c.2.1 c.2.2.1 k ∧ j ≠ 400 ∧ ¬ laR c.1 c.2.2.1 c.2.2.2.2.2.2.1 k
def vdT (c : CSt) (j : Nat) (k F : Int) : Prop := (F = 0 ∧ k = 26 ∧ c.1 = 0) ∨ (F = 1 ∧ ¬ (k = 26 ∧ c.1 = 0) ∧ ¬ goW c.1 c.2.1 c.2.2.1 k) ∨ (F = 2 ∧ goW c.1 c.2.1 c.2.2.1 k ∧ (j = 400 ∨ laR c.1 c.2.2.1 c.2.2.2.2.2.2.1 k))
def c00 (cd rk rs rc re : Int → Int) : CSt := (0, 0, 0, [], 0, cd, 0, rk, rs, rc, re)
theorem bt_out {f : Int → Int} {n z : Int} (h : n ≤ z) : bt f n z = 0 := by
  unfold bt
  rw [if_neg (by omega)]
theorem tkE_in {f : Int → Int} {n p : Int} (h0 : 0 ≤ p) (h1 : p ≤ n) : p ≤ tkE (bt f n) n p ∧ tkE (bt f n) n p ≤ n := by
  by_cases c : n ≤ p
  · rw [(tk_end c).2.2]; omega
  · by_cases c2 : ltB (bt f n p) = true
    · rw [(tk_word (by omega) c2).2.2]
      exact ⟨skp_le, skp_max h1⟩
    · by_cases c3 : dgB (bt f n p) = true
      · rw [(tk_int (by omega) c2 c3).2.2]
        exact ⟨skp_le, skp_max h1⟩
      · rw [(tk_sign (by omega) c2 c3).2.2]
        unfold sgN
        split
        · rename_i q
          have q1 := (twB_t.mp q).1
          by_cases c4 : n ≤ p + 1
          · rw [bt_out c4] at q1; omega
          · omega
        · omega
theorem psT_in {f : Int → Int} {n : Int} (h : 0 ≤ n) : ∀ j : Nat, 0 ≤ psT (bt f n) n j ∧ psT (bt f n) n j ≤ n
  | 0 => ⟨Int.le_refl _, h⟩
  | j + 1 => by
    have h1 := psT_in (f := f) h j
    have h2 : psT (bt f n) n j ≤ lexP (bt f n) n (psT (bt f n) n j) := skp_le
    have h3 : lexP (bt f n) n (psT (bt f n) n j) ≤ n := skp_max h1.2
    have h4 := tkE_in (f := f) (n := n) (p := lexP (bt f n) n (psT (bt f n) n j)) (by omega) h3
    show 0 ≤ tkE _ _ _ ∧ tkE _ _ _ ≤ n
    omega
theorem CSt_b {c : CSt} {k v : Int} (h1 : c.2.2.2.1.length ≤ 24) (h2 : 0 ≤ c.2.2.2.2.1 ∧ c.2.2.2.2.1 ≤ 400) (h3 : 0 ≤ c.2.2.2.2.2.2.1 ∧ c.2.2.2.2.2.2.1 ≤ 16) : ((tkC c k v).2.2.2.1.length ≤ 24) ∧ (0 ≤ (tkC c k v).2.2.2.2.1 ∧ (tkC c k v).2.2.2.2.1 ≤ 400) ∧ (0 ≤ (tkC c k v).2.2.2.2.2.2.1 ∧ (tkC c k v).2.2.2.2.2.2.1 ≤ 16) ∧ (c.2.2.1 - 1 ≤ (tkC c k v).2.2.1 ∧ (tkC c k v).2.2.1 ≤ c.2.2.1 + 1) := by
  obtain ⟨st, sd, dp, wt, cz, cd, rz, rk, rs, rc, re⟩ := c
  dsimp only at h1 h2 h3
  have l0 : (rlW 0 wt).length ≤ 24 := Nat.le_trans rlW_len h1
  have lk : (rlW (rkI k) wt).length ≤ 24 := Nat.le_trans rlW_len h1
  by_cases c0 : st = 0
  · rw [tkC_0 c0]; exact ⟨h1, h2, h3, by dsimp only; omega⟩
  by_cases c1 : st = 1
  · rw [tkC_1 c1]; exact ⟨h1, h2, h3, by dsimp only; omega⟩
  by_cases c2 : st = 2
  · by_cases d : k = 23
    · rw [tkC_2o c2 d]; exact ⟨psh_len h1, h2, h3, by dsimp only; omega⟩
    · rw [tkC_2u c2 d]; exact ⟨h1, emZ_in h2, h3, by dsimp only; omega⟩
  have c3 : ¬ (st = 0 ∨ st = 1 ∨ st = 2) := by omega
  by_cases d : k = 24
  · rw [tkC_3c c3 d]; exact ⟨by dsimp only; rw [List.length_tail]; omega, rlZ_in h2, h3, by dsimp only; omega⟩
  by_cases d2 : k = 15
  · rw [tkC_3s c3 d2]; exact ⟨l0, rlZ_in h2, by dsimp only; split <;> omega, by dsimp only; omega⟩
  by_cases d3 : k = 3
  · rw [tkC_3i c3 d3]; exact ⟨l0, rlZ_in h2, h3, by dsimp only; omega⟩
  · rw [tkC_3o c3 ⟨d, d2, d3⟩]; exact ⟨psh_len lk, rlZ_in h2, h3, by dsimp only; omega⟩
theorem cm_b {g : Int → Int} {n : Int} {cd rk rs rc re : Int → Int} : ∀ j : Nat, ((cm g n (c00 cd rk rs rc re) j).2.2.2.1.length ≤ 24) ∧ (0 ≤ (cm g n (c00 cd rk rs rc re) j).2.2.2.2.1 ∧ (cm g n (c00 cd rk rs rc re) j).2.2.2.2.1 ≤ 400) ∧ (0 ≤ (cm g n (c00 cd rk rs rc re) j).2.2.2.2.2.2.1 ∧ (cm g n (c00 cd rk rs rc re) j).2.2.2.2.2.2.1 ≤ 16) ∧ (-(j : Int) ≤ (cm g n (c00 cd rk rs rc re) j).2.2.1 ∧ (cm g n (c00 cd rk rs rc re) j).2.2.1 ≤ (j : Int))
  | 0 => ⟨Nat.zero_le _, ⟨(by decide : (0 : Int) ≤ 0), (by decide : (0 : Int) ≤ 400)⟩, ⟨(by decide : (0 : Int) ≤ 0), (by decide : (0 : Int) ≤ 16)⟩, ⟨(by decide : -((0 : Nat) : Int) ≤ 0), (by decide : (0 : Int) ≤ ((0 : Nat) : Int))⟩⟩
  | j + 1 => by
    have h := cm_b (g := g) (n := n) (cd := cd) (rk := rk) (rs := rs) (rc := rc) (re := re) j
    have h2 := CSt_b (k := kdT g n j) (v := vlT g n j) h.1 h.2.1 h.2.2.1
    refine ⟨h2.1, h2.2.1, h2.2.2.1, ?_⟩
    have h3 := h2.2.2.2
    have h4 := h.2.2.2
    show -((j + 1 : Nat) : Int) ≤ (tkC _ _ _).2.2.1 ∧ (tkC _ _ _).2.2.1 ≤ ((j + 1 : Nat) : Int)
    omega
theorem RC.i3 {M : MI} {t : Nat} {c : CSt} (h : RC M t c) : M 3 3 = c.1 ∧ M 3 4 = c.2.1 ∧ M 3 5 = c.2.2.1 ∧ M 3 2 = (c.2.2.2.1.length : Int) ∧ M t 6 = c.2.2.2.2.1 ∧ M t 7 = c.2.2.2.2.2.2.1 := h.1
theorem RC_fr {M M' : MI} {t : Nat} {c : CSt} (ht : isT t) (h : RC M t c) (e : ∀ i : Nat, i ≠ 5 → M' i = M i) : RC M' t c := by
  obtain ⟨st, sd, dp, wt, cz, cd, rz, rk, rs, rc, re⟩ := c
  have e3 := e 3 (by decide)
  have e4 := e 4 (by decide)
  rcases ht with rfl | rfl
  · have a0 := e 17 (by decide)
    have a1 := e 18 (by decide)
    have a2 := e 19 (by decide)
    have a3 := e 20 (by decide)
    have a4 := e 21 (by decide)
    have a5 := e 22 (by decide)
    unfold RC at h ⊢
    dsimp only at h ⊢
    rw [e3, e4, a0, a1, a2, a3, a4, a5]
    exact h
  · have a0 := e 24 (by decide)
    have a1 := e 25 (by decide)
    have a2 := e 26 (by decide)
    have a3 := e 27 (by decide)
    have a4 := e 28 (by decide)
    have a5 := e 29 (by decide)
    unfold RC at h ⊢
    dsimp only at h ⊢
    rw [e3, e4, a0, a1, a2, a3, a4, a5]
    exact h

-- lacksRoomFor
set_option maxHeartbeats 4000000 in
set_option maxRecDepth 100000 in
theorem c_X5_lacksRoomFor_17 (l : Launch) (D : va_G) (cy : Nat → ClassId) {N : Nat} {sh : MS} {ad : Nat → Nat} {M L : MI} {R : MR} (hS : Std N sh R) (k : Int) (hk : inR k) : Ctr l D cy yX5_lacksRoomFor wsX5_lacksRoomFor ({ frames := 1, cells := 0, slots := 0, locals := 20 } : Room) N sh ad M L R [.ref (ad 3), .ref (ad 17), .int (iz k)] (pB N sh ad M L R (laR (M 3 3) (M 3 5) (M 17 7) k)) := by
  refine Ctr.ofZ (by decide) rfl (Nat.le_of_ble_eq_true rfl) ?_
  intro K hKl hKd hRm hnm X hret
  have X : VX K cX5_lacksRoomFor 4 wsX5_lacksRoomFor RX5 := X
  show V K 4 0 0 N sh ad M L R [(0, .ref (ad 3)), (1, .ref (ad 17)), (2, .int (iz k))] [] 0
  refine v_aload_n X 0 dX5_lacksRoomFor_0 rfl rfl ?_
  refine gt_X5_state X iwX5 (Std.lt hS rfl) (Std.k hS rfl rfl) (List.mem_cons_of_mem _ bw_3_17) dX5_lacksRoomFor_1 (M 3 3) rfl (fun hr1 => ?_)
  refine v_if_ne X 18 dX5_lacksRoomFor_4 (by decide) ⟨by omega, by omega⟩ (fun u2 => ?_) (fun u2 => ?_)
  · skip
    refine v_iconst X dX5_lacksRoomFor_18 ?_
    refine v_istore_n X [(3, .int (iz 0)), (0, .ref (ad 3)), (1, .ref (ad 17)), (2, .int (iz k))] dX5_lacksRoomFor_19 rfl (by decide) rfl ?_
    refine v_iload_n X 0 dX5_lacksRoomFor_20 rfl rfl ?_
    refine v_if_ne X 39 dX5_lacksRoomFor_21 (by decide) ⟨by decide, by decide⟩ (fun q => absurd q (by decide)) (fun _ => ?_)
    refine v_iload_n X 3 dX5_lacksRoomFor_24 rfl rfl ?_
    refine v_bipush X dX5_lacksRoomFor_25 (by decide) ?_
    refine v_icmp_ne X 43 dX5_lacksRoomFor_27 (by decide) ⟨by omega, by omega⟩ ⟨by decide, by decide⟩ (fun u3 => ?_) (fun u3 => ?_)
    · skip
      refine v_iconst X dX5_lacksRoomFor_43 ?_
      refine hret _ _ _ _ _ _ _ _ _ _ _ (some (.int (iz 0))) dX5_lacksRoomFor_44 ⟨rfl, 0, ⟨by omega, by omega⟩, rfl⟩ (by decide) (by decide) (fun hmok => ?_)
      refine ⟨rfl, rfl, rfl, rfl, rfl, rfl, 0, rfl, Or.inr ⟨rfl, ?_⟩⟩
      first | omega | (unfold laR; omega)
    · skip
      refine v_aload_n X 1 dX5_lacksRoomFor_30 rfl rfl ?_
      refine gt_X5_depth X iwX5 (Std.lt hS rfl) (Std.k hS rfl rfl) (List.mem_cons_of_mem _ bw_3_19) dX5_lacksRoomFor_31 (M 3 5) rfl (fun hr4 => ?_)
      refine v_bipush X dX5_lacksRoomFor_34 (by decide) ?_
      refine v_icmp_lt X 43 dX5_lacksRoomFor_36 (by decide) ⟨by omega, by omega⟩ ⟨by decide, by decide⟩ (fun u5 => ?_) (fun u5 => ?_)
      · skip
        refine v_iconst X dX5_lacksRoomFor_43 ?_
        refine hret _ _ _ _ _ _ _ _ _ _ _ (some (.int (iz 0))) dX5_lacksRoomFor_44 ⟨rfl, 0, ⟨by omega, by omega⟩, rfl⟩ (by decide) (by decide) (fun hmok => ?_)
        refine ⟨rfl, rfl, rfl, rfl, rfl, rfl, 0, rfl, Or.inr ⟨rfl, ?_⟩⟩
        first | omega | (unfold laR; omega)
      · skip
        refine v_iconst X dX5_lacksRoomFor_39 ?_
        refine v_goto X 44 dX5_lacksRoomFor_40 (by decide) ?_
        refine hret _ _ _ _ _ _ _ _ _ _ _ (some (.int (iz 1))) dX5_lacksRoomFor_44 ⟨rfl, 1, ⟨by omega, by omega⟩, rfl⟩ (by decide) (by decide) (fun hmok => ?_)
        refine ⟨rfl, rfl, rfl, rfl, rfl, rfl, 1, rfl, Or.inl ⟨rfl, ?_⟩⟩
        first | omega | (unfold laR; omega)
  · skip
    refine v_aload_n X 1 dX5_lacksRoomFor_7 rfl rfl ?_
    refine v_callV X [] hRm (c_X10_isFull_17 _ _ _ hS) (gV bw_17_1 bw_17_2 bw_17_3 bw_2_10 bw_17_4) rfl ddX10_isFull (by decide) (Std.lt hS rfl) (Std.k hS rfl rfl) ⟨rfl, by decide⟩ (Nat.le_of_ble_eq_true rfl) dX5_lacksRoomFor_8 (k_pB (fun b6 => ?_) (fun b6 => ?_))
    · skip
      refine v_if_eq X 18 dX5_lacksRoomFor_11 (by decide) ⟨by decide, by decide⟩ (fun q => absurd q (by decide)) (fun _ => ?_)
      refine v_iconst X dX5_lacksRoomFor_14 ?_
      refine v_goto X 19 dX5_lacksRoomFor_15 (by decide) ?_
      refine v_istore_n X [(3, .int (iz 1)), (0, .ref (ad 3)), (1, .ref (ad 17)), (2, .int (iz k))] dX5_lacksRoomFor_19 rfl (by decide) rfl ?_
      refine v_iload_n X 0 dX5_lacksRoomFor_20 rfl rfl ?_
      refine v_if_ne X 39 dX5_lacksRoomFor_21 (by decide) ⟨by decide, by decide⟩ (fun _ => ?_) (fun q => absurd (by decide) q)
      refine v_iconst X dX5_lacksRoomFor_39 ?_
      refine v_goto X 44 dX5_lacksRoomFor_40 (by decide) ?_
      refine hret _ _ _ _ _ _ _ _ _ _ _ (some (.int (iz 1))) dX5_lacksRoomFor_44 ⟨rfl, 1, ⟨by omega, by omega⟩, rfl⟩ (by decide) (by decide) (fun hmok => ?_)
      refine ⟨rfl, rfl, rfl, rfl, rfl, rfl, 1, rfl, Or.inl ⟨rfl, ?_⟩⟩
      first | omega | (unfold laR; omega)
    · skip
      refine v_if_eq X 18 dX5_lacksRoomFor_11 (by decide) ⟨by decide, by decide⟩ (fun _ => ?_) (fun q => absurd (by decide) q)
      refine v_iconst X dX5_lacksRoomFor_18 ?_
      refine v_istore_n X [(3, .int (iz 0)), (0, .ref (ad 3)), (1, .ref (ad 17)), (2, .int (iz k))] dX5_lacksRoomFor_19 rfl (by decide) rfl ?_
      refine v_iload_n X 0 dX5_lacksRoomFor_20 rfl rfl ?_
      refine v_if_ne X 39 dX5_lacksRoomFor_21 (by decide) ⟨by decide, by decide⟩ (fun q => absurd q (by decide)) (fun _ => ?_)
      refine v_iload_n X 3 dX5_lacksRoomFor_24 rfl rfl ?_
      refine v_bipush X dX5_lacksRoomFor_25 (by decide) ?_
      refine v_icmp_ne X 43 dX5_lacksRoomFor_27 (by decide) ⟨by omega, by omega⟩ ⟨by decide, by decide⟩ (fun u7 => ?_) (fun u7 => ?_)
      · skip
        refine v_iconst X dX5_lacksRoomFor_43 ?_
        refine hret _ _ _ _ _ _ _ _ _ _ _ (some (.int (iz 0))) dX5_lacksRoomFor_44 ⟨rfl, 0, ⟨by omega, by omega⟩, rfl⟩ (by decide) (by decide) (fun hmok => ?_)
        refine ⟨rfl, rfl, rfl, rfl, rfl, rfl, 0, rfl, Or.inr ⟨rfl, ?_⟩⟩
        first | omega | (unfold laR; omega)
      · skip
        refine v_aload_n X 1 dX5_lacksRoomFor_30 rfl rfl ?_
        refine gt_X5_depth X iwX5 (Std.lt hS rfl) (Std.k hS rfl rfl) (List.mem_cons_of_mem _ bw_3_19) dX5_lacksRoomFor_31 (M 3 5) rfl (fun hr8 => ?_)
        refine v_bipush X dX5_lacksRoomFor_34 (by decide) ?_
        refine v_icmp_lt X 43 dX5_lacksRoomFor_36 (by decide) ⟨by omega, by omega⟩ ⟨by decide, by decide⟩ (fun u9 => ?_) (fun u9 => ?_)
        · skip
          refine v_iconst X dX5_lacksRoomFor_43 ?_
          refine hret _ _ _ _ _ _ _ _ _ _ _ (some (.int (iz 0))) dX5_lacksRoomFor_44 ⟨rfl, 0, ⟨by omega, by omega⟩, rfl⟩ (by decide) (by decide) (fun hmok => ?_)
          refine ⟨rfl, rfl, rfl, rfl, rfl, rfl, 0, rfl, Or.inr ⟨rfl, ?_⟩⟩
          first | omega | (unfold laR; omega)
        · skip
          refine v_iconst X dX5_lacksRoomFor_39 ?_
          refine v_goto X 44 dX5_lacksRoomFor_40 (by decide) ?_
          refine hret _ _ _ _ _ _ _ _ _ _ _ (some (.int (iz 1))) dX5_lacksRoomFor_44 ⟨rfl, 1, ⟨by omega, by omega⟩, rfl⟩ (by decide) (by decide) (fun hmok => ?_)
          refine ⟨rfl, rfl, rfl, rfl, rfl, rfl, 1, rfl, Or.inl ⟨rfl, ?_⟩⟩
          first | omega | (unfold laR; omega)

-- release
set_option maxHeartbeats 4000000 in
set_option maxRecDepth 100000 in
theorem c_X5_release_17 (l : Launch) (D : va_G) (cy : Nat → ClassId) {N : Nat} {sh : MS} {ad : Nat → Nat} {M L : MI} {R : MR} (hS : Std N sh R) (r : Int) (hr : inR r) (st sd dp : Int) (wt : List Int) (cz : Int) (cd : Int → Int) (rz : Int) (rk rs rc re : Int → Int) (hR : RC M 17 (st, sd, dp, wt, cz, cd, rz, rk, rs, rc, re)) (hl : wt.length ≤ 24) (hc : 0 ≤ cz ∧ cz ≤ 400) (hz : 0 ≤ rz ∧ rz ≤ 16) : Ctr l D cy yX5_release wsX5_release ({ frames := 2, cells := 0, slots := 0, locals := 40 } : Room) N sh ad M L R [.ref (ad 3), .ref (ad 17), .int (iz r)] (eV N sh ad L R (fun M' => RC M' 17 (st, sd, dp, rlW r wt, rlZ r wt cz, rlD r wt cz cd, rz, rk, rs, rc, re) ∧ frT 17 M M')) := by
  refine Ctr.ofV (by decide) rfl (Nat.le_of_ble_eq_true rfl) ?_
  intro K hKl hKd hRm hnm X hret
  have X : VX K cX5_release 3 wsX5_release RX5 := X
  show V K 3 0 0 N sh ad M L R [(0, .ref (ad 3)), (1, .ref (ad 17)), (2, .int (iz r))] [] 0
  have hl1 : ∀ (n3 : Nat) (Mx : MI) (w2 : List Int) (z2 : Int) (d2 : Int → Int), (RC Mx 17 (st, sd, dp, w2, z2, d2, rz, rk, rs, rc, re)) → (frT 17 M Mx) → (rlW r w2 = rlW r wt) → (rlZ r w2 z2 = rlZ r wt cz) → (rlD r w2 z2 d2 = rlD r wt cz cd) → (w2.length ≤ 24) → (0 ≤ z2 ∧ z2 ≤ 400) → w2.length < n3 → V K 3 0 0 N sh ad Mx L R [(0, .ref (ad 3)), (1, .ref (ad 17)), (2, .int (iz r))] [] 0 := by
    intro n3
    induction n3 with
    | zero => intro Mx w2 z2 d2 hx hf hW hZ hD hl2 hz2 hn4; exact absurd hn4 (Nat.not_lt_zero _)
    | succ n3 ih2 =>
      intro Mx w2 z2 d2 hx hf hW hZ hD hl2 hz2 hn4
      have g1 := hx.1.2.2.2.1
      have g2 := hx.1.2.2.2.2.1
      try dsimp only at g1 g2
      refine v_aload_n X 0 dX5_release_0 rfl rfl ?_
      refine gt_X5_waitingSize X iwX5 (Std.lt hS rfl) (Std.k hS rfl rfl) (List.mem_cons_of_mem _ bw_3_16) dX5_release_1 (Mx 3 2) rfl (fun hr5 => ?_)
      refine v_if_le X 68 dX5_release_4 (by decide) ⟨by omega, by omega⟩ (fun u6 => ?_) (fun u6 => ?_)
      · skip
        refine hret _ _ _ _ _ _ _ _ _ _ _ none dX5_release_68 ⟨rfl, rfl⟩ (by decide) (by decide) (fun hmok => ?_)
        have s9 := rl_stops (r := r) (z := z2) (d := d2) (w := w2) (Or.inl (List.eq_nil_of_length_eq_zero (by omega)))
        refine ⟨rfl, rfl, rfl, rfl, rfl, rfl, ?_, hf⟩
        rw [← hW, ← hZ, ← hD, s9.1, s9.2.1, s9.2.2]
        exact hx
      · skip
        obtain ⟨y, w3, hw3, hw4⟩ := li_cons (w := w2) (by omega)
        have g3 : Mx 4 (Mx 3 2 - 1) = y := by have q := hx.2.1; (try dsimp only at q); rw [hw3] at q; rw [g1, hw4, show (w3.length : Int) + 1 - 1 = (w3.length : Int) by omega]; exact q.1
        rw [hw3] at hx
        refine v_aload_n X 0 dX5_release_7 rfl rfl ?_
        refine gt_X5_waiting X iwX5 (Std.lt hS rfl) (Std.k hS rfl rfl) (List.mem_cons_of_mem _ bw_3_11) dX5_release_8 4 (Std.r hS 1 rfl) ?_
        refine v_aload_n X 0 dX5_release_11 rfl rfl ?_
        refine gt_X5_waitingSize X iwX5 (Std.lt hS rfl) (Std.k hS rfl rfl) (List.mem_cons_of_mem _ bw_3_16) dX5_release_12 (Mx 3 2) rfl (fun hr7 => ?_)
        refine v_iconst X dX5_release_15 ?_
        refine v_isub X dX5_release_16 ?_
        refine v_iald X (Mx 4 ((Mx 3 2) - 1)) (Std.lt hS rfl) (Std.at hS rfl rfl) (by omega) (by omega) dX5_release_17 rfl (fun hr8 => ?_)
        refine v_bipush X dX5_release_18 (by decide) ?_
        refine v_icmp_eq X 68 dX5_release_20 (by decide) ⟨by omega, by omega⟩ ⟨by decide, by decide⟩ (fun u9 => ?_) (fun u9 => ?_)
        · skip
          refine hret _ _ _ _ _ _ _ _ _ _ _ none dX5_release_68 ⟨rfl, rfl⟩ (by decide) (by decide) (fun hmok => ?_)
          have s9 := rl_stops (r := r) (z := z2) (d := d2) (w := w2) (Or.inr ⟨y, w3, hw3, fun z => z.1 (by omega)⟩)
          refine ⟨rfl, rfl, rfl, rfl, rfl, rfl, ?_, hf⟩
          rw [← hW, ← hZ, ← hD, s9.1, s9.2.1, s9.2.2]
          rw [hw3]
          exact hx
        · skip
          refine v_aload_n X 0 dX5_release_23 rfl rfl ?_
          refine gt_X5_waiting X iwX5 (Std.lt hS rfl) (Std.k hS rfl rfl) (List.mem_cons_of_mem _ bw_3_11) dX5_release_24 4 (Std.r hS 1 rfl) ?_
          refine v_aload_n X 0 dX5_release_27 rfl rfl ?_
          refine gt_X5_waitingSize X iwX5 (Std.lt hS rfl) (Std.k hS rfl rfl) (List.mem_cons_of_mem _ bw_3_16) dX5_release_28 (Mx 3 2) rfl (fun hr10 => ?_)
          refine v_iconst X dX5_release_31 ?_
          refine v_isub X dX5_release_32 ?_
          refine v_iald X (Mx 4 ((Mx 3 2) - 1)) (Std.lt hS rfl) (Std.at hS rfl rfl) (by omega) (by omega) dX5_release_33 rfl (fun hr11 => ?_)
          refine v_callS X [.int (iz (Mx 4 ((Mx 3 2) - 1)))] hRm (c_X5_rankOf _ _ _ (Mx 4 ((Mx 3 2) - 1)) ⟨by omega, by omega⟩) (gS bw_18_10 bw_18_11 bw_1_18 bw_18_12) rfl ddX5_rankOf (by decide) (Nat.le_of_ble_eq_true rfl) dX5_release_34 (k_pI (fun r12 hr13 hrk => ?_))
          rw [g3] at hrk
          refine v_iload_n X 2 dX5_release_37 rfl rfl ?_
          refine v_icmp_lt X 68 dX5_release_38 (by decide) ⟨by omega, by omega⟩ ⟨by omega, by omega⟩ (fun u14 => ?_) (fun u14 => ?_)
          · skip
            refine hret _ _ _ _ _ _ _ _ _ _ _ none dX5_release_68 ⟨rfl, rfl⟩ (by decide) (by decide) (fun hmok => ?_)
            have s9 := rl_stops (r := r) (z := z2) (d := d2) (w := w2) (Or.inr ⟨y, w3, hw3, fun z => by have := z.2; omega⟩)
            refine ⟨rfl, rfl, rfl, rfl, rfl, rfl, ?_, hf⟩
            rw [← hW, ← hZ, ← hD, s9.1, s9.2.1, s9.2.2]
            rw [hw3]
            exact hx
          · skip
            refine v_aload_n X 0 dX5_release_41 rfl rfl ?_
            refine v_dup X dX5_release_42 rfl ?_
            refine gt_X5_waitingSize X iwX5 (Std.lt hS rfl) (Std.k hS rfl rfl) (List.mem_cons_of_mem _ bw_3_16) dX5_release_43 (Mx 3 2) rfl (fun hr15 => ?_)
            refine v_iconst X dX5_release_46 ?_
            refine v_isub X dX5_release_47 ?_
            refine pt_X5_waitingSize X iwX5 (Std.lt hS rfl) (Std.k hS rfl rfl) (List.mem_cons_of_mem _ bw_3_16) ⟨by omega, by omega⟩ dX5_release_48 ?_
            refine v_aload_n X 1 dX5_release_51 rfl rfl ?_
            refine v_aload_n X 0 dX5_release_52 rfl rfl ?_
            refine gt_X5_waiting X iwX5 (Std.lt hS rfl) (Std.k hS rfl rfl) (List.mem_cons_of_mem _ bw_3_11) dX5_release_53 4 (Std.r hS 1 rfl) ?_
            refine v_aload_n X 0 dX5_release_56 rfl rfl ?_
            refine gt_X5_waitingSize X iwX5 (Std.lt hS rfl) (Std.k hS rfl rfl) (List.mem_cons_of_mem _ bw_3_16) dX5_release_57 ((Mx 3 2) - 1) rfl (fun hr16 => ?_)
            refine v_iald X (Mx 4 ((Mx 3 2) - 1)) (Std.lt hS rfl) (Std.at hS rfl rfl) (by omega) (by omega) dX5_release_60 rfl (fun hr17 => ?_)
            refine v_iconst X dX5_release_61 ?_
            refine v_callV X [.int (iz (Mx 4 ((Mx 3 2) - 1))), .int (iz 0)] hRm (c_X10_emit_17 _ _ _ hS (Mx 4 ((Mx 3 2) - 1)) 0 ⟨by omega, by omega⟩ ⟨by decide, by decide⟩ (show 0 ≤ Mx 17 6 ∧ Mx 17 6 ≤ 400 by omega)) (gV bw_17_22 bw_17_23 bw_18_0 bw_2_10 bw_18_1) rfl ddX10_emit (by decide) (Std.lt hS rfl) (Std.k hS rfl rfl) ⟨rfl, by decide⟩ (Nat.le_of_ble_eq_true rfl) dX5_release_62 (k_eV (fun M19 e18 => ?_))
            rw [g3] at e18
            have a1 := RC_tail (x := Mx 3 2 - 1) (Or.inl rfl : isT 17) hx (by omega)
            have a2 := RC_emit (Or.inl rfl : isT 17) a1.1 e18
            refine v_goto X 0 dX5_release_65 (by decide) ?_
            exact ih2 M19 w3 (emZ z2) (emD z2 d2 y 0) (a2.1) (frT_trans hf (frT_trans a1.2 a2.2)) (by rw [← (rl_go (r := r) (t := w3) (z := z2) (d := d2) (show y ≠ 23 by omega) (by rw [← hrk]; omega)).1, ← hw3]; exact hW) (by rw [← (rl_go (r := r) (t := w3) (z := z2) (d := d2) (show y ≠ 23 by omega) (by rw [← hrk]; omega)).2.1, ← hw3]; exact hZ) (by rw [← (rl_go (r := r) (t := w3) (z := z2) (d := d2) (show y ≠ 23 by omega) (by rw [← hrk]; omega)).2.2, ← hw3]; exact hD) (by omega) (emZ_in hz2) (by omega)
  exact hl1 _ M wt cz cd (hR) (frT_refl _ _) (rfl) (rfl) (rfl) (hl) (hc) (Nat.lt_succ_self _)

-- takeUnit
set_option maxHeartbeats 4000000 in
set_option maxRecDepth 100000 in
theorem c_X5_takeUnit_17 (l : Launch) (D : va_G) (cy : Nat → ClassId) {N : Nat} {sh : MS} {ad : Nat → Nat} {M L : MI} {R : MR} (hS : Std N sh R) (k : Int) (hk : 0 ≤ k ∧ k ≤ 27) (st sd dp : Int) (wt : List Int) (cz : Int) (cd : Int → Int) (rz : Int) (rk rs rc re : Int → Int) (hR : RC M 17 (st, sd, dp, wt, cz, cd, rz, rk, rs, rc, re)) (hl : wt.length ≤ 24) (hc : 0 ≤ cz ∧ cz ≤ 400) (hz : 0 ≤ rz ∧ rz ≤ 16) (hst : st = 2) (hd : -401 ≤ dp ∧ dp ≤ 401) : Ctr l D cy yX5_takeUnit wsX5_takeUnit ({ frames := 1, cells := 0, slots := 0, locals := 22 } : Room) N sh ad M L R [.ref (ad 3), .ref (ad 17), .int (iz k)] (eV N sh ad L R (fun M' => RC M' 17 (tkC (st, sd, dp, wt, cz, cd, rz, rk, rs, rc, re) k (M 5 3)) ∧ frT 17 M M')) := by
  refine Ctr.ofV (by decide) rfl (Nat.le_of_ble_eq_true rfl) ?_
  intro K hKl hKd hRm hnm X hret
  have X : VX K cX5_takeUnit 3 wsX5_takeUnit RX5 := X
  show V K 3 0 0 N sh ad M L R [(0, .ref (ad 3)), (1, .ref (ad 17)), (2, .int (iz k))] [] 0
  have a0 : RC M 17 (st, sd, dp, wt, cz, cd, rz, rk, rs, rc, re) ∧ frT 17 M M := ⟨hR, frT_refl _ _⟩
  have a0f := a0.2
  have a0b := hR.1
  try dsimp only at a0b
  refine v_iload_n X 2 dX5_takeUnit_0 rfl rfl ?_
  refine v_bipush X dX5_takeUnit_1 (by decide) ?_
  refine v_icmp_ne X 24 dX5_takeUnit_3 (by decide) ⟨by omega, by omega⟩ ⟨by decide, by decide⟩ (fun u1 => ?_) (fun u1 => ?_)
  · skip
    refine v_aload_n X 1 dX5_takeUnit_24 rfl rfl ?_
    refine v_iload_n X 2 dX5_takeUnit_25 rfl rfl ?_
    refine v_aload_n X 0 dX5_takeUnit_26 rfl rfl ?_
    refine gt_X5_scanner X iwX5 (Std.lt hS rfl) (Std.k hS rfl rfl) (List.mem_cons_of_mem _ bw_3_15) dX5_takeUnit_27 5 (Std.r hS 0 rfl) ?_
    refine gt_X6_value X iwX6 (Std.lt hS rfl) (Std.k hS rfl rfl) (List.mem_cons_of_mem _ bw_17_17) dX5_takeUnit_30 (M 5 3) rfl (fun hr2 => ?_)
    refine v_callV X [.int (iz k), .int (iz (M 5 3))] hRm (c_X10_emit_17 _ _ _ hS k (M 5 3) ⟨by omega, by omega⟩ ⟨by omega, by omega⟩ (show 0 ≤ M 17 6 ∧ M 17 6 ≤ 400 by omega)) (gV bw_17_22 bw_17_23 bw_18_0 bw_2_10 bw_18_1) rfl ddX10_emit (by decide) (Std.lt hS rfl) (Std.k hS rfl rfl) ⟨rfl, by decide⟩ (Nat.le_of_ble_eq_true rfl) dX5_takeUnit_33 (k_eV (fun M4 e3 => ?_))
    have a5 := RC_emit (Or.inl rfl : isT 17) a0.1 e3
    have a5f := frT_trans a0f a5.2
    have a5b := a5.1.1
    try dsimp only at a5b
    refine v_aload_n X 0 dX5_takeUnit_36 rfl rfl ?_
    refine v_iconst X dX5_takeUnit_37 ?_
    refine pt_X5_state X iwX5 (Std.lt hS rfl) (Std.k hS rfl rfl) (List.mem_cons_of_mem _ bw_3_17) ⟨by decide, by decide⟩ dX5_takeUnit_38 ?_
    have a6 := RC_f3 (x := 3) (Or.inl rfl : isT 17) a5.1
    have a6f := frT_trans a5f a6.2
    have a6b := a6.1.1
    try dsimp only at a6b
    refine hret _ _ _ _ _ _ _ _ _ _ _ none dX5_takeUnit_41 ⟨rfl, rfl⟩ (by decide) (by decide) (fun hmok => ?_)
    refine ⟨rfl, rfl, rfl, rfl, rfl, rfl, ?_, a6f⟩
    rw [tkC_2u hst (by omega)]
    exact a6.1
  · skip
    refine v_aload_n X 0 dX5_takeUnit_6 rfl rfl ?_
    refine v_iload_n X 2 dX5_takeUnit_7 rfl rfl ?_
    refine v_callV X [.int (iz k)] hRm (c_X5_hold _ _ _ hS k ⟨by omega, by omega⟩ (show 0 ≤ M 3 2 ∧ M 3 2 ≤ 24 by omega)) (gV bw_17_18 bw_17_19 bw_17_20 bw_1_18 bw_17_21) rfl ddX5_hold (by decide) (Std.lt hS rfl) (Std.k hS rfl rfl) ⟨rfl, by decide⟩ (Nat.le_of_ble_eq_true rfl) dX5_takeUnit_8 (k_eV (fun M8 e7 => ?_))
    have a9 := RC_hold (Or.inl rfl : isT 17) a0.1 e7
    have a9f := frT_trans a0f a9.2
    have a9b := a9.1.1
    try dsimp only at a9b
    refine v_aload_n X 0 dX5_takeUnit_11 rfl rfl ?_
    refine v_dup X dX5_takeUnit_12 rfl ?_
    refine gt_X5_depth X iwX5 (Std.lt hS rfl) (Std.k hS rfl rfl) (List.mem_cons_of_mem _ bw_3_19) dX5_takeUnit_13 (M8 3 5) rfl (fun hr10 => ?_)
    refine v_iconst X dX5_takeUnit_16 ?_
    refine v_iadd X dX5_takeUnit_17 ?_
    refine pt_X5_depth X iwX5 (Std.lt hS rfl) (Std.k hS rfl rfl) (List.mem_cons_of_mem _ bw_3_19) ⟨by omega, by omega⟩ dX5_takeUnit_18 ?_
    have a11 := RC_f5 (x := ((M8 3 5) + 1)) (Or.inl rfl : isT 17) a9.1
    have a11f := frT_trans a9f a11.2
    have a11b := a11.1.1
    try dsimp only at a11b
    refine v_goto X 41 dX5_takeUnit_21 (by decide) ?_
    refine hret _ _ _ _ _ _ _ _ _ _ _ none dX5_takeUnit_41 ⟨rfl, rfl⟩ (by decide) (by decide) (fun hmok => ?_)
    refine ⟨rfl, rfl, rfl, rfl, rfl, rfl, ?_, a11f⟩
    rw [tkC_2o hst (by omega)]
    have q9 := a11.1
    rw [hst, show k = 23 by omega] at q9
    rw [show dp + 1 = ((M8 3 5) + 1) by omega]
    exact q9

-- takeBehindUnit
set_option maxHeartbeats 4000000 in
set_option maxRecDepth 100000 in
theorem c_X5_takeBehindUnit_17 (l : Launch) (D : va_G) (cy : Nat → ClassId) {N : Nat} {sh : MS} {ad : Nat → Nat} {M L : MI} {R : MR} (hS : Std N sh R) (k : Int) (hk : 0 ≤ k ∧ k ≤ 27) (st sd dp : Int) (wt : List Int) (cz : Int) (cd : Int → Int) (rz : Int) (rk rs rc re : Int → Int) (hR : RC M 17 (st, sd, dp, wt, cz, cd, rz, rk, rs, rc, re)) (hl : wt.length ≤ 24) (hc : 0 ≤ cz ∧ cz ≤ 400) (hz : 0 ≤ rz ∧ rz ≤ 16) (hst : ¬ (st = 0 ∨ st = 1 ∨ st = 2)) (hd : -401 ≤ dp ∧ dp ≤ 401) : Ctr l D cy yX5_takeBehindUnit wsX5_takeBehindUnit ({ frames := 3, cells := 0, slots := 0, locals := 62 } : Room) N sh ad M L R [.ref (ad 3), .ref (ad 17), .int (iz k)] (eV N sh ad L R (fun M' => RC M' 17 (tkC (st, sd, dp, wt, cz, cd, rz, rk, rs, rc, re) k (M 5 3)) ∧ frT 17 M M')) := by
  refine Ctr.ofV (by decide) rfl (Nat.le_of_ble_eq_true rfl) ?_
  intro K hKl hKd hRm hnm X hret
  have X : VX K cX5_takeBehindUnit 3 wsX5_takeBehindUnit RX5 := X
  show V K 3 0 0 N sh ad M L R [(0, .ref (ad 3)), (1, .ref (ad 17)), (2, .int (iz k))] [] 0
  have a0 : RC M 17 (st, sd, dp, wt, cz, cd, rz, rk, rs, rc, re) ∧ frT 17 M M := ⟨hR, frT_refl _ _⟩
  have a0f := a0.2
  have a0b := hR.1
  try dsimp only at a0b
  refine v_aload_n X 0 dX5_takeBehindUnit_0 rfl rfl ?_
  refine v_aload_n X 1 dX5_takeBehindUnit_1 rfl rfl ?_
  refine v_iload_n X 2 dX5_takeBehindUnit_2 rfl rfl ?_
  refine v_callS X [.int (iz k)] hRm (c_X5_rankOf _ _ _ k ⟨by omega, by omega⟩) (gS bw_18_10 bw_18_11 bw_1_18 bw_18_12) rfl ddX5_rankOf (by decide) (Nat.le_of_ble_eq_true rfl) dX5_takeBehindUnit_3 (k_pI (fun r1 hr2 hrk => ?_))
  replace hrk : r1 = rkI k := hrk
  subst hrk
  refine v_callV X [.ref (ad 17), .int (iz (rkI k))] hRm (c_X5_release_17 _ _ _ hS (rkI k) ⟨by have := rkI_in k; omega, by have := rkI_in k; omega⟩ st sd dp wt cz cd rz rk rs rc re hR hl hc hz) (gV bw_18_13 bw_18_14 bw_18_15 bw_1_18 bw_18_16) rfl ddX5_release (by decide) (Std.lt hS rfl) (Std.k hS rfl rfl) ⟨rfl, by decide⟩ (Nat.le_of_ble_eq_true rfl) dX5_takeBehindUnit_6 (k_eV (fun M4 a5 => ?_))
  have a5f := a5.2
  have a5b := a5.1.1
  try dsimp only at a5b
  have lW := Nat.le_trans (rlW_len (r := rkI k) (w := wt)) hl
  have lZ := rlZ_in (r := rkI k) (w := wt) hc
  refine v_iload_n X 2 dX5_takeBehindUnit_9 rfl rfl ?_
  refine v_bipush X dX5_takeBehindUnit_10 (by decide) ?_
  refine v_icmp_ne X 42 dX5_takeBehindUnit_12 (by decide) ⟨by omega, by omega⟩ ⟨by decide, by decide⟩ (fun u6 => ?_) (fun u6 => ?_)
  · skip
    refine v_iload_n X 2 dX5_takeBehindUnit_42 rfl rfl ?_
    refine v_bipush X dX5_takeBehindUnit_43 (by decide) ?_
    refine v_icmp_ne X 60 dX5_takeBehindUnit_45 (by decide) ⟨by omega, by omega⟩ ⟨by decide, by decide⟩ (fun u7 => ?_) (fun u7 => ?_)
    · skip
      refine v_iload_n X 2 dX5_takeBehindUnit_60 rfl rfl ?_
      refine v_iconst X dX5_takeBehindUnit_61 ?_
      refine v_icmp_ne X 82 dX5_takeBehindUnit_62 (by decide) ⟨by omega, by omega⟩ ⟨by decide, by decide⟩ (fun u8 => ?_) (fun u8 => ?_)
      · skip
        refine v_aload_n X 0 dX5_takeBehindUnit_82 rfl rfl ?_
        refine v_iload_n X 2 dX5_takeBehindUnit_83 rfl rfl ?_
        refine v_callV X [.int (iz k)] hRm (c_X5_hold _ _ _ hS k ⟨by omega, by omega⟩ (show 0 ≤ M4 3 2 ∧ M4 3 2 ≤ 24 by omega)) (gV bw_17_18 bw_17_19 bw_17_20 bw_1_18 bw_17_21) rfl ddX5_hold (by decide) (Std.lt hS rfl) (Std.k hS rfl rfl) ⟨rfl, by decide⟩ (Nat.le_of_ble_eq_true rfl) dX5_takeBehindUnit_84 (k_eV (fun M10 e9 => ?_))
        have a11 := RC_hold (Or.inl rfl : isT 17) a5.1 e9
        have a11f := frT_trans a5f a11.2
        have a11b := a11.1.1
        try dsimp only at a11b
        refine v_aload_n X 0 dX5_takeBehindUnit_87 rfl rfl ?_
        refine v_iconst X dX5_takeBehindUnit_88 ?_
        refine pt_X5_state X iwX5 (Std.lt hS rfl) (Std.k hS rfl rfl) (List.mem_cons_of_mem _ bw_3_17) ⟨by decide, by decide⟩ dX5_takeBehindUnit_89 ?_
        have a12 := RC_f3 (x := 2) (Or.inl rfl : isT 17) a11.1
        have a12f := frT_trans a11f a12.2
        have a12b := a12.1.1
        try dsimp only at a12b
        refine v_iload_n X 2 dX5_takeBehindUnit_92 rfl rfl ?_
        refine v_callS X [.int (iz k)] hRm (c_X5_isRelation _ _ _ k ⟨by omega, by omega⟩) (gS bw_16_18 bw_16_19 bw_1_18 bw_16_20) rfl ddX5_isRelation (by decide) (Nat.le_of_ble_eq_true rfl) dX5_takeBehindUnit_93 (k_pB (fun b13 => ?_) (fun b13 => ?_))
        · skip
          refine v_if_eq X 107 dX5_takeBehindUnit_96 (by decide) ⟨by decide, by decide⟩ (fun q => absurd q (by decide)) (fun _ => ?_)
          refine v_aload_n X 0 dX5_takeBehindUnit_99 rfl rfl ?_
          refine v_iconst X dX5_takeBehindUnit_100 ?_
          refine pt_X5_side X iwX5 (Std.lt hS rfl) (Std.k hS rfl rfl) (List.mem_cons_of_mem _ bw_3_18) ⟨by decide, by decide⟩ dX5_takeBehindUnit_101 ?_
          have a14 := RC_f4 (x := 2) (Or.inl rfl : isT 17) a12.1
          have a14f := frT_trans a12f a14.2
          have a14b := a14.1.1
          try dsimp only at a14b
          refine v_goto X 122 dX5_takeBehindUnit_104 (by decide) ?_
          refine hret _ _ _ _ _ _ _ _ _ _ _ none dX5_takeBehindUnit_122 ⟨rfl, rfl⟩ (by decide) (by decide) (fun hmok => ?_)
          refine ⟨rfl, rfl, rfl, rfl, rfl, rfl, ?_, a14f⟩
          rw [tkC_3o hst (by omega), if_pos (show 19 ≤ k ∧ k ≤ 22 by omega)]
          exact a14.1
        · skip
          refine v_if_eq X 107 dX5_takeBehindUnit_96 (by decide) ⟨by decide, by decide⟩ (fun _ => ?_) (fun q => absurd (by decide) q)
          refine v_iload_n X 2 dX5_takeBehindUnit_107 rfl rfl ?_
          refine v_iconst X dX5_takeBehindUnit_108 ?_
          refine v_icmp_eq X 117 dX5_takeBehindUnit_109 (by decide) ⟨by omega, by omega⟩ ⟨by decide, by decide⟩ (fun u15 => ?_) (fun u15 => ?_)
          · skip
            refine v_aload_n X 0 dX5_takeBehindUnit_117 rfl rfl ?_
            refine v_iconst X dX5_takeBehindUnit_118 ?_
            refine pt_X5_side X iwX5 (Std.lt hS rfl) (Std.k hS rfl rfl) (List.mem_cons_of_mem _ bw_3_18) ⟨by decide, by decide⟩ dX5_takeBehindUnit_119 ?_
            have a16 := RC_f4 (x := 1) (Or.inl rfl : isT 17) a12.1
            have a16f := frT_trans a12f a16.2
            have a16b := a16.1.1
            try dsimp only at a16b
            refine hret _ _ _ _ _ _ _ _ _ _ _ none dX5_takeBehindUnit_122 ⟨rfl, rfl⟩ (by decide) (by decide) (fun hmok => ?_)
            refine ⟨rfl, rfl, rfl, rfl, rfl, rfl, ?_, a16f⟩
            rw [tkC_3o hst (by omega), if_neg (show ¬ (19 ≤ k ∧ k ≤ 22) by omega), if_pos (show k = 5 ∨ k = 4 by omega)]
            exact a16.1
          · skip
            refine v_iload_n X 2 dX5_takeBehindUnit_112 rfl rfl ?_
            refine v_iconst X dX5_takeBehindUnit_113 ?_
            refine v_icmp_ne X 122 dX5_takeBehindUnit_114 (by decide) ⟨by omega, by omega⟩ ⟨by decide, by decide⟩ (fun u17 => ?_) (fun u17 => ?_)
            · skip
              refine hret _ _ _ _ _ _ _ _ _ _ _ none dX5_takeBehindUnit_122 ⟨rfl, rfl⟩ (by decide) (by decide) (fun hmok => ?_)
              refine ⟨rfl, rfl, rfl, rfl, rfl, rfl, ?_, a12f⟩
              rw [tkC_3o hst (by omega), if_neg (show ¬ (19 ≤ k ∧ k ≤ 22) by omega), if_neg (show ¬ (k = 5 ∨ k = 4) by omega)]
              exact a12.1
            · skip
              refine v_aload_n X 0 dX5_takeBehindUnit_117 rfl rfl ?_
              refine v_iconst X dX5_takeBehindUnit_118 ?_
              refine pt_X5_side X iwX5 (Std.lt hS rfl) (Std.k hS rfl rfl) (List.mem_cons_of_mem _ bw_3_18) ⟨by decide, by decide⟩ dX5_takeBehindUnit_119 ?_
              have a18 := RC_f4 (x := 1) (Or.inl rfl : isT 17) a12.1
              have a18f := frT_trans a12f a18.2
              have a18b := a18.1.1
              try dsimp only at a18b
              refine hret _ _ _ _ _ _ _ _ _ _ _ none dX5_takeBehindUnit_122 ⟨rfl, rfl⟩ (by decide) (by decide) (fun hmok => ?_)
              refine ⟨rfl, rfl, rfl, rfl, rfl, rfl, ?_, a18f⟩
              rw [tkC_3o hst (by omega), if_neg (show ¬ (19 ≤ k ∧ k ≤ 22) by omega), if_pos (show k = 5 ∨ k = 4 by omega)]
              exact a18.1
      · skip
        refine v_aload_n X 1 dX5_takeBehindUnit_65 rfl rfl ?_
        refine v_callV X [] hRm (c_X10_openCondition_17 _ _ _ hS (show 0 ≤ M4 17 7 ∧ M4 17 7 ≤ 16 by omega)) (gV bw_18_21 bw_18_22 bw_18_23 bw_2_10 bw_19_0) rfl ddX10_openCondition (by decide) (Std.lt hS rfl) (Std.k hS rfl rfl) ⟨rfl, by decide⟩ (Nat.le_of_ble_eq_true rfl) dX5_takeBehindUnit_66 (k_eV (fun M20 e19 => ?_))
        have a21 := RC_cond (Or.inl rfl : isT 17) a5.1 e19
        have a21f := frT_trans a5f a21.2
        have a21b := a21.1.1
        try dsimp only at a21b
        refine v_aload_n X 0 dX5_takeBehindUnit_69 rfl rfl ?_
        refine v_iconst X dX5_takeBehindUnit_70 ?_
        refine pt_X5_side X iwX5 (Std.lt hS rfl) (Std.k hS rfl rfl) (List.mem_cons_of_mem _ bw_3_18) ⟨by decide, by decide⟩ dX5_takeBehindUnit_71 ?_
        have a22 := RC_f4 (x := 1) (Or.inl rfl : isT 17) a21.1
        have a22f := frT_trans a21f a22.2
        have a22b := a22.1.1
        try dsimp only at a22b
        refine v_aload_n X 0 dX5_takeBehindUnit_74 rfl rfl ?_
        refine v_iconst X dX5_takeBehindUnit_75 ?_
        refine pt_X5_state X iwX5 (Std.lt hS rfl) (Std.k hS rfl rfl) (List.mem_cons_of_mem _ bw_3_17) ⟨by decide, by decide⟩ dX5_takeBehindUnit_76 ?_
        have a23 := RC_f3 (x := 2) (Or.inl rfl : isT 17) a22.1
        have a23f := frT_trans a22f a23.2
        have a23b := a23.1.1
        try dsimp only at a23b
        refine v_goto X 122 dX5_takeBehindUnit_79 (by decide) ?_
        refine hret _ _ _ _ _ _ _ _ _ _ _ none dX5_takeBehindUnit_122 ⟨rfl, rfl⟩ (by decide) (by decide) (fun hmok => ?_)
        refine ⟨rfl, rfl, rfl, rfl, rfl, rfl, ?_, a23f⟩
        rw [tkC_3i hst (by omega)]
        have q9 := a23.1
        rw [show rkI k = 0 by rw [show k = 3 by omega]; rfl] at q9
        exact q9
    · skip
      refine v_aload_n X 1 dX5_takeBehindUnit_48 rfl rfl ?_
      refine v_callV X [] hRm (c_X10_closeRule_17 _ _ _ hS (show 0 ≤ M4 17 7 ∧ M4 17 7 ≤ 16 by omega)) (gV bw_18_17 bw_18_18 bw_18_19 bw_2_10 bw_18_20) rfl ddX10_closeRule (by decide) (Std.lt hS rfl) (Std.k hS rfl rfl) ⟨rfl, by decide⟩ (Nat.le_of_ble_eq_true rfl) dX5_takeBehindUnit_49 (k_eV (fun M25 e24 => ?_))
      have a26 := RC_close (Or.inl rfl : isT 17) a5.1 e24
      have a26f := frT_trans a5f a26.2
      have a26b := a26.1.1
      try dsimp only at a26b
      refine v_aload_n X 0 dX5_takeBehindUnit_52 rfl rfl ?_
      refine v_iconst X dX5_takeBehindUnit_53 ?_
      refine pt_X5_state X iwX5 (Std.lt hS rfl) (Std.k hS rfl rfl) (List.mem_cons_of_mem _ bw_3_17) ⟨by decide, by decide⟩ dX5_takeBehindUnit_54 ?_
      have a27 := RC_f3 (x := 0) (Or.inl rfl : isT 17) a26.1
      have a27f := frT_trans a26f a27.2
      have a27b := a27.1.1
      try dsimp only at a27b
      refine v_goto X 122 dX5_takeBehindUnit_57 (by decide) ?_
      refine hret _ _ _ _ _ _ _ _ _ _ _ none dX5_takeBehindUnit_122 ⟨rfl, rfl⟩ (by decide) (by decide) (fun hmok => ?_)
      refine ⟨rfl, rfl, rfl, rfl, rfl, rfl, ?_, a27f⟩
      rw [tkC_3s hst (by omega)]
      have q9 := a27.1
      rw [show rkI k = 0 by rw [show k = 15 by omega]; rfl] at q9
      exact q9
  · skip
    refine v_aload_n X 0 dX5_takeBehindUnit_15 rfl rfl ?_
    refine v_iconst X dX5_takeBehindUnit_16 ?_
    refine v_aload_n X 0 dX5_takeBehindUnit_17 rfl rfl ?_
    refine gt_X5_waitingSize X iwX5 (Std.lt hS rfl) (Std.k hS rfl rfl) (List.mem_cons_of_mem _ bw_3_16) dX5_takeBehindUnit_18 (M4 3 2) rfl (fun hr28 => ?_)
    refine v_iconst X dX5_takeBehindUnit_21 ?_
    refine v_isub X dX5_takeBehindUnit_22 ?_
    obtain ⟨x29, u30⟩ : ∃ z : Int, z = max 0 ((M4 3 2) - 1) := ⟨_, rfl⟩
    refine v_max X x29 hRm (List.mem_cons_of_mem _ bw_18_6) (List.mem_cons_of_mem _ bw_18_7) (List.mem_cons_of_mem _ bw_18_8) (List.mem_cons_of_mem _ bw_18_9) ⟨Nat.le_of_ble_eq_true rfl, Nat.le_of_ble_eq_true rfl, Nat.le_of_ble_eq_true rfl, Nat.le_of_ble_eq_true rfl⟩ ⟨by decide, by decide⟩ ⟨by omega, by omega⟩ u30 dX5_takeBehindUnit_23 ?_
    refine pt_X5_waitingSize X iwX5 (Std.lt hS rfl) (Std.k hS rfl rfl) (List.mem_cons_of_mem _ bw_3_16) ⟨by omega, by omega⟩ dX5_takeBehindUnit_26 ?_
    have a31 := RC_tail (x := x29) (Or.inl rfl : isT 17) a5.1 (by omega)
    have a31f := frT_trans a5f a31.2
    have a31b := a31.1.1
    try dsimp only at a31b
    refine v_aload_n X 0 dX5_takeBehindUnit_29 rfl rfl ?_
    refine v_dup X dX5_takeBehindUnit_30 rfl ?_
    refine gt_X5_depth X iwX5 (Std.lt hS rfl) (Std.k hS rfl rfl) (List.mem_cons_of_mem _ bw_3_19) dX5_takeBehindUnit_31 (M4 3 5) rfl (fun hr32 => ?_)
    refine v_iconst X dX5_takeBehindUnit_34 ?_
    refine v_isub X dX5_takeBehindUnit_35 ?_
    refine pt_X5_depth X iwX5 (Std.lt hS rfl) (Std.k hS rfl rfl) (List.mem_cons_of_mem _ bw_3_19) ⟨by omega, by omega⟩ dX5_takeBehindUnit_36 ?_
    have a33 := RC_f5 (x := ((M4 3 5) - 1)) (Or.inl rfl : isT 17) a31.1
    have a33f := frT_trans a31f a33.2
    have a33b := a33.1.1
    try dsimp only at a33b
    refine v_goto X 122 dX5_takeBehindUnit_39 (by decide) ?_
    refine hret _ _ _ _ _ _ _ _ _ _ _ none dX5_takeBehindUnit_122 ⟨rfl, rfl⟩ (by decide) (by decide) (fun hmok => ?_)
    refine ⟨rfl, rfl, rfl, rfl, rfl, rfl, ?_, a33f⟩
    rw [tkC_3c hst (by omega)]
    have q9 := a33.1
    rw [show rkI k = 0 by rw [show k = 24 by omega]; rfl] at q9
    rw [show dp - 1 = ((M4 3 5) - 1) by omega]
    exact q9

-- take
set_option maxHeartbeats 4000000 in
set_option maxRecDepth 100000 in
theorem c_X5_take_17 (l : Launch) (D : va_G) (cy : Nat → ClassId) {N : Nat} {sh : MS} {ad : Nat → Nat} {M L : MI} {R : MR} (hS : Std N sh R) (k : Int) (hk : 0 ≤ k ∧ k ≤ 27) (st sd dp : Int) (wt : List Int) (cz : Int) (cd : Int → Int) (rz : Int) (rk rs rc re : Int → Int) (hR : RC M 17 (st, sd, dp, wt, cz, cd, rz, rk, rs, rc, re)) (hl : wt.length ≤ 24) (hc : 0 ≤ cz ∧ cz ≤ 400) (hz : 0 ≤ rz ∧ rz ≤ 16) (hd : -401 ≤ dp ∧ dp ≤ 401) : Ctr l D cy yX5_take wsX5_take ({ frames := 4, cells := 0, slots := 0, locals := 84 } : Room) N sh ad M L R [.ref (ad 3), .ref (ad 17), .int (iz k)] (eV N sh ad L R (fun M' => RC M' 17 (tkC (st, sd, dp, wt, cz, cd, rz, rk, rs, rc, re) k (M 5 3)) ∧ frT 17 M M')) := by
  refine Ctr.ofV (by decide) rfl (Nat.le_of_ble_eq_true rfl) ?_
  intro K hKl hKd hRm hnm X hret
  have X : VX K cX5_take 3 wsX5_take RX5 := X
  show V K 3 0 0 N sh ad M L R [(0, .ref (ad 3)), (1, .ref (ad 17)), (2, .int (iz k))] [] 0
  have a0 : RC M 17 (st, sd, dp, wt, cz, cd, rz, rk, rs, rc, re) ∧ frT 17 M M := ⟨hR, frT_refl _ _⟩
  have a0f := a0.2
  have a0b := hR.1
  try dsimp only at a0b
  refine v_aload_n X 0 dX5_take_0 rfl rfl ?_
  refine gt_X5_state X iwX5 (Std.lt hS rfl) (Std.k hS rfl rfl) (List.mem_cons_of_mem _ bw_3_17) dX5_take_1 (M 3 3) rfl (fun hr1 => ?_)
  by_cases u2 : (M 3 3) = 0
  · skip
    refine v_tabIn X 32 dX5_take_4 ⟨by omega, by omega⟩ (by omega) (by omega) (by rw [u2]; rfl) (by decide) ?_
    refine v_aload_n X 1 dX5_take_32 rfl rfl ?_
    refine v_iload_n X 2 dX5_take_33 rfl rfl ?_
    refine v_callV X [.int (iz k)] hRm (c_X10_openRule_17 _ _ _ hS k ⟨by omega, by omega⟩ (show 0 ≤ M 17 7 ∧ M 17 7 ≤ 16 by omega)) (gV bw_17_9 bw_17_10 bw_17_11 bw_2_10 bw_17_12) rfl ddX10_openRule (by decide) (Std.lt hS rfl) (Std.k hS rfl rfl) ⟨rfl, by decide⟩ (Nat.le_of_ble_eq_true rfl) dX5_take_34 (k_eV (fun M4 e3 => ?_))
    have a5 := RC_open (Or.inl rfl : isT 17) a0.1 e3
    have a5f := frT_trans a0f a5.2
    have a5b := a5.1.1
    try dsimp only at a5b
    refine v_aload_n X 0 dX5_take_37 rfl rfl ?_
    refine v_iload_n X 2 dX5_take_38 rfl rfl ?_
    refine v_if_ne X 46 dX5_take_39 (by decide) ⟨by omega, by omega⟩ (fun u6 => ?_) (fun u6 => ?_)
    · skip
      refine v_iconst X dX5_take_46 ?_
      refine pt_X5_side X iwX5 (Std.lt hS rfl) (Std.k hS rfl rfl) (List.mem_cons_of_mem _ bw_3_18) ⟨by decide, by decide⟩ dX5_take_47 ?_
      have a7 := RC_f4 (x := 0) (Or.inl rfl : isT 17) a5.1
      have a7f := frT_trans a5f a7.2
      have a7b := a7.1.1
      try dsimp only at a7b
      refine v_aload_n X 0 dX5_take_50 rfl rfl ?_
      refine v_iload_n X 2 dX5_take_51 rfl rfl ?_
      refine v_if_ne X 59 dX5_take_52 (by decide) ⟨by omega, by omega⟩ (fun u8 => ?_) (fun u8 => ?_)
      · skip
        refine v_iconst X dX5_take_59 ?_
        refine pt_X5_state X iwX5 (Std.lt hS rfl) (Std.k hS rfl rfl) (List.mem_cons_of_mem _ bw_3_17) ⟨by decide, by decide⟩ dX5_take_60 ?_
        have a9 := RC_f3 (x := 2) (Or.inl rfl : isT 17) a7.1
        have a9f := frT_trans a7f a9.2
        have a9b := a9.1.1
        try dsimp only at a9b
        refine v_goto X 89 dX5_take_63 (by decide) ?_
        refine hret _ _ _ _ _ _ _ _ _ _ _ none dX5_take_89 ⟨rfl, rfl⟩ (by decide) (by decide) (fun hmok => ?_)
        refine ⟨rfl, rfl, rfl, rfl, rfl, rfl, ?_, a9f⟩
        rw [tkC_0 (show st = 0 by omega)]
        first | (exfalso; omega; done) | skip
        all_goals first | (rw [if_pos (show k = 0 by omega), if_pos (show k = 0 by omega)]; exact a9.1) | (rw [if_neg (show ¬ k = 0 by omega), if_neg (show ¬ k = 0 by omega)]; exact a9.1)
      · skip
        refine v_iconst X dX5_take_55 ?_
        refine v_goto X 60 dX5_take_56 (by decide) ?_
        refine pt_X5_state X iwX5 (Std.lt hS rfl) (Std.k hS rfl rfl) (List.mem_cons_of_mem _ bw_3_17) ⟨by decide, by decide⟩ dX5_take_60 ?_
        have a10 := RC_f3 (x := 1) (Or.inl rfl : isT 17) a7.1
        have a10f := frT_trans a7f a10.2
        have a10b := a10.1.1
        try dsimp only at a10b
        refine v_goto X 89 dX5_take_63 (by decide) ?_
        refine hret _ _ _ _ _ _ _ _ _ _ _ none dX5_take_89 ⟨rfl, rfl⟩ (by decide) (by decide) (fun hmok => ?_)
        refine ⟨rfl, rfl, rfl, rfl, rfl, rfl, ?_, a10f⟩
        rw [tkC_0 (show st = 0 by omega)]
        first | (exfalso; omega; done) | skip
        all_goals first | (rw [if_pos (show k = 0 by omega), if_pos (show k = 0 by omega)]; exact a10.1) | (rw [if_neg (show ¬ k = 0 by omega), if_neg (show ¬ k = 0 by omega)]; exact a10.1)
    · skip
      refine v_iconst X dX5_take_42 ?_
      refine v_goto X 47 dX5_take_43 (by decide) ?_
      refine pt_X5_side X iwX5 (Std.lt hS rfl) (Std.k hS rfl rfl) (List.mem_cons_of_mem _ bw_3_18) ⟨by decide, by decide⟩ dX5_take_47 ?_
      have a11 := RC_f4 (x := 1) (Or.inl rfl : isT 17) a5.1
      have a11f := frT_trans a5f a11.2
      have a11b := a11.1.1
      try dsimp only at a11b
      refine v_aload_n X 0 dX5_take_50 rfl rfl ?_
      refine v_iload_n X 2 dX5_take_51 rfl rfl ?_
      refine v_if_ne X 59 dX5_take_52 (by decide) ⟨by omega, by omega⟩ (fun u12 => ?_) (fun u12 => ?_)
      · skip
        refine v_iconst X dX5_take_59 ?_
        refine pt_X5_state X iwX5 (Std.lt hS rfl) (Std.k hS rfl rfl) (List.mem_cons_of_mem _ bw_3_17) ⟨by decide, by decide⟩ dX5_take_60 ?_
        have a13 := RC_f3 (x := 2) (Or.inl rfl : isT 17) a11.1
        have a13f := frT_trans a11f a13.2
        have a13b := a13.1.1
        try dsimp only at a13b
        refine v_goto X 89 dX5_take_63 (by decide) ?_
        refine hret _ _ _ _ _ _ _ _ _ _ _ none dX5_take_89 ⟨rfl, rfl⟩ (by decide) (by decide) (fun hmok => ?_)
        refine ⟨rfl, rfl, rfl, rfl, rfl, rfl, ?_, a13f⟩
        rw [tkC_0 (show st = 0 by omega)]
        first | (exfalso; omega; done) | skip
        all_goals first | (rw [if_pos (show k = 0 by omega), if_pos (show k = 0 by omega)]; exact a13.1) | (rw [if_neg (show ¬ k = 0 by omega), if_neg (show ¬ k = 0 by omega)]; exact a13.1)
      · skip
        refine v_iconst X dX5_take_55 ?_
        refine v_goto X 60 dX5_take_56 (by decide) ?_
        refine pt_X5_state X iwX5 (Std.lt hS rfl) (Std.k hS rfl rfl) (List.mem_cons_of_mem _ bw_3_17) ⟨by decide, by decide⟩ dX5_take_60 ?_
        have a14 := RC_f3 (x := 1) (Or.inl rfl : isT 17) a11.1
        have a14f := frT_trans a11f a14.2
        have a14b := a14.1.1
        try dsimp only at a14b
        refine v_goto X 89 dX5_take_63 (by decide) ?_
        refine hret _ _ _ _ _ _ _ _ _ _ _ none dX5_take_89 ⟨rfl, rfl⟩ (by decide) (by decide) (fun hmok => ?_)
        refine ⟨rfl, rfl, rfl, rfl, rfl, rfl, ?_, a14f⟩
        rw [tkC_0 (show st = 0 by omega)]
        first | (exfalso; omega; done) | skip
        all_goals first | (rw [if_pos (show k = 0 by omega), if_pos (show k = 0 by omega)]; exact a14.1) | (rw [if_neg (show ¬ k = 0 by omega), if_neg (show ¬ k = 0 by omega)]; exact a14.1)
  by_cases u15 : (M 3 3) = 1
  · skip
    refine v_tabIn X 66 dX5_take_4 ⟨by omega, by omega⟩ (by omega) (by omega) (by rw [u15]; rfl) (by decide) ?_
    refine v_aload_n X 0 dX5_take_66 rfl rfl ?_
    refine v_iconst X dX5_take_67 ?_
    refine pt_X5_state X iwX5 (Std.lt hS rfl) (Std.k hS rfl rfl) (List.mem_cons_of_mem _ bw_3_17) ⟨by decide, by decide⟩ dX5_take_68 ?_
    have a16 := RC_f3 (x := 2) (Or.inl rfl : isT 17) a0.1
    have a16f := frT_trans a0f a16.2
    have a16b := a16.1.1
    try dsimp only at a16b
    refine v_goto X 89 dX5_take_71 (by decide) ?_
    refine hret _ _ _ _ _ _ _ _ _ _ _ none dX5_take_89 ⟨rfl, rfl⟩ (by decide) (by decide) (fun hmok => ?_)
    refine ⟨rfl, rfl, rfl, rfl, rfl, rfl, ?_, a16f⟩
    rw [tkC_1 (by omega)]
    exact a16.1
  by_cases u17 : (M 3 3) = 2
  · skip
    refine v_tabIn X 74 dX5_take_4 ⟨by omega, by omega⟩ (by omega) (by omega) (by rw [u17]; rfl) (by decide) ?_
    refine v_aload_n X 0 dX5_take_74 rfl rfl ?_
    refine v_aload_n X 1 dX5_take_75 rfl rfl ?_
    refine v_iload_n X 2 dX5_take_76 rfl rfl ?_
    refine v_callV X [.ref (ad 17), .int (iz k)] hRm (c_X5_takeUnit_17 _ _ _ hS k hk st sd dp wt cz cd rz rk rs rc re hR hl hc hz (by omega) hd) (gV bw_17_13 bw_17_14 bw_17_15 bw_1_18 bw_17_16) rfl ddX5_takeUnit (by decide) (Std.lt hS rfl) (Std.k hS rfl rfl) ⟨rfl, by decide⟩ (Nat.le_of_ble_eq_true rfl) dX5_take_77 (k_eV (fun M19 a18 => ?_))
    refine v_goto X 89 dX5_take_80 (by decide) ?_
    refine hret _ _ _ _ _ _ _ _ _ _ _ none dX5_take_89 ⟨rfl, rfl⟩ (by decide) (by decide) (fun hmok => ?_)
    exact ⟨rfl, rfl, rfl, rfl, rfl, rfl, a18⟩
  refine v_tabOut X 83 dX5_take_4 ⟨by omega, by omega⟩ (by omega) (by decide) ?_
  refine v_aload_n X 0 dX5_take_83 rfl rfl ?_
  refine v_aload_n X 1 dX5_take_84 rfl rfl ?_
  refine v_iload_n X 2 dX5_take_85 rfl rfl ?_
  refine v_callV X [.ref (ad 17), .int (iz k)] hRm (c_X5_takeBehindUnit_17 _ _ _ hS k hk st sd dp wt cz cd rz rk rs rc re hR hl hc hz (by omega) hd) (gV bw_18_2 bw_18_3 bw_18_4 bw_1_18 bw_18_5) rfl ddX5_takeBehindUnit (by decide) (Std.lt hS rfl) (Std.k hS rfl rfl) ⟨rfl, by decide⟩ (Nat.le_of_ble_eq_true rfl) dX5_take_86 (k_eV (fun M21 a20 => ?_))
  refine hret _ _ _ _ _ _ _ _ _ _ _ none dX5_take_89 ⟨rfl, rfl⟩ (by decide) (by decide) (fun hmok => ?_)
  exact ⟨rfl, rfl, rfl, rfl, rfl, rfl, a20⟩

-- start
set_option maxHeartbeats 4000000 in
set_option maxRecDepth 100000 in
theorem c_X5_start_17 (l : Launch) (D : va_G) (cy : Nat → ClassId) {N : Nat} {sh : MS} {ad : Nat → Nat} {M L : MI} {R : MR} (hS : Std N sh R) : Ctr l D cy yX5_start wsX5_start ({ frames := 1, cells := 0, slots := 0, locals := 20 } : Room) N sh ad M L R [.ref (ad 3), .ref (ad 17)] (eV N sh ad L R (fun M' => RC M' 17 (c00 (M 22) (M 18) (M 19) (M 20) (M 21)) ∧ M' 5 1 = 0 ∧ ∀ i : Nat, i ≠ 3 → i ≠ 5 → i ≠ 17 → M' i = M i)) := by
  refine Ctr.ofV (by decide) rfl (Nat.le_of_ble_eq_true rfl) ?_
  intro K hKl hKd hRm hnm X hret
  have X : VX K cX5_start 2 wsX5_start RX5 := X
  show V K 2 0 0 N sh ad M L R [(0, .ref (ad 3)), (1, .ref (ad 17))] [] 0
  refine v_aload_n X 1 dX5_start_0 rfl rfl ?_
  refine v_callV X [] hRm (c_X10_clear_17 _ _ _ hS) (gV bw_12_9 bw_12_10 bw_12_11 bw_2_10 bw_12_12) rfl ddX10_clear (by decide) (Std.lt hS rfl) (Std.k hS rfl rfl) ⟨rfl, by decide⟩ (Nat.le_of_ble_eq_true rfl) dX5_start_1 (k_eV (fun M2 e1 => ?_))
  replace e1 : M2 = (mu (mu M 17 6 0) 17 7 0) := e1
  subst e1
  refine v_aload_n X 0 dX5_start_4 rfl rfl ?_
  refine gt_X5_scanner X iwX5 (Std.lt hS rfl) (Std.k hS rfl rfl) (List.mem_cons_of_mem _ bw_3_15) dX5_start_5 5 (Std.r hS 0 rfl) ?_
  refine v_callV X [] hRm (c_X6_restart _ _ _ hS) (gV bw_12_13 bw_4_2 bw_4_3 bw_3_14 bw_4_4) rfl ddX6_restart (by decide) (Std.lt hS rfl) (Std.k hS rfl rfl) ⟨rfl, by decide⟩ (Nat.le_of_ble_eq_true rfl) dX5_start_8 (k_eV (fun M4 e3 => ?_))
  replace e3 : M4 = (mu (mu (mu (mu (mu (mu M 17 6 0) 17 7 0) 5 1 0) 5 2 26) 5 3 0) 5 4 0) := e3
  subst e3
  refine v_aload_n X 0 dX5_start_11 rfl rfl ?_
  refine v_iconst X dX5_start_12 ?_
  refine pt_X5_waitingSize X iwX5 (Std.lt hS rfl) (Std.k hS rfl rfl) (List.mem_cons_of_mem _ bw_3_16) ⟨by decide, by decide⟩ dX5_start_13 ?_
  refine v_aload_n X 0 dX5_start_16 rfl rfl ?_
  refine v_iconst X dX5_start_17 ?_
  refine pt_X5_state X iwX5 (Std.lt hS rfl) (Std.k hS rfl rfl) (List.mem_cons_of_mem _ bw_3_17) ⟨by decide, by decide⟩ dX5_start_18 ?_
  refine v_aload_n X 0 dX5_start_21 rfl rfl ?_
  refine v_iconst X dX5_start_22 ?_
  refine pt_X5_side X iwX5 (Std.lt hS rfl) (Std.k hS rfl rfl) (List.mem_cons_of_mem _ bw_3_18) ⟨by decide, by decide⟩ dX5_start_23 ?_
  refine v_aload_n X 0 dX5_start_26 rfl rfl ?_
  refine v_iconst X dX5_start_27 ?_
  refine pt_X5_depth X iwX5 (Std.lt hS rfl) (Std.k hS rfl rfl) (List.mem_cons_of_mem _ bw_3_19) ⟨by decide, by decide⟩ dX5_start_28 ?_
  refine hret _ _ _ _ _ _ _ _ _ _ _ none dX5_start_31 ⟨rfl, rfl⟩ (by decide) (by decide) (fun hmok => ?_)
  refine ⟨rfl, rfl, rfl, rfl, rfl, rfl, ⟨⟨rfl, rfl, rfl, rfl, rfl, rfl⟩, trivial, rfl, rfl, rfl, rfl, rfl⟩, rfl, fun i i1 i2 i3 => ?_⟩
  rw [mu_i _ _ _ i1, mu_i _ _ _ i1, mu_i _ _ _ i1, mu_i _ _ _ i1, mu_i _ _ _ i2, mu_i _ _ _ i2, mu_i _ _ _ i2, mu_i _ _ _ i2, mu_i _ _ _ i3, mu_i _ _ _ i3]

-- compile
set_option maxHeartbeats 4000000 in
set_option maxRecDepth 100000 in
theorem c_X5_compile_17 (l : Launch) (D : va_G) (cy : Nat → ClassId) {N : Nat} {sh : MS} {ad : Nat → Nat} {M L : MI} {R : MR} (hS : Std N sh R) (hn : 0 ≤ M 1 1 ∧ M 1 1 ≤ 2000) : Ctr l D cy yX5_compile wsX5_compile ({ frames := 7, cells := 0, slots := 0, locals := 151 } : Room) N sh ad M L R [.ref (ad 3), .ref (ad 17)] (eI N sh ad L R (fun r M' => ∃ j : Nat, (j ≤ 400 ∧ ∀ i : Nat, i < j → gkT (cm (bt (M 2) (M 1 1)) (M 1 1) (c00 (M 22) (M 18) (M 19) (M 20) (M 21)) i) i (kdT (bt (M 2) (M 1 1)) (M 1 1) i)) ∧ vdT (cm (bt (M 2) (M 1 1)) (M 1 1) (c00 (M 22) (M 18) (M 19) (M 20) (M 21)) j) j (kdT (bt (M 2) (M 1 1)) (M 1 1) j) r ∧ M' 5 4 = plT (bt (M 2) (M 1 1)) (M 1 1) j ∧ RC M' 17 (cm (bt (M 2) (M 1 1)) (M 1 1) (c00 (M 22) (M 18) (M 19) (M 20) (M 21)) j) ∧ ∀ i : Nat, i ≠ 3 → i ≠ 4 → i ≠ 5 → ¬ (17 ≤ i ∧ i ≤ 22) → M' i = M i)) := by
  refine Ctr.ofI (by decide) rfl (Nat.le_of_ble_eq_true rfl) ?_
  intro K hKl hKd hRm hnm X hret
  have X : VX K cX5_compile 3 wsX5_compile RX5 := X
  show V K 3 0 0 N sh ad M L R [(0, .ref (ad 3)), (1, .ref (ad 17))] [] 0
  refine v_aload_n X 0 dX5_compile_0 rfl rfl ?_
  refine v_aload_n X 1 dX5_compile_1 rfl rfl ?_
  refine v_callV X [.ref (ad 17)] hRm (c_X5_start_17 _ _ _ hS) (gV bw_12_5 bw_12_6 bw_12_7 bw_1_18 bw_12_8) rfl ddX5_start (by decide) (Std.lt hS rfl) (Std.k hS rfl rfl) ⟨rfl, by decide⟩ (Nat.le_of_ble_eq_true rfl) dX5_compile_2 (k_eV (fun M1 a1 => ?_))
  refine v_iconst X dX5_compile_5 ?_
  refine v_istore_n X [(2, .int (iz 0)), (0, .ref (ad 3)), (1, .ref (ad 17))] dX5_compile_6 rfl (by decide) rfl ?_
  have hl1 : ∀ (n3 : Nat) (Mx : MI) (j : Nat), (RC Mx 17 (cm (bt (M 2) (M 1 1)) (M 1 1) (c00 (M 22) (M 18) (M 19) (M 20) (M 21)) j)) → (Mx 5 1 = psT (bt (M 2) (M 1 1)) (M 1 1) j) → (j ≤ 400) → (∀ i : Nat, i < j → gkT (cm (bt (M 2) (M 1 1)) (M 1 1) (c00 (M 22) (M 18) (M 19) (M 20) (M 21)) i) i (kdT (bt (M 2) (M 1 1)) (M 1 1) i)) → (∀ i : Nat, i ≠ 3 → i ≠ 4 → i ≠ 5 → ¬ (17 ≤ i ∧ i ≤ 22) → Mx i = M i) → 401 - j < n3 → V K 3 0 0 N sh ad Mx L R [(0, .ref (ad 3)), (1, .ref (ad 17)), (2, .int (iz (j : Int)))] [] 7 := by
    intro n3
    induction n3 with
    | zero => intro Mx j hx h5 hj hg hf hn4; exact absurd hn4 (Nat.not_lt_zero _)
    | succ n3 ih2 =>
      intro Mx j hx h5 hj hg hf hn4
      have hb := cm_b (g := bt (M 2) (M 1 1)) (n := M 1 1) (cd := M 22) (rk := M 18) (rs := M 19) (rc := M 20) (re := M 21) j
      have hps := psT_in (f := M 2) hn.1 j
      have e1 := hf 1 (by decide) (by decide) (by decide) (by decide)
      have e2 := hf 2 (by decide) (by decide) (by decide) (by decide)
      refine v_iload_n X 2 dX5_compile_7 rfl rfl ?_
      refine v_sipush X dX5_compile_8 (by decide) ?_
      refine v_icmp_gt X 100 dX5_compile_11 (by decide) ⟨by omega, by omega⟩ ⟨by decide, by decide⟩ (fun q => absurd q (by omega)) (fun u5 => ?_)
      refine v_aload_n X 0 dX5_compile_14 rfl rfl ?_
      refine gt_X5_scanner X iwX5 (Std.lt hS rfl) (Std.k hS rfl rfl) (List.mem_cons_of_mem _ bw_3_15) dX5_compile_15 5 (Std.r hS 0 rfl) ?_
      refine v_callV X [] hRm (c_X6_advance _ _ _ hS (show 0 ≤ Mx 1 1 ∧ Mx 1 1 ≤ 2000 by rw [e1]; exact hn) (show 0 ≤ Mx 5 1 ∧ Mx 5 1 ≤ Mx 1 1 by rw [e1, h5]; exact hps)) (gV bw_12_14 bw_12_15 bw_12_16 bw_3_14 bw_12_17) rfl ddX6_advance (by decide) (Std.lt hS rfl) (Std.k hS rfl rfl) ⟨rfl, by decide⟩ (Nat.le_of_ble_eq_true rfl) dX5_compile_18 (k_eV (fun M2 s0 => ?_))
      rw [e1, e2, h5] at s0
      obtain ⟨s1, s2, s3, s4, s6⟩ := s0
      replace s2 : M2 5 4 = plT (bt (M 2) (M 1 1)) (M 1 1) j := s2
      replace s3 : M2 5 2 = kdT (bt (M 2) (M 1 1)) (M 1 1) j := by rw [s3, s2]; rfl
      replace s4 : M2 5 3 = vlT (bt (M 2) (M 1 1)) (M 1 1) j := by rw [s4, s2]; rfl
      have hx2 := RC_fr (Or.inl rfl : isT 17) hx s1
      have hki := tkK_in (bt (M 2) (M 1 1)) (M 1 1) (plT (bt (M 2) (M 1 1)) (M 1 1) j)
      replace hki : 0 ≤ kdT (bt (M 2) (M 1 1)) (M 1 1) j ∧ kdT (bt (M 2) (M 1 1)) (M 1 1) j ≤ 27 := hki
      have q3 := hx2.i3
      refine v_aload_n X 0 dX5_compile_21 rfl rfl ?_
      refine gt_X5_scanner X iwX5 (Std.lt hS rfl) (Std.k hS rfl rfl) (List.mem_cons_of_mem _ bw_3_15) dX5_compile_22 5 (Std.r hS 0 rfl) ?_
      refine gt_X6_kind X iwX6 (Std.lt hS rfl) (Std.k hS rfl rfl) (List.mem_cons_of_mem _ bw_12_4) dX5_compile_25 (M2 5 2) rfl (fun hr6 => ?_)
      refine v_bipush X dX5_compile_28 (by decide) ?_
      refine v_icmp_ne X 42 dX5_compile_30 (by decide) ⟨by omega, by omega⟩ ⟨by decide, by decide⟩ (fun u7 => ?_) (fun u7 => ?_)
      · skip
        refine v_aload_n X 0 dX5_compile_42 rfl rfl ?_
        refine v_aload_n X 0 dX5_compile_43 rfl rfl ?_
        refine gt_X5_scanner X iwX5 (Std.lt hS rfl) (Std.k hS rfl rfl) (List.mem_cons_of_mem _ bw_3_15) dX5_compile_44 5 (Std.r hS 0 rfl) ?_
        refine gt_X6_kind X iwX6 (Std.lt hS rfl) (Std.k hS rfl rfl) (List.mem_cons_of_mem _ bw_12_4) dX5_compile_47 (M2 5 2) rfl (fun hr8 => ?_)
        refine v_callV X [.int (iz (M2 5 2))] hRm (c_X5_goesOnWith _ _ _ hS (M2 5 2) ⟨by omega, by omega⟩) (gV bw_16_7 bw_16_8 bw_16_9 bw_1_18 bw_16_10) rfl ddX5_goesOnWith (by decide) (Std.lt hS rfl) (Std.k hS rfl rfl) ⟨rfl, by decide⟩ (Nat.le_of_ble_eq_true rfl) dX5_compile_50 (k_pB (fun hgo => ?_) (fun hgo => ?_))
        · skip
          replace hgo : goW (cm (bt (M 2) (M 1 1)) (M 1 1) (c00 (M 22) (M 18) (M 19) (M 20) (M 21)) j).1 (cm (bt (M 2) (M 1 1)) (M 1 1) (c00 (M 22) (M 18) (M 19) (M 20) (M 21)) j).2.1 (cm (bt (M 2) (M 1 1)) (M 1 1) (c00 (M 22) (M 18) (M 19) (M 20) (M 21)) j).2.2.1 (kdT (bt (M 2) (M 1 1)) (M 1 1) j) := by rw [← s3, ← q3.1, ← q3.2.1, ← q3.2.2.1]; exact hgo
          refine v_if_ne X 58 dX5_compile_53 (by decide) ⟨by decide, by decide⟩ (fun _ => ?_) (fun q => absurd (by decide) q)
          refine v_iload_n X 2 dX5_compile_58 rfl rfl ?_
          refine v_sipush X dX5_compile_59 (by decide) ?_
          refine v_icmp_eq X 80 dX5_compile_62 (by decide) ⟨by omega, by omega⟩ ⟨by decide, by decide⟩ (fun u9 => ?_) (fun u9 => ?_)
          · skip
            refine v_iconst X dX5_compile_80 ?_
            refine hret _ _ _ _ _ _ _ _ _ _ _ (some (.int (iz 2))) dX5_compile_81 ⟨rfl, _, rfl⟩ (by decide) (by decide) (fun hmok => ?_)
            refine ⟨rfl, rfl, rfl, rfl, rfl, 2, rfl, ⟨by decide, by decide⟩, j, ⟨hj, hg⟩, Or.inr (Or.inr ⟨rfl, hgo, Or.inl (by omega)⟩), s2, hx2, fun i i1 i2 i3 i4 => (s1 i i3).trans (hf i i1 i2 i3 i4)⟩
          · skip
            refine v_aload_n X 0 dX5_compile_65 rfl rfl ?_
            refine v_aload_n X 1 dX5_compile_66 rfl rfl ?_
            refine v_aload_n X 0 dX5_compile_67 rfl rfl ?_
            refine gt_X5_scanner X iwX5 (Std.lt hS rfl) (Std.k hS rfl rfl) (List.mem_cons_of_mem _ bw_3_15) dX5_compile_68 5 (Std.r hS 0 rfl) ?_
            refine gt_X6_kind X iwX6 (Std.lt hS rfl) (Std.k hS rfl rfl) (List.mem_cons_of_mem _ bw_12_4) dX5_compile_71 (M2 5 2) rfl (fun hr10 => ?_)
            refine v_callV X [.ref (ad 17), .int (iz (M2 5 2))] hRm (c_X5_lacksRoomFor_17 _ _ _ hS (M2 5 2) ⟨by omega, by omega⟩) (gV bw_16_21 bw_16_22 bw_16_23 bw_1_18 bw_17_0) rfl ddX5_lacksRoomFor (by decide) (Std.lt hS rfl) (Std.k hS rfl rfl) ⟨rfl, by decide⟩ (Nat.le_of_ble_eq_true rfl) dX5_compile_74 (k_pB (fun hla => ?_) (fun hla => ?_))
            · skip
              replace hla : (laR (cm (bt (M 2) (M 1 1)) (M 1 1) (c00 (M 22) (M 18) (M 19) (M 20) (M 21)) j).1 (cm (bt (M 2) (M 1 1)) (M 1 1) (c00 (M 22) (M 18) (M 19) (M 20) (M 21)) j).2.2.1 (cm (bt (M 2) (M 1 1)) (M 1 1) (c00 (M 22) (M 18) (M 19) (M 20) (M 21)) j).2.2.2.2.2.2.1 (kdT (bt (M 2) (M 1 1)) (M 1 1) j)) := by rw [← s3, ← q3.1, ← q3.2.2.1, ← q3.2.2.2.2.2]; exact hla
              refine v_if_eq X 82 dX5_compile_77 (by decide) ⟨by decide, by decide⟩ (fun q => absurd q (by decide)) (fun _ => ?_)
              refine v_iconst X dX5_compile_80 ?_
              refine hret _ _ _ _ _ _ _ _ _ _ _ (some (.int (iz 2))) dX5_compile_81 ⟨rfl, _, rfl⟩ (by decide) (by decide) (fun hmok => ?_)
              refine ⟨rfl, rfl, rfl, rfl, rfl, 2, rfl, ⟨by decide, by decide⟩, j, ⟨hj, hg⟩, Or.inr (Or.inr ⟨rfl, hgo, Or.inr hla⟩), s2, hx2, fun i i1 i2 i3 i4 => (s1 i i3).trans (hf i i1 i2 i3 i4)⟩
            · skip
              replace hla : ¬ (laR (cm (bt (M 2) (M 1 1)) (M 1 1) (c00 (M 22) (M 18) (M 19) (M 20) (M 21)) j).1 (cm (bt (M 2) (M 1 1)) (M 1 1) (c00 (M 22) (M 18) (M 19) (M 20) (M 21)) j).2.2.1 (cm (bt (M 2) (M 1 1)) (M 1 1) (c00 (M 22) (M 18) (M 19) (M 20) (M 21)) j).2.2.2.2.2.2.1 (kdT (bt (M 2) (M 1 1)) (M 1 1) j)) := by rw [← s3, ← q3.1, ← q3.2.2.1, ← q3.2.2.2.2.2]; exact hla
              refine v_if_eq X 82 dX5_compile_77 (by decide) ⟨by decide, by decide⟩ (fun _ => ?_) (fun q => absurd (by decide) q)
              refine v_aload_n X 0 dX5_compile_82 rfl rfl ?_
              refine v_aload_n X 1 dX5_compile_83 rfl rfl ?_
              refine v_aload_n X 0 dX5_compile_84 rfl rfl ?_
              refine gt_X5_scanner X iwX5 (Std.lt hS rfl) (Std.k hS rfl rfl) (List.mem_cons_of_mem _ bw_3_15) dX5_compile_85 5 (Std.r hS 0 rfl) ?_
              refine gt_X6_kind X iwX6 (Std.lt hS rfl) (Std.k hS rfl rfl) (List.mem_cons_of_mem _ bw_12_4) dX5_compile_88 (M2 5 2) rfl (fun hr11 => ?_)
              refine v_callV X [.ref (ad 17), .int (iz (M2 5 2))] hRm (c_X5_take_17 _ _ _ hS (M2 5 2) (by omega) (cm (bt (M 2) (M 1 1)) (M 1 1) (c00 (M 22) (M 18) (M 19) (M 20) (M 21)) j).1 (cm (bt (M 2) (M 1 1)) (M 1 1) (c00 (M 22) (M 18) (M 19) (M 20) (M 21)) j).2.1 (cm (bt (M 2) (M 1 1)) (M 1 1) (c00 (M 22) (M 18) (M 19) (M 20) (M 21)) j).2.2.1 (cm (bt (M 2) (M 1 1)) (M 1 1) (c00 (M 22) (M 18) (M 19) (M 20) (M 21)) j).2.2.2.1 (cm (bt (M 2) (M 1 1)) (M 1 1) (c00 (M 22) (M 18) (M 19) (M 20) (M 21)) j).2.2.2.2.1 (cm (bt (M 2) (M 1 1)) (M 1 1) (c00 (M 22) (M 18) (M 19) (M 20) (M 21)) j).2.2.2.2.2.1 (cm (bt (M 2) (M 1 1)) (M 1 1) (c00 (M 22) (M 18) (M 19) (M 20) (M 21)) j).2.2.2.2.2.2.1 (cm (bt (M 2) (M 1 1)) (M 1 1) (c00 (M 22) (M 18) (M 19) (M 20) (M 21)) j).2.2.2.2.2.2.2.1 (cm (bt (M 2) (M 1 1)) (M 1 1) (c00 (M 22) (M 18) (M 19) (M 20) (M 21)) j).2.2.2.2.2.2.2.2.1 (cm (bt (M 2) (M 1 1)) (M 1 1) (c00 (M 22) (M 18) (M 19) (M 20) (M 21)) j).2.2.2.2.2.2.2.2.2.1 (cm (bt (M 2) (M 1 1)) (M 1 1) (c00 (M 22) (M 18) (M 19) (M 20) (M 21)) j).2.2.2.2.2.2.2.2.2.2 hx2 hb.1 hb.2.1 hb.2.2.1 (by omega)) (gV bw_17_5 bw_17_6 bw_17_7 bw_1_18 bw_17_8) rfl ddX5_take (by decide) (Std.lt hS rfl) (Std.k hS rfl rfl) ⟨rfl, by decide⟩ (Nat.le_of_ble_eq_true rfl) dX5_compile_91 (k_eV (fun M3 a3 => ?_))
              rw [s4, s3] at a3
              have hgk : gkT (cm (bt (M 2) (M 1 1)) (M 1 1) (c00 (M 22) (M 18) (M 19) (M 20) (M 21)) j) j (kdT (bt (M 2) (M 1 1)) (M 1 1) j) := ⟨hgo, by omega, hla⟩
              refine v_iinc X 2 [(2, .int (iz ((j : Int) + 1))), (0, .ref (ad 3)), (1, .ref (ad 17))] dX5_compile_94 rfl (by decide) rfl ?_
              refine v_goto X 7 dX5_compile_97 (by decide) ?_
              refine v_lv [1, 2, 0] rfl ?_
              exact ih2 M3 (j + 1) (a3.1) (by rw [a3.2 5 (by decide) (by decide) (by decide)]; exact (s6.trans (by rw [s2]; rfl))) (by omega) (fun i hi => by by_cases c : i = j; (rw [c]; exact hgk); exact hg i (by omega)) (fun i i1 i2 i3 i4 => (a3.2 i i1 i2 i4).trans ((s1 i i3).trans (hf i i1 i2 i3 i4))) (by omega)
        · skip
          replace hgo : ¬ goW (cm (bt (M 2) (M 1 1)) (M 1 1) (c00 (M 22) (M 18) (M 19) (M 20) (M 21)) j).1 (cm (bt (M 2) (M 1 1)) (M 1 1) (c00 (M 22) (M 18) (M 19) (M 20) (M 21)) j).2.1 (cm (bt (M 2) (M 1 1)) (M 1 1) (c00 (M 22) (M 18) (M 19) (M 20) (M 21)) j).2.2.1 (kdT (bt (M 2) (M 1 1)) (M 1 1) j) := by rw [← s3, ← q3.1, ← q3.2.1, ← q3.2.2.1]; exact hgo
          refine v_if_ne X 58 dX5_compile_53 (by decide) ⟨by decide, by decide⟩ (fun q => absurd q (by decide)) (fun _ => ?_)
          refine v_iconst X dX5_compile_56 ?_
          refine hret _ _ _ _ _ _ _ _ _ _ _ (some (.int (iz 1))) dX5_compile_57 ⟨rfl, _, rfl⟩ (by decide) (by decide) (fun hmok => ?_)
          have hgo0 : ¬ (kdT (bt (M 2) (M 1 1)) (M 1 1) j = 26 ∧ (cm (bt (M 2) (M 1 1)) (M 1 1) (c00 (M 22) (M 18) (M 19) (M 20) (M 21)) j).1 = 0) := fun z => by rw [← q3.1, ← s3] at z; omega
          refine ⟨rfl, rfl, rfl, rfl, rfl, 1, rfl, ⟨by decide, by decide⟩, j, ⟨hj, hg⟩, Or.inr (Or.inl ⟨rfl, fun z => hgo0 z, hgo⟩), s2, hx2, fun i i1 i2 i3 i4 => (s1 i i3).trans (hf i i1 i2 i3 i4)⟩
      · skip
        refine v_aload_n X 0 dX5_compile_33 rfl rfl ?_
        refine gt_X5_state X iwX5 (Std.lt hS rfl) (Std.k hS rfl rfl) (List.mem_cons_of_mem _ bw_3_17) dX5_compile_34 (M2 3 3) rfl (fun hr12 => ?_)
        refine v_if_ne X 42 dX5_compile_37 (by decide) ⟨by omega, by omega⟩ (fun u13 => ?_) (fun u13 => ?_)
        · skip
          refine v_aload_n X 0 dX5_compile_42 rfl rfl ?_
          refine v_aload_n X 0 dX5_compile_43 rfl rfl ?_
          refine gt_X5_scanner X iwX5 (Std.lt hS rfl) (Std.k hS rfl rfl) (List.mem_cons_of_mem _ bw_3_15) dX5_compile_44 5 (Std.r hS 0 rfl) ?_
          refine gt_X6_kind X iwX6 (Std.lt hS rfl) (Std.k hS rfl rfl) (List.mem_cons_of_mem _ bw_12_4) dX5_compile_47 (M2 5 2) rfl (fun hr14 => ?_)
          refine v_callV X [.int (iz (M2 5 2))] hRm (c_X5_goesOnWith _ _ _ hS (M2 5 2) ⟨by omega, by omega⟩) (gV bw_16_7 bw_16_8 bw_16_9 bw_1_18 bw_16_10) rfl ddX5_goesOnWith (by decide) (Std.lt hS rfl) (Std.k hS rfl rfl) ⟨rfl, by decide⟩ (Nat.le_of_ble_eq_true rfl) dX5_compile_50 (k_pB (fun hgo => ?_) (fun hgo => ?_))
          · skip
            replace hgo : goW (cm (bt (M 2) (M 1 1)) (M 1 1) (c00 (M 22) (M 18) (M 19) (M 20) (M 21)) j).1 (cm (bt (M 2) (M 1 1)) (M 1 1) (c00 (M 22) (M 18) (M 19) (M 20) (M 21)) j).2.1 (cm (bt (M 2) (M 1 1)) (M 1 1) (c00 (M 22) (M 18) (M 19) (M 20) (M 21)) j).2.2.1 (kdT (bt (M 2) (M 1 1)) (M 1 1) j) := by rw [← s3, ← q3.1, ← q3.2.1, ← q3.2.2.1]; exact hgo
            refine v_if_ne X 58 dX5_compile_53 (by decide) ⟨by decide, by decide⟩ (fun _ => ?_) (fun q => absurd (by decide) q)
            refine v_iload_n X 2 dX5_compile_58 rfl rfl ?_
            refine v_sipush X dX5_compile_59 (by decide) ?_
            refine v_icmp_eq X 80 dX5_compile_62 (by decide) ⟨by omega, by omega⟩ ⟨by decide, by decide⟩ (fun u15 => ?_) (fun u15 => ?_)
            · skip
              refine v_iconst X dX5_compile_80 ?_
              refine hret _ _ _ _ _ _ _ _ _ _ _ (some (.int (iz 2))) dX5_compile_81 ⟨rfl, _, rfl⟩ (by decide) (by decide) (fun hmok => ?_)
              refine ⟨rfl, rfl, rfl, rfl, rfl, 2, rfl, ⟨by decide, by decide⟩, j, ⟨hj, hg⟩, Or.inr (Or.inr ⟨rfl, hgo, Or.inl (by omega)⟩), s2, hx2, fun i i1 i2 i3 i4 => (s1 i i3).trans (hf i i1 i2 i3 i4)⟩
            · skip
              refine v_aload_n X 0 dX5_compile_65 rfl rfl ?_
              refine v_aload_n X 1 dX5_compile_66 rfl rfl ?_
              refine v_aload_n X 0 dX5_compile_67 rfl rfl ?_
              refine gt_X5_scanner X iwX5 (Std.lt hS rfl) (Std.k hS rfl rfl) (List.mem_cons_of_mem _ bw_3_15) dX5_compile_68 5 (Std.r hS 0 rfl) ?_
              refine gt_X6_kind X iwX6 (Std.lt hS rfl) (Std.k hS rfl rfl) (List.mem_cons_of_mem _ bw_12_4) dX5_compile_71 (M2 5 2) rfl (fun hr16 => ?_)
              refine v_callV X [.ref (ad 17), .int (iz (M2 5 2))] hRm (c_X5_lacksRoomFor_17 _ _ _ hS (M2 5 2) ⟨by omega, by omega⟩) (gV bw_16_21 bw_16_22 bw_16_23 bw_1_18 bw_17_0) rfl ddX5_lacksRoomFor (by decide) (Std.lt hS rfl) (Std.k hS rfl rfl) ⟨rfl, by decide⟩ (Nat.le_of_ble_eq_true rfl) dX5_compile_74 (k_pB (fun hla => ?_) (fun hla => ?_))
              · skip
                replace hla : (laR (cm (bt (M 2) (M 1 1)) (M 1 1) (c00 (M 22) (M 18) (M 19) (M 20) (M 21)) j).1 (cm (bt (M 2) (M 1 1)) (M 1 1) (c00 (M 22) (M 18) (M 19) (M 20) (M 21)) j).2.2.1 (cm (bt (M 2) (M 1 1)) (M 1 1) (c00 (M 22) (M 18) (M 19) (M 20) (M 21)) j).2.2.2.2.2.2.1 (kdT (bt (M 2) (M 1 1)) (M 1 1) j)) := by rw [← s3, ← q3.1, ← q3.2.2.1, ← q3.2.2.2.2.2]; exact hla
                refine v_if_eq X 82 dX5_compile_77 (by decide) ⟨by decide, by decide⟩ (fun q => absurd q (by decide)) (fun _ => ?_)
                refine v_iconst X dX5_compile_80 ?_
                refine hret _ _ _ _ _ _ _ _ _ _ _ (some (.int (iz 2))) dX5_compile_81 ⟨rfl, _, rfl⟩ (by decide) (by decide) (fun hmok => ?_)
                refine ⟨rfl, rfl, rfl, rfl, rfl, 2, rfl, ⟨by decide, by decide⟩, j, ⟨hj, hg⟩, Or.inr (Or.inr ⟨rfl, hgo, Or.inr hla⟩), s2, hx2, fun i i1 i2 i3 i4 => (s1 i i3).trans (hf i i1 i2 i3 i4)⟩
              · skip
                replace hla : ¬ (laR (cm (bt (M 2) (M 1 1)) (M 1 1) (c00 (M 22) (M 18) (M 19) (M 20) (M 21)) j).1 (cm (bt (M 2) (M 1 1)) (M 1 1) (c00 (M 22) (M 18) (M 19) (M 20) (M 21)) j).2.2.1 (cm (bt (M 2) (M 1 1)) (M 1 1) (c00 (M 22) (M 18) (M 19) (M 20) (M 21)) j).2.2.2.2.2.2.1 (kdT (bt (M 2) (M 1 1)) (M 1 1) j)) := by rw [← s3, ← q3.1, ← q3.2.2.1, ← q3.2.2.2.2.2]; exact hla
                refine v_if_eq X 82 dX5_compile_77 (by decide) ⟨by decide, by decide⟩ (fun _ => ?_) (fun q => absurd (by decide) q)
                refine v_aload_n X 0 dX5_compile_82 rfl rfl ?_
                refine v_aload_n X 1 dX5_compile_83 rfl rfl ?_
                refine v_aload_n X 0 dX5_compile_84 rfl rfl ?_
                refine gt_X5_scanner X iwX5 (Std.lt hS rfl) (Std.k hS rfl rfl) (List.mem_cons_of_mem _ bw_3_15) dX5_compile_85 5 (Std.r hS 0 rfl) ?_
                refine gt_X6_kind X iwX6 (Std.lt hS rfl) (Std.k hS rfl rfl) (List.mem_cons_of_mem _ bw_12_4) dX5_compile_88 (M2 5 2) rfl (fun hr17 => ?_)
                refine v_callV X [.ref (ad 17), .int (iz (M2 5 2))] hRm (c_X5_take_17 _ _ _ hS (M2 5 2) (by omega) (cm (bt (M 2) (M 1 1)) (M 1 1) (c00 (M 22) (M 18) (M 19) (M 20) (M 21)) j).1 (cm (bt (M 2) (M 1 1)) (M 1 1) (c00 (M 22) (M 18) (M 19) (M 20) (M 21)) j).2.1 (cm (bt (M 2) (M 1 1)) (M 1 1) (c00 (M 22) (M 18) (M 19) (M 20) (M 21)) j).2.2.1 (cm (bt (M 2) (M 1 1)) (M 1 1) (c00 (M 22) (M 18) (M 19) (M 20) (M 21)) j).2.2.2.1 (cm (bt (M 2) (M 1 1)) (M 1 1) (c00 (M 22) (M 18) (M 19) (M 20) (M 21)) j).2.2.2.2.1 (cm (bt (M 2) (M 1 1)) (M 1 1) (c00 (M 22) (M 18) (M 19) (M 20) (M 21)) j).2.2.2.2.2.1 (cm (bt (M 2) (M 1 1)) (M 1 1) (c00 (M 22) (M 18) (M 19) (M 20) (M 21)) j).2.2.2.2.2.2.1 (cm (bt (M 2) (M 1 1)) (M 1 1) (c00 (M 22) (M 18) (M 19) (M 20) (M 21)) j).2.2.2.2.2.2.2.1 (cm (bt (M 2) (M 1 1)) (M 1 1) (c00 (M 22) (M 18) (M 19) (M 20) (M 21)) j).2.2.2.2.2.2.2.2.1 (cm (bt (M 2) (M 1 1)) (M 1 1) (c00 (M 22) (M 18) (M 19) (M 20) (M 21)) j).2.2.2.2.2.2.2.2.2.1 (cm (bt (M 2) (M 1 1)) (M 1 1) (c00 (M 22) (M 18) (M 19) (M 20) (M 21)) j).2.2.2.2.2.2.2.2.2.2 hx2 hb.1 hb.2.1 hb.2.2.1 (by omega)) (gV bw_17_5 bw_17_6 bw_17_7 bw_1_18 bw_17_8) rfl ddX5_take (by decide) (Std.lt hS rfl) (Std.k hS rfl rfl) ⟨rfl, by decide⟩ (Nat.le_of_ble_eq_true rfl) dX5_compile_91 (k_eV (fun M3 a3 => ?_))
                rw [s4, s3] at a3
                have hgk : gkT (cm (bt (M 2) (M 1 1)) (M 1 1) (c00 (M 22) (M 18) (M 19) (M 20) (M 21)) j) j (kdT (bt (M 2) (M 1 1)) (M 1 1) j) := ⟨hgo, by omega, hla⟩
                refine v_iinc X 2 [(2, .int (iz ((j : Int) + 1))), (0, .ref (ad 3)), (1, .ref (ad 17))] dX5_compile_94 rfl (by decide) rfl ?_
                refine v_goto X 7 dX5_compile_97 (by decide) ?_
                refine v_lv [1, 2, 0] rfl ?_
                exact ih2 M3 (j + 1) (a3.1) (by rw [a3.2 5 (by decide) (by decide) (by decide)]; exact (s6.trans (by rw [s2]; rfl))) (by omega) (fun i hi => by by_cases c : i = j; (rw [c]; exact hgk); exact hg i (by omega)) (fun i i1 i2 i3 i4 => (a3.2 i i1 i2 i4).trans ((s1 i i3).trans (hf i i1 i2 i3 i4))) (by omega)
          · skip
            replace hgo : ¬ goW (cm (bt (M 2) (M 1 1)) (M 1 1) (c00 (M 22) (M 18) (M 19) (M 20) (M 21)) j).1 (cm (bt (M 2) (M 1 1)) (M 1 1) (c00 (M 22) (M 18) (M 19) (M 20) (M 21)) j).2.1 (cm (bt (M 2) (M 1 1)) (M 1 1) (c00 (M 22) (M 18) (M 19) (M 20) (M 21)) j).2.2.1 (kdT (bt (M 2) (M 1 1)) (M 1 1) j) := by rw [← s3, ← q3.1, ← q3.2.1, ← q3.2.2.1]; exact hgo
            refine v_if_ne X 58 dX5_compile_53 (by decide) ⟨by decide, by decide⟩ (fun q => absurd q (by decide)) (fun _ => ?_)
            refine v_iconst X dX5_compile_56 ?_
            refine hret _ _ _ _ _ _ _ _ _ _ _ (some (.int (iz 1))) dX5_compile_57 ⟨rfl, _, rfl⟩ (by decide) (by decide) (fun hmok => ?_)
            have hgo0 : ¬ (kdT (bt (M 2) (M 1 1)) (M 1 1) j = 26 ∧ (cm (bt (M 2) (M 1 1)) (M 1 1) (c00 (M 22) (M 18) (M 19) (M 20) (M 21)) j).1 = 0) := fun z => by rw [← q3.1, ← s3] at z; omega
            refine ⟨rfl, rfl, rfl, rfl, rfl, 1, rfl, ⟨by decide, by decide⟩, j, ⟨hj, hg⟩, Or.inr (Or.inl ⟨rfl, fun z => hgo0 z, hgo⟩), s2, hx2, fun i i1 i2 i3 i4 => (s1 i i3).trans (hf i i1 i2 i3 i4)⟩
        · skip
          refine v_iconst X dX5_compile_40 ?_
          refine hret _ _ _ _ _ _ _ _ _ _ _ (some (.int (iz 0))) dX5_compile_41 ⟨rfl, _, rfl⟩ (by decide) (by decide) (fun hmok => ?_)
          refine ⟨rfl, rfl, rfl, rfl, rfl, 0, rfl, ⟨by decide, by decide⟩, j, ⟨hj, hg⟩, Or.inl ⟨rfl, by omega, by rw [← q3.1]; omega⟩, s2, hx2, fun i i1 i2 i3 i4 => (s1 i i3).trans (hf i i1 i2 i3 i4)⟩
  refine v_lv [1, 2, 0] rfl ?_
  exact hl1 _ M1 0 (a1.1) (a1.2.1) (Nat.zero_le _) (fun i hi => absurd hi (Nat.not_lt_zero i)) (fun i i1 i2 i3 i4 => a1.2.2 i i1 i3 (by omega)) (Nat.lt_succ_self _)

-- lacksRoomFor
set_option maxHeartbeats 4000000 in
set_option maxRecDepth 100000 in
theorem c_X5_lacksRoomFor_24 (l : Launch) (D : va_G) (cy : Nat → ClassId) {N : Nat} {sh : MS} {ad : Nat → Nat} {M L : MI} {R : MR} (hS : Std N sh R) (k : Int) (hk : inR k) : Ctr l D cy yX5_lacksRoomFor wsX5_lacksRoomFor ({ frames := 1, cells := 0, slots := 0, locals := 20 } : Room) N sh ad M L R [.ref (ad 3), .ref (ad 24), .int (iz k)] (pB N sh ad M L R (laR (M 3 3) (M 3 5) (M 24 7) k)) := by
  refine Ctr.ofZ (by decide) rfl (Nat.le_of_ble_eq_true rfl) ?_
  intro K hKl hKd hRm hnm X hret
  have X : VX K cX5_lacksRoomFor 4 wsX5_lacksRoomFor RX5 := X
  show V K 4 0 0 N sh ad M L R [(0, .ref (ad 3)), (1, .ref (ad 24)), (2, .int (iz k))] [] 0
  refine v_aload_n X 0 dX5_lacksRoomFor_0 rfl rfl ?_
  refine gt_X5_state X iwX5 (Std.lt hS rfl) (Std.k hS rfl rfl) (List.mem_cons_of_mem _ bw_3_17) dX5_lacksRoomFor_1 (M 3 3) rfl (fun hr1 => ?_)
  refine v_if_ne X 18 dX5_lacksRoomFor_4 (by decide) ⟨by omega, by omega⟩ (fun u2 => ?_) (fun u2 => ?_)
  · skip
    refine v_iconst X dX5_lacksRoomFor_18 ?_
    refine v_istore_n X [(3, .int (iz 0)), (0, .ref (ad 3)), (1, .ref (ad 24)), (2, .int (iz k))] dX5_lacksRoomFor_19 rfl (by decide) rfl ?_
    refine v_iload_n X 0 dX5_lacksRoomFor_20 rfl rfl ?_
    refine v_if_ne X 39 dX5_lacksRoomFor_21 (by decide) ⟨by decide, by decide⟩ (fun q => absurd q (by decide)) (fun _ => ?_)
    refine v_iload_n X 3 dX5_lacksRoomFor_24 rfl rfl ?_
    refine v_bipush X dX5_lacksRoomFor_25 (by decide) ?_
    refine v_icmp_ne X 43 dX5_lacksRoomFor_27 (by decide) ⟨by omega, by omega⟩ ⟨by decide, by decide⟩ (fun u3 => ?_) (fun u3 => ?_)
    · skip
      refine v_iconst X dX5_lacksRoomFor_43 ?_
      refine hret _ _ _ _ _ _ _ _ _ _ _ (some (.int (iz 0))) dX5_lacksRoomFor_44 ⟨rfl, 0, ⟨by omega, by omega⟩, rfl⟩ (by decide) (by decide) (fun hmok => ?_)
      refine ⟨rfl, rfl, rfl, rfl, rfl, rfl, 0, rfl, Or.inr ⟨rfl, ?_⟩⟩
      first | omega | (unfold laR; omega)
    · skip
      refine v_aload_n X 1 dX5_lacksRoomFor_30 rfl rfl ?_
      refine gt_X5_depth X iwX5 (Std.lt hS rfl) (Std.k hS rfl rfl) (List.mem_cons_of_mem _ bw_3_19) dX5_lacksRoomFor_31 (M 3 5) rfl (fun hr4 => ?_)
      refine v_bipush X dX5_lacksRoomFor_34 (by decide) ?_
      refine v_icmp_lt X 43 dX5_lacksRoomFor_36 (by decide) ⟨by omega, by omega⟩ ⟨by decide, by decide⟩ (fun u5 => ?_) (fun u5 => ?_)
      · skip
        refine v_iconst X dX5_lacksRoomFor_43 ?_
        refine hret _ _ _ _ _ _ _ _ _ _ _ (some (.int (iz 0))) dX5_lacksRoomFor_44 ⟨rfl, 0, ⟨by omega, by omega⟩, rfl⟩ (by decide) (by decide) (fun hmok => ?_)
        refine ⟨rfl, rfl, rfl, rfl, rfl, rfl, 0, rfl, Or.inr ⟨rfl, ?_⟩⟩
        first | omega | (unfold laR; omega)
      · skip
        refine v_iconst X dX5_lacksRoomFor_39 ?_
        refine v_goto X 44 dX5_lacksRoomFor_40 (by decide) ?_
        refine hret _ _ _ _ _ _ _ _ _ _ _ (some (.int (iz 1))) dX5_lacksRoomFor_44 ⟨rfl, 1, ⟨by omega, by omega⟩, rfl⟩ (by decide) (by decide) (fun hmok => ?_)
        refine ⟨rfl, rfl, rfl, rfl, rfl, rfl, 1, rfl, Or.inl ⟨rfl, ?_⟩⟩
        first | omega | (unfold laR; omega)
  · skip
    refine v_aload_n X 1 dX5_lacksRoomFor_7 rfl rfl ?_
    refine v_callV X [] hRm (c_X10_isFull_24 _ _ _ hS) (gV bw_17_1 bw_17_2 bw_17_3 bw_2_10 bw_17_4) rfl ddX10_isFull (by decide) (Std.lt hS rfl) (Std.k hS rfl rfl) ⟨rfl, by decide⟩ (Nat.le_of_ble_eq_true rfl) dX5_lacksRoomFor_8 (k_pB (fun b6 => ?_) (fun b6 => ?_))
    · skip
      refine v_if_eq X 18 dX5_lacksRoomFor_11 (by decide) ⟨by decide, by decide⟩ (fun q => absurd q (by decide)) (fun _ => ?_)
      refine v_iconst X dX5_lacksRoomFor_14 ?_
      refine v_goto X 19 dX5_lacksRoomFor_15 (by decide) ?_
      refine v_istore_n X [(3, .int (iz 1)), (0, .ref (ad 3)), (1, .ref (ad 24)), (2, .int (iz k))] dX5_lacksRoomFor_19 rfl (by decide) rfl ?_
      refine v_iload_n X 0 dX5_lacksRoomFor_20 rfl rfl ?_
      refine v_if_ne X 39 dX5_lacksRoomFor_21 (by decide) ⟨by decide, by decide⟩ (fun _ => ?_) (fun q => absurd (by decide) q)
      refine v_iconst X dX5_lacksRoomFor_39 ?_
      refine v_goto X 44 dX5_lacksRoomFor_40 (by decide) ?_
      refine hret _ _ _ _ _ _ _ _ _ _ _ (some (.int (iz 1))) dX5_lacksRoomFor_44 ⟨rfl, 1, ⟨by omega, by omega⟩, rfl⟩ (by decide) (by decide) (fun hmok => ?_)
      refine ⟨rfl, rfl, rfl, rfl, rfl, rfl, 1, rfl, Or.inl ⟨rfl, ?_⟩⟩
      first | omega | (unfold laR; omega)
    · skip
      refine v_if_eq X 18 dX5_lacksRoomFor_11 (by decide) ⟨by decide, by decide⟩ (fun _ => ?_) (fun q => absurd (by decide) q)
      refine v_iconst X dX5_lacksRoomFor_18 ?_
      refine v_istore_n X [(3, .int (iz 0)), (0, .ref (ad 3)), (1, .ref (ad 24)), (2, .int (iz k))] dX5_lacksRoomFor_19 rfl (by decide) rfl ?_
      refine v_iload_n X 0 dX5_lacksRoomFor_20 rfl rfl ?_
      refine v_if_ne X 39 dX5_lacksRoomFor_21 (by decide) ⟨by decide, by decide⟩ (fun q => absurd q (by decide)) (fun _ => ?_)
      refine v_iload_n X 3 dX5_lacksRoomFor_24 rfl rfl ?_
      refine v_bipush X dX5_lacksRoomFor_25 (by decide) ?_
      refine v_icmp_ne X 43 dX5_lacksRoomFor_27 (by decide) ⟨by omega, by omega⟩ ⟨by decide, by decide⟩ (fun u7 => ?_) (fun u7 => ?_)
      · skip
        refine v_iconst X dX5_lacksRoomFor_43 ?_
        refine hret _ _ _ _ _ _ _ _ _ _ _ (some (.int (iz 0))) dX5_lacksRoomFor_44 ⟨rfl, 0, ⟨by omega, by omega⟩, rfl⟩ (by decide) (by decide) (fun hmok => ?_)
        refine ⟨rfl, rfl, rfl, rfl, rfl, rfl, 0, rfl, Or.inr ⟨rfl, ?_⟩⟩
        first | omega | (unfold laR; omega)
      · skip
        refine v_aload_n X 1 dX5_lacksRoomFor_30 rfl rfl ?_
        refine gt_X5_depth X iwX5 (Std.lt hS rfl) (Std.k hS rfl rfl) (List.mem_cons_of_mem _ bw_3_19) dX5_lacksRoomFor_31 (M 3 5) rfl (fun hr8 => ?_)
        refine v_bipush X dX5_lacksRoomFor_34 (by decide) ?_
        refine v_icmp_lt X 43 dX5_lacksRoomFor_36 (by decide) ⟨by omega, by omega⟩ ⟨by decide, by decide⟩ (fun u9 => ?_) (fun u9 => ?_)
        · skip
          refine v_iconst X dX5_lacksRoomFor_43 ?_
          refine hret _ _ _ _ _ _ _ _ _ _ _ (some (.int (iz 0))) dX5_lacksRoomFor_44 ⟨rfl, 0, ⟨by omega, by omega⟩, rfl⟩ (by decide) (by decide) (fun hmok => ?_)
          refine ⟨rfl, rfl, rfl, rfl, rfl, rfl, 0, rfl, Or.inr ⟨rfl, ?_⟩⟩
          first | omega | (unfold laR; omega)
        · skip
          refine v_iconst X dX5_lacksRoomFor_39 ?_
          refine v_goto X 44 dX5_lacksRoomFor_40 (by decide) ?_
          refine hret _ _ _ _ _ _ _ _ _ _ _ (some (.int (iz 1))) dX5_lacksRoomFor_44 ⟨rfl, 1, ⟨by omega, by omega⟩, rfl⟩ (by decide) (by decide) (fun hmok => ?_)
          refine ⟨rfl, rfl, rfl, rfl, rfl, rfl, 1, rfl, Or.inl ⟨rfl, ?_⟩⟩
          first | omega | (unfold laR; omega)

-- release
set_option maxHeartbeats 4000000 in
set_option maxRecDepth 100000 in
theorem c_X5_release_24 (l : Launch) (D : va_G) (cy : Nat → ClassId) {N : Nat} {sh : MS} {ad : Nat → Nat} {M L : MI} {R : MR} (hS : Std N sh R) (r : Int) (hr : inR r) (st sd dp : Int) (wt : List Int) (cz : Int) (cd : Int → Int) (rz : Int) (rk rs rc re : Int → Int) (hR : RC M 24 (st, sd, dp, wt, cz, cd, rz, rk, rs, rc, re)) (hl : wt.length ≤ 24) (hc : 0 ≤ cz ∧ cz ≤ 400) (hz : 0 ≤ rz ∧ rz ≤ 16) : Ctr l D cy yX5_release wsX5_release ({ frames := 2, cells := 0, slots := 0, locals := 40 } : Room) N sh ad M L R [.ref (ad 3), .ref (ad 24), .int (iz r)] (eV N sh ad L R (fun M' => RC M' 24 (st, sd, dp, rlW r wt, rlZ r wt cz, rlD r wt cz cd, rz, rk, rs, rc, re) ∧ frT 24 M M')) := by
  refine Ctr.ofV (by decide) rfl (Nat.le_of_ble_eq_true rfl) ?_
  intro K hKl hKd hRm hnm X hret
  have X : VX K cX5_release 3 wsX5_release RX5 := X
  show V K 3 0 0 N sh ad M L R [(0, .ref (ad 3)), (1, .ref (ad 24)), (2, .int (iz r))] [] 0
  have hl1 : ∀ (n3 : Nat) (Mx : MI) (w2 : List Int) (z2 : Int) (d2 : Int → Int), (RC Mx 24 (st, sd, dp, w2, z2, d2, rz, rk, rs, rc, re)) → (frT 24 M Mx) → (rlW r w2 = rlW r wt) → (rlZ r w2 z2 = rlZ r wt cz) → (rlD r w2 z2 d2 = rlD r wt cz cd) → (w2.length ≤ 24) → (0 ≤ z2 ∧ z2 ≤ 400) → w2.length < n3 → V K 3 0 0 N sh ad Mx L R [(0, .ref (ad 3)), (1, .ref (ad 24)), (2, .int (iz r))] [] 0 := by
    intro n3
    induction n3 with
    | zero => intro Mx w2 z2 d2 hx hf hW hZ hD hl2 hz2 hn4; exact absurd hn4 (Nat.not_lt_zero _)
    | succ n3 ih2 =>
      intro Mx w2 z2 d2 hx hf hW hZ hD hl2 hz2 hn4
      have g1 := hx.1.2.2.2.1
      have g2 := hx.1.2.2.2.2.1
      try dsimp only at g1 g2
      refine v_aload_n X 0 dX5_release_0 rfl rfl ?_
      refine gt_X5_waitingSize X iwX5 (Std.lt hS rfl) (Std.k hS rfl rfl) (List.mem_cons_of_mem _ bw_3_16) dX5_release_1 (Mx 3 2) rfl (fun hr5 => ?_)
      refine v_if_le X 68 dX5_release_4 (by decide) ⟨by omega, by omega⟩ (fun u6 => ?_) (fun u6 => ?_)
      · skip
        refine hret _ _ _ _ _ _ _ _ _ _ _ none dX5_release_68 ⟨rfl, rfl⟩ (by decide) (by decide) (fun hmok => ?_)
        have s9 := rl_stops (r := r) (z := z2) (d := d2) (w := w2) (Or.inl (List.eq_nil_of_length_eq_zero (by omega)))
        refine ⟨rfl, rfl, rfl, rfl, rfl, rfl, ?_, hf⟩
        rw [← hW, ← hZ, ← hD, s9.1, s9.2.1, s9.2.2]
        exact hx
      · skip
        obtain ⟨y, w3, hw3, hw4⟩ := li_cons (w := w2) (by omega)
        have g3 : Mx 4 (Mx 3 2 - 1) = y := by have q := hx.2.1; (try dsimp only at q); rw [hw3] at q; rw [g1, hw4, show (w3.length : Int) + 1 - 1 = (w3.length : Int) by omega]; exact q.1
        rw [hw3] at hx
        refine v_aload_n X 0 dX5_release_7 rfl rfl ?_
        refine gt_X5_waiting X iwX5 (Std.lt hS rfl) (Std.k hS rfl rfl) (List.mem_cons_of_mem _ bw_3_11) dX5_release_8 4 (Std.r hS 1 rfl) ?_
        refine v_aload_n X 0 dX5_release_11 rfl rfl ?_
        refine gt_X5_waitingSize X iwX5 (Std.lt hS rfl) (Std.k hS rfl rfl) (List.mem_cons_of_mem _ bw_3_16) dX5_release_12 (Mx 3 2) rfl (fun hr7 => ?_)
        refine v_iconst X dX5_release_15 ?_
        refine v_isub X dX5_release_16 ?_
        refine v_iald X (Mx 4 ((Mx 3 2) - 1)) (Std.lt hS rfl) (Std.at hS rfl rfl) (by omega) (by omega) dX5_release_17 rfl (fun hr8 => ?_)
        refine v_bipush X dX5_release_18 (by decide) ?_
        refine v_icmp_eq X 68 dX5_release_20 (by decide) ⟨by omega, by omega⟩ ⟨by decide, by decide⟩ (fun u9 => ?_) (fun u9 => ?_)
        · skip
          refine hret _ _ _ _ _ _ _ _ _ _ _ none dX5_release_68 ⟨rfl, rfl⟩ (by decide) (by decide) (fun hmok => ?_)
          have s9 := rl_stops (r := r) (z := z2) (d := d2) (w := w2) (Or.inr ⟨y, w3, hw3, fun z => z.1 (by omega)⟩)
          refine ⟨rfl, rfl, rfl, rfl, rfl, rfl, ?_, hf⟩
          rw [← hW, ← hZ, ← hD, s9.1, s9.2.1, s9.2.2]
          rw [hw3]
          exact hx
        · skip
          refine v_aload_n X 0 dX5_release_23 rfl rfl ?_
          refine gt_X5_waiting X iwX5 (Std.lt hS rfl) (Std.k hS rfl rfl) (List.mem_cons_of_mem _ bw_3_11) dX5_release_24 4 (Std.r hS 1 rfl) ?_
          refine v_aload_n X 0 dX5_release_27 rfl rfl ?_
          refine gt_X5_waitingSize X iwX5 (Std.lt hS rfl) (Std.k hS rfl rfl) (List.mem_cons_of_mem _ bw_3_16) dX5_release_28 (Mx 3 2) rfl (fun hr10 => ?_)
          refine v_iconst X dX5_release_31 ?_
          refine v_isub X dX5_release_32 ?_
          refine v_iald X (Mx 4 ((Mx 3 2) - 1)) (Std.lt hS rfl) (Std.at hS rfl rfl) (by omega) (by omega) dX5_release_33 rfl (fun hr11 => ?_)
          refine v_callS X [.int (iz (Mx 4 ((Mx 3 2) - 1)))] hRm (c_X5_rankOf _ _ _ (Mx 4 ((Mx 3 2) - 1)) ⟨by omega, by omega⟩) (gS bw_18_10 bw_18_11 bw_1_18 bw_18_12) rfl ddX5_rankOf (by decide) (Nat.le_of_ble_eq_true rfl) dX5_release_34 (k_pI (fun r12 hr13 hrk => ?_))
          rw [g3] at hrk
          refine v_iload_n X 2 dX5_release_37 rfl rfl ?_
          refine v_icmp_lt X 68 dX5_release_38 (by decide) ⟨by omega, by omega⟩ ⟨by omega, by omega⟩ (fun u14 => ?_) (fun u14 => ?_)
          · skip
            refine hret _ _ _ _ _ _ _ _ _ _ _ none dX5_release_68 ⟨rfl, rfl⟩ (by decide) (by decide) (fun hmok => ?_)
            have s9 := rl_stops (r := r) (z := z2) (d := d2) (w := w2) (Or.inr ⟨y, w3, hw3, fun z => by have := z.2; omega⟩)
            refine ⟨rfl, rfl, rfl, rfl, rfl, rfl, ?_, hf⟩
            rw [← hW, ← hZ, ← hD, s9.1, s9.2.1, s9.2.2]
            rw [hw3]
            exact hx
          · skip
            refine v_aload_n X 0 dX5_release_41 rfl rfl ?_
            refine v_dup X dX5_release_42 rfl ?_
            refine gt_X5_waitingSize X iwX5 (Std.lt hS rfl) (Std.k hS rfl rfl) (List.mem_cons_of_mem _ bw_3_16) dX5_release_43 (Mx 3 2) rfl (fun hr15 => ?_)
            refine v_iconst X dX5_release_46 ?_
            refine v_isub X dX5_release_47 ?_
            refine pt_X5_waitingSize X iwX5 (Std.lt hS rfl) (Std.k hS rfl rfl) (List.mem_cons_of_mem _ bw_3_16) ⟨by omega, by omega⟩ dX5_release_48 ?_
            refine v_aload_n X 1 dX5_release_51 rfl rfl ?_
            refine v_aload_n X 0 dX5_release_52 rfl rfl ?_
            refine gt_X5_waiting X iwX5 (Std.lt hS rfl) (Std.k hS rfl rfl) (List.mem_cons_of_mem _ bw_3_11) dX5_release_53 4 (Std.r hS 1 rfl) ?_
            refine v_aload_n X 0 dX5_release_56 rfl rfl ?_
            refine gt_X5_waitingSize X iwX5 (Std.lt hS rfl) (Std.k hS rfl rfl) (List.mem_cons_of_mem _ bw_3_16) dX5_release_57 ((Mx 3 2) - 1) rfl (fun hr16 => ?_)
            refine v_iald X (Mx 4 ((Mx 3 2) - 1)) (Std.lt hS rfl) (Std.at hS rfl rfl) (by omega) (by omega) dX5_release_60 rfl (fun hr17 => ?_)
            refine v_iconst X dX5_release_61 ?_
            refine v_callV X [.int (iz (Mx 4 ((Mx 3 2) - 1))), .int (iz 0)] hRm (c_X10_emit_24 _ _ _ hS (Mx 4 ((Mx 3 2) - 1)) 0 ⟨by omega, by omega⟩ ⟨by decide, by decide⟩ (show 0 ≤ Mx 24 6 ∧ Mx 24 6 ≤ 400 by omega)) (gV bw_17_22 bw_17_23 bw_18_0 bw_2_10 bw_18_1) rfl ddX10_emit (by decide) (Std.lt hS rfl) (Std.k hS rfl rfl) ⟨rfl, by decide⟩ (Nat.le_of_ble_eq_true rfl) dX5_release_62 (k_eV (fun M19 e18 => ?_))
            rw [g3] at e18
            have a1 := RC_tail (x := Mx 3 2 - 1) (Or.inr rfl : isT 24) hx (by omega)
            have a2 := RC_emit (Or.inr rfl : isT 24) a1.1 e18
            refine v_goto X 0 dX5_release_65 (by decide) ?_
            exact ih2 M19 w3 (emZ z2) (emD z2 d2 y 0) (a2.1) (frT_trans hf (frT_trans a1.2 a2.2)) (by rw [← (rl_go (r := r) (t := w3) (z := z2) (d := d2) (show y ≠ 23 by omega) (by rw [← hrk]; omega)).1, ← hw3]; exact hW) (by rw [← (rl_go (r := r) (t := w3) (z := z2) (d := d2) (show y ≠ 23 by omega) (by rw [← hrk]; omega)).2.1, ← hw3]; exact hZ) (by rw [← (rl_go (r := r) (t := w3) (z := z2) (d := d2) (show y ≠ 23 by omega) (by rw [← hrk]; omega)).2.2, ← hw3]; exact hD) (by omega) (emZ_in hz2) (by omega)
  exact hl1 _ M wt cz cd (hR) (frT_refl _ _) (rfl) (rfl) (rfl) (hl) (hc) (Nat.lt_succ_self _)

-- takeUnit
set_option maxHeartbeats 4000000 in
set_option maxRecDepth 100000 in
theorem c_X5_takeUnit_24 (l : Launch) (D : va_G) (cy : Nat → ClassId) {N : Nat} {sh : MS} {ad : Nat → Nat} {M L : MI} {R : MR} (hS : Std N sh R) (k : Int) (hk : 0 ≤ k ∧ k ≤ 27) (st sd dp : Int) (wt : List Int) (cz : Int) (cd : Int → Int) (rz : Int) (rk rs rc re : Int → Int) (hR : RC M 24 (st, sd, dp, wt, cz, cd, rz, rk, rs, rc, re)) (hl : wt.length ≤ 24) (hc : 0 ≤ cz ∧ cz ≤ 400) (hz : 0 ≤ rz ∧ rz ≤ 16) (hst : st = 2) (hd : -401 ≤ dp ∧ dp ≤ 401) : Ctr l D cy yX5_takeUnit wsX5_takeUnit ({ frames := 1, cells := 0, slots := 0, locals := 22 } : Room) N sh ad M L R [.ref (ad 3), .ref (ad 24), .int (iz k)] (eV N sh ad L R (fun M' => RC M' 24 (tkC (st, sd, dp, wt, cz, cd, rz, rk, rs, rc, re) k (M 5 3)) ∧ frT 24 M M')) := by
  refine Ctr.ofV (by decide) rfl (Nat.le_of_ble_eq_true rfl) ?_
  intro K hKl hKd hRm hnm X hret
  have X : VX K cX5_takeUnit 3 wsX5_takeUnit RX5 := X
  show V K 3 0 0 N sh ad M L R [(0, .ref (ad 3)), (1, .ref (ad 24)), (2, .int (iz k))] [] 0
  have a0 : RC M 24 (st, sd, dp, wt, cz, cd, rz, rk, rs, rc, re) ∧ frT 24 M M := ⟨hR, frT_refl _ _⟩
  have a0f := a0.2
  have a0b := hR.1
  try dsimp only at a0b
  refine v_iload_n X 2 dX5_takeUnit_0 rfl rfl ?_
  refine v_bipush X dX5_takeUnit_1 (by decide) ?_
  refine v_icmp_ne X 24 dX5_takeUnit_3 (by decide) ⟨by omega, by omega⟩ ⟨by decide, by decide⟩ (fun u1 => ?_) (fun u1 => ?_)
  · skip
    refine v_aload_n X 1 dX5_takeUnit_24 rfl rfl ?_
    refine v_iload_n X 2 dX5_takeUnit_25 rfl rfl ?_
    refine v_aload_n X 0 dX5_takeUnit_26 rfl rfl ?_
    refine gt_X5_scanner X iwX5 (Std.lt hS rfl) (Std.k hS rfl rfl) (List.mem_cons_of_mem _ bw_3_15) dX5_takeUnit_27 5 (Std.r hS 0 rfl) ?_
    refine gt_X6_value X iwX6 (Std.lt hS rfl) (Std.k hS rfl rfl) (List.mem_cons_of_mem _ bw_17_17) dX5_takeUnit_30 (M 5 3) rfl (fun hr2 => ?_)
    refine v_callV X [.int (iz k), .int (iz (M 5 3))] hRm (c_X10_emit_24 _ _ _ hS k (M 5 3) ⟨by omega, by omega⟩ ⟨by omega, by omega⟩ (show 0 ≤ M 24 6 ∧ M 24 6 ≤ 400 by omega)) (gV bw_17_22 bw_17_23 bw_18_0 bw_2_10 bw_18_1) rfl ddX10_emit (by decide) (Std.lt hS rfl) (Std.k hS rfl rfl) ⟨rfl, by decide⟩ (Nat.le_of_ble_eq_true rfl) dX5_takeUnit_33 (k_eV (fun M4 e3 => ?_))
    have a5 := RC_emit (Or.inr rfl : isT 24) a0.1 e3
    have a5f := frT_trans a0f a5.2
    have a5b := a5.1.1
    try dsimp only at a5b
    refine v_aload_n X 0 dX5_takeUnit_36 rfl rfl ?_
    refine v_iconst X dX5_takeUnit_37 ?_
    refine pt_X5_state X iwX5 (Std.lt hS rfl) (Std.k hS rfl rfl) (List.mem_cons_of_mem _ bw_3_17) ⟨by decide, by decide⟩ dX5_takeUnit_38 ?_
    have a6 := RC_f3 (x := 3) (Or.inr rfl : isT 24) a5.1
    have a6f := frT_trans a5f a6.2
    have a6b := a6.1.1
    try dsimp only at a6b
    refine hret _ _ _ _ _ _ _ _ _ _ _ none dX5_takeUnit_41 ⟨rfl, rfl⟩ (by decide) (by decide) (fun hmok => ?_)
    refine ⟨rfl, rfl, rfl, rfl, rfl, rfl, ?_, a6f⟩
    rw [tkC_2u hst (by omega)]
    exact a6.1
  · skip
    refine v_aload_n X 0 dX5_takeUnit_6 rfl rfl ?_
    refine v_iload_n X 2 dX5_takeUnit_7 rfl rfl ?_
    refine v_callV X [.int (iz k)] hRm (c_X5_hold _ _ _ hS k ⟨by omega, by omega⟩ (show 0 ≤ M 3 2 ∧ M 3 2 ≤ 24 by omega)) (gV bw_17_18 bw_17_19 bw_17_20 bw_1_18 bw_17_21) rfl ddX5_hold (by decide) (Std.lt hS rfl) (Std.k hS rfl rfl) ⟨rfl, by decide⟩ (Nat.le_of_ble_eq_true rfl) dX5_takeUnit_8 (k_eV (fun M8 e7 => ?_))
    have a9 := RC_hold (Or.inr rfl : isT 24) a0.1 e7
    have a9f := frT_trans a0f a9.2
    have a9b := a9.1.1
    try dsimp only at a9b
    refine v_aload_n X 0 dX5_takeUnit_11 rfl rfl ?_
    refine v_dup X dX5_takeUnit_12 rfl ?_
    refine gt_X5_depth X iwX5 (Std.lt hS rfl) (Std.k hS rfl rfl) (List.mem_cons_of_mem _ bw_3_19) dX5_takeUnit_13 (M8 3 5) rfl (fun hr10 => ?_)
    refine v_iconst X dX5_takeUnit_16 ?_
    refine v_iadd X dX5_takeUnit_17 ?_
    refine pt_X5_depth X iwX5 (Std.lt hS rfl) (Std.k hS rfl rfl) (List.mem_cons_of_mem _ bw_3_19) ⟨by omega, by omega⟩ dX5_takeUnit_18 ?_
    have a11 := RC_f5 (x := ((M8 3 5) + 1)) (Or.inr rfl : isT 24) a9.1
    have a11f := frT_trans a9f a11.2
    have a11b := a11.1.1
    try dsimp only at a11b
    refine v_goto X 41 dX5_takeUnit_21 (by decide) ?_
    refine hret _ _ _ _ _ _ _ _ _ _ _ none dX5_takeUnit_41 ⟨rfl, rfl⟩ (by decide) (by decide) (fun hmok => ?_)
    refine ⟨rfl, rfl, rfl, rfl, rfl, rfl, ?_, a11f⟩
    rw [tkC_2o hst (by omega)]
    have q9 := a11.1
    rw [hst, show k = 23 by omega] at q9
    rw [show dp + 1 = ((M8 3 5) + 1) by omega]
    exact q9

-- takeBehindUnit
set_option maxHeartbeats 4000000 in
set_option maxRecDepth 100000 in
theorem c_X5_takeBehindUnit_24 (l : Launch) (D : va_G) (cy : Nat → ClassId) {N : Nat} {sh : MS} {ad : Nat → Nat} {M L : MI} {R : MR} (hS : Std N sh R) (k : Int) (hk : 0 ≤ k ∧ k ≤ 27) (st sd dp : Int) (wt : List Int) (cz : Int) (cd : Int → Int) (rz : Int) (rk rs rc re : Int → Int) (hR : RC M 24 (st, sd, dp, wt, cz, cd, rz, rk, rs, rc, re)) (hl : wt.length ≤ 24) (hc : 0 ≤ cz ∧ cz ≤ 400) (hz : 0 ≤ rz ∧ rz ≤ 16) (hst : ¬ (st = 0 ∨ st = 1 ∨ st = 2)) (hd : -401 ≤ dp ∧ dp ≤ 401) : Ctr l D cy yX5_takeBehindUnit wsX5_takeBehindUnit ({ frames := 3, cells := 0, slots := 0, locals := 62 } : Room) N sh ad M L R [.ref (ad 3), .ref (ad 24), .int (iz k)] (eV N sh ad L R (fun M' => RC M' 24 (tkC (st, sd, dp, wt, cz, cd, rz, rk, rs, rc, re) k (M 5 3)) ∧ frT 24 M M')) := by
  refine Ctr.ofV (by decide) rfl (Nat.le_of_ble_eq_true rfl) ?_
  intro K hKl hKd hRm hnm X hret
  have X : VX K cX5_takeBehindUnit 3 wsX5_takeBehindUnit RX5 := X
  show V K 3 0 0 N sh ad M L R [(0, .ref (ad 3)), (1, .ref (ad 24)), (2, .int (iz k))] [] 0
  have a0 : RC M 24 (st, sd, dp, wt, cz, cd, rz, rk, rs, rc, re) ∧ frT 24 M M := ⟨hR, frT_refl _ _⟩
  have a0f := a0.2
  have a0b := hR.1
  try dsimp only at a0b
  refine v_aload_n X 0 dX5_takeBehindUnit_0 rfl rfl ?_
  refine v_aload_n X 1 dX5_takeBehindUnit_1 rfl rfl ?_
  refine v_iload_n X 2 dX5_takeBehindUnit_2 rfl rfl ?_
  refine v_callS X [.int (iz k)] hRm (c_X5_rankOf _ _ _ k ⟨by omega, by omega⟩) (gS bw_18_10 bw_18_11 bw_1_18 bw_18_12) rfl ddX5_rankOf (by decide) (Nat.le_of_ble_eq_true rfl) dX5_takeBehindUnit_3 (k_pI (fun r1 hr2 hrk => ?_))
  replace hrk : r1 = rkI k := hrk
  subst hrk
  refine v_callV X [.ref (ad 24), .int (iz (rkI k))] hRm (c_X5_release_24 _ _ _ hS (rkI k) ⟨by have := rkI_in k; omega, by have := rkI_in k; omega⟩ st sd dp wt cz cd rz rk rs rc re hR hl hc hz) (gV bw_18_13 bw_18_14 bw_18_15 bw_1_18 bw_18_16) rfl ddX5_release (by decide) (Std.lt hS rfl) (Std.k hS rfl rfl) ⟨rfl, by decide⟩ (Nat.le_of_ble_eq_true rfl) dX5_takeBehindUnit_6 (k_eV (fun M4 a5 => ?_))
  have a5f := a5.2
  have a5b := a5.1.1
  try dsimp only at a5b
  have lW := Nat.le_trans (rlW_len (r := rkI k) (w := wt)) hl
  have lZ := rlZ_in (r := rkI k) (w := wt) hc
  refine v_iload_n X 2 dX5_takeBehindUnit_9 rfl rfl ?_
  refine v_bipush X dX5_takeBehindUnit_10 (by decide) ?_
  refine v_icmp_ne X 42 dX5_takeBehindUnit_12 (by decide) ⟨by omega, by omega⟩ ⟨by decide, by decide⟩ (fun u6 => ?_) (fun u6 => ?_)
  · skip
    refine v_iload_n X 2 dX5_takeBehindUnit_42 rfl rfl ?_
    refine v_bipush X dX5_takeBehindUnit_43 (by decide) ?_
    refine v_icmp_ne X 60 dX5_takeBehindUnit_45 (by decide) ⟨by omega, by omega⟩ ⟨by decide, by decide⟩ (fun u7 => ?_) (fun u7 => ?_)
    · skip
      refine v_iload_n X 2 dX5_takeBehindUnit_60 rfl rfl ?_
      refine v_iconst X dX5_takeBehindUnit_61 ?_
      refine v_icmp_ne X 82 dX5_takeBehindUnit_62 (by decide) ⟨by omega, by omega⟩ ⟨by decide, by decide⟩ (fun u8 => ?_) (fun u8 => ?_)
      · skip
        refine v_aload_n X 0 dX5_takeBehindUnit_82 rfl rfl ?_
        refine v_iload_n X 2 dX5_takeBehindUnit_83 rfl rfl ?_
        refine v_callV X [.int (iz k)] hRm (c_X5_hold _ _ _ hS k ⟨by omega, by omega⟩ (show 0 ≤ M4 3 2 ∧ M4 3 2 ≤ 24 by omega)) (gV bw_17_18 bw_17_19 bw_17_20 bw_1_18 bw_17_21) rfl ddX5_hold (by decide) (Std.lt hS rfl) (Std.k hS rfl rfl) ⟨rfl, by decide⟩ (Nat.le_of_ble_eq_true rfl) dX5_takeBehindUnit_84 (k_eV (fun M10 e9 => ?_))
        have a11 := RC_hold (Or.inr rfl : isT 24) a5.1 e9
        have a11f := frT_trans a5f a11.2
        have a11b := a11.1.1
        try dsimp only at a11b
        refine v_aload_n X 0 dX5_takeBehindUnit_87 rfl rfl ?_
        refine v_iconst X dX5_takeBehindUnit_88 ?_
        refine pt_X5_state X iwX5 (Std.lt hS rfl) (Std.k hS rfl rfl) (List.mem_cons_of_mem _ bw_3_17) ⟨by decide, by decide⟩ dX5_takeBehindUnit_89 ?_
        have a12 := RC_f3 (x := 2) (Or.inr rfl : isT 24) a11.1
        have a12f := frT_trans a11f a12.2
        have a12b := a12.1.1
        try dsimp only at a12b
        refine v_iload_n X 2 dX5_takeBehindUnit_92 rfl rfl ?_
        refine v_callS X [.int (iz k)] hRm (c_X5_isRelation _ _ _ k ⟨by omega, by omega⟩) (gS bw_16_18 bw_16_19 bw_1_18 bw_16_20) rfl ddX5_isRelation (by decide) (Nat.le_of_ble_eq_true rfl) dX5_takeBehindUnit_93 (k_pB (fun b13 => ?_) (fun b13 => ?_))
        · skip
          refine v_if_eq X 107 dX5_takeBehindUnit_96 (by decide) ⟨by decide, by decide⟩ (fun q => absurd q (by decide)) (fun _ => ?_)
          refine v_aload_n X 0 dX5_takeBehindUnit_99 rfl rfl ?_
          refine v_iconst X dX5_takeBehindUnit_100 ?_
          refine pt_X5_side X iwX5 (Std.lt hS rfl) (Std.k hS rfl rfl) (List.mem_cons_of_mem _ bw_3_18) ⟨by decide, by decide⟩ dX5_takeBehindUnit_101 ?_
          have a14 := RC_f4 (x := 2) (Or.inr rfl : isT 24) a12.1
          have a14f := frT_trans a12f a14.2
          have a14b := a14.1.1
          try dsimp only at a14b
          refine v_goto X 122 dX5_takeBehindUnit_104 (by decide) ?_
          refine hret _ _ _ _ _ _ _ _ _ _ _ none dX5_takeBehindUnit_122 ⟨rfl, rfl⟩ (by decide) (by decide) (fun hmok => ?_)
          refine ⟨rfl, rfl, rfl, rfl, rfl, rfl, ?_, a14f⟩
          rw [tkC_3o hst (by omega), if_pos (show 19 ≤ k ∧ k ≤ 22 by omega)]
          exact a14.1
        · skip
          refine v_if_eq X 107 dX5_takeBehindUnit_96 (by decide) ⟨by decide, by decide⟩ (fun _ => ?_) (fun q => absurd (by decide) q)
          refine v_iload_n X 2 dX5_takeBehindUnit_107 rfl rfl ?_
          refine v_iconst X dX5_takeBehindUnit_108 ?_
          refine v_icmp_eq X 117 dX5_takeBehindUnit_109 (by decide) ⟨by omega, by omega⟩ ⟨by decide, by decide⟩ (fun u15 => ?_) (fun u15 => ?_)
          · skip
            refine v_aload_n X 0 dX5_takeBehindUnit_117 rfl rfl ?_
            refine v_iconst X dX5_takeBehindUnit_118 ?_
            refine pt_X5_side X iwX5 (Std.lt hS rfl) (Std.k hS rfl rfl) (List.mem_cons_of_mem _ bw_3_18) ⟨by decide, by decide⟩ dX5_takeBehindUnit_119 ?_
            have a16 := RC_f4 (x := 1) (Or.inr rfl : isT 24) a12.1
            have a16f := frT_trans a12f a16.2
            have a16b := a16.1.1
            try dsimp only at a16b
            refine hret _ _ _ _ _ _ _ _ _ _ _ none dX5_takeBehindUnit_122 ⟨rfl, rfl⟩ (by decide) (by decide) (fun hmok => ?_)
            refine ⟨rfl, rfl, rfl, rfl, rfl, rfl, ?_, a16f⟩
            rw [tkC_3o hst (by omega), if_neg (show ¬ (19 ≤ k ∧ k ≤ 22) by omega), if_pos (show k = 5 ∨ k = 4 by omega)]
            exact a16.1
          · skip
            refine v_iload_n X 2 dX5_takeBehindUnit_112 rfl rfl ?_
            refine v_iconst X dX5_takeBehindUnit_113 ?_
            refine v_icmp_ne X 122 dX5_takeBehindUnit_114 (by decide) ⟨by omega, by omega⟩ ⟨by decide, by decide⟩ (fun u17 => ?_) (fun u17 => ?_)
            · skip
              refine hret _ _ _ _ _ _ _ _ _ _ _ none dX5_takeBehindUnit_122 ⟨rfl, rfl⟩ (by decide) (by decide) (fun hmok => ?_)
              refine ⟨rfl, rfl, rfl, rfl, rfl, rfl, ?_, a12f⟩
              rw [tkC_3o hst (by omega), if_neg (show ¬ (19 ≤ k ∧ k ≤ 22) by omega), if_neg (show ¬ (k = 5 ∨ k = 4) by omega)]
              exact a12.1
            · skip
              refine v_aload_n X 0 dX5_takeBehindUnit_117 rfl rfl ?_
              refine v_iconst X dX5_takeBehindUnit_118 ?_
              refine pt_X5_side X iwX5 (Std.lt hS rfl) (Std.k hS rfl rfl) (List.mem_cons_of_mem _ bw_3_18) ⟨by decide, by decide⟩ dX5_takeBehindUnit_119 ?_
              have a18 := RC_f4 (x := 1) (Or.inr rfl : isT 24) a12.1
              have a18f := frT_trans a12f a18.2
              have a18b := a18.1.1
              try dsimp only at a18b
              refine hret _ _ _ _ _ _ _ _ _ _ _ none dX5_takeBehindUnit_122 ⟨rfl, rfl⟩ (by decide) (by decide) (fun hmok => ?_)
              refine ⟨rfl, rfl, rfl, rfl, rfl, rfl, ?_, a18f⟩
              rw [tkC_3o hst (by omega), if_neg (show ¬ (19 ≤ k ∧ k ≤ 22) by omega), if_pos (show k = 5 ∨ k = 4 by omega)]
              exact a18.1
      · skip
        refine v_aload_n X 1 dX5_takeBehindUnit_65 rfl rfl ?_
        refine v_callV X [] hRm (c_X10_openCondition_24 _ _ _ hS (show 0 ≤ M4 24 7 ∧ M4 24 7 ≤ 16 by omega)) (gV bw_18_21 bw_18_22 bw_18_23 bw_2_10 bw_19_0) rfl ddX10_openCondition (by decide) (Std.lt hS rfl) (Std.k hS rfl rfl) ⟨rfl, by decide⟩ (Nat.le_of_ble_eq_true rfl) dX5_takeBehindUnit_66 (k_eV (fun M20 e19 => ?_))
        have a21 := RC_cond (Or.inr rfl : isT 24) a5.1 e19
        have a21f := frT_trans a5f a21.2
        have a21b := a21.1.1
        try dsimp only at a21b
        refine v_aload_n X 0 dX5_takeBehindUnit_69 rfl rfl ?_
        refine v_iconst X dX5_takeBehindUnit_70 ?_
        refine pt_X5_side X iwX5 (Std.lt hS rfl) (Std.k hS rfl rfl) (List.mem_cons_of_mem _ bw_3_18) ⟨by decide, by decide⟩ dX5_takeBehindUnit_71 ?_
        have a22 := RC_f4 (x := 1) (Or.inr rfl : isT 24) a21.1
        have a22f := frT_trans a21f a22.2
        have a22b := a22.1.1
        try dsimp only at a22b
        refine v_aload_n X 0 dX5_takeBehindUnit_74 rfl rfl ?_
        refine v_iconst X dX5_takeBehindUnit_75 ?_
        refine pt_X5_state X iwX5 (Std.lt hS rfl) (Std.k hS rfl rfl) (List.mem_cons_of_mem _ bw_3_17) ⟨by decide, by decide⟩ dX5_takeBehindUnit_76 ?_
        have a23 := RC_f3 (x := 2) (Or.inr rfl : isT 24) a22.1
        have a23f := frT_trans a22f a23.2
        have a23b := a23.1.1
        try dsimp only at a23b
        refine v_goto X 122 dX5_takeBehindUnit_79 (by decide) ?_
        refine hret _ _ _ _ _ _ _ _ _ _ _ none dX5_takeBehindUnit_122 ⟨rfl, rfl⟩ (by decide) (by decide) (fun hmok => ?_)
        refine ⟨rfl, rfl, rfl, rfl, rfl, rfl, ?_, a23f⟩
        rw [tkC_3i hst (by omega)]
        have q9 := a23.1
        rw [show rkI k = 0 by rw [show k = 3 by omega]; rfl] at q9
        exact q9
    · skip
      refine v_aload_n X 1 dX5_takeBehindUnit_48 rfl rfl ?_
      refine v_callV X [] hRm (c_X10_closeRule_24 _ _ _ hS (show 0 ≤ M4 24 7 ∧ M4 24 7 ≤ 16 by omega)) (gV bw_18_17 bw_18_18 bw_18_19 bw_2_10 bw_18_20) rfl ddX10_closeRule (by decide) (Std.lt hS rfl) (Std.k hS rfl rfl) ⟨rfl, by decide⟩ (Nat.le_of_ble_eq_true rfl) dX5_takeBehindUnit_49 (k_eV (fun M25 e24 => ?_))
      have a26 := RC_close (Or.inr rfl : isT 24) a5.1 e24
      have a26f := frT_trans a5f a26.2
      have a26b := a26.1.1
      try dsimp only at a26b
      refine v_aload_n X 0 dX5_takeBehindUnit_52 rfl rfl ?_
      refine v_iconst X dX5_takeBehindUnit_53 ?_
      refine pt_X5_state X iwX5 (Std.lt hS rfl) (Std.k hS rfl rfl) (List.mem_cons_of_mem _ bw_3_17) ⟨by decide, by decide⟩ dX5_takeBehindUnit_54 ?_
      have a27 := RC_f3 (x := 0) (Or.inr rfl : isT 24) a26.1
      have a27f := frT_trans a26f a27.2
      have a27b := a27.1.1
      try dsimp only at a27b
      refine v_goto X 122 dX5_takeBehindUnit_57 (by decide) ?_
      refine hret _ _ _ _ _ _ _ _ _ _ _ none dX5_takeBehindUnit_122 ⟨rfl, rfl⟩ (by decide) (by decide) (fun hmok => ?_)
      refine ⟨rfl, rfl, rfl, rfl, rfl, rfl, ?_, a27f⟩
      rw [tkC_3s hst (by omega)]
      have q9 := a27.1
      rw [show rkI k = 0 by rw [show k = 15 by omega]; rfl] at q9
      exact q9
  · skip
    refine v_aload_n X 0 dX5_takeBehindUnit_15 rfl rfl ?_
    refine v_iconst X dX5_takeBehindUnit_16 ?_
    refine v_aload_n X 0 dX5_takeBehindUnit_17 rfl rfl ?_
    refine gt_X5_waitingSize X iwX5 (Std.lt hS rfl) (Std.k hS rfl rfl) (List.mem_cons_of_mem _ bw_3_16) dX5_takeBehindUnit_18 (M4 3 2) rfl (fun hr28 => ?_)
    refine v_iconst X dX5_takeBehindUnit_21 ?_
    refine v_isub X dX5_takeBehindUnit_22 ?_
    obtain ⟨x29, u30⟩ : ∃ z : Int, z = max 0 ((M4 3 2) - 1) := ⟨_, rfl⟩
    refine v_max X x29 hRm (List.mem_cons_of_mem _ bw_18_6) (List.mem_cons_of_mem _ bw_18_7) (List.mem_cons_of_mem _ bw_18_8) (List.mem_cons_of_mem _ bw_18_9) ⟨Nat.le_of_ble_eq_true rfl, Nat.le_of_ble_eq_true rfl, Nat.le_of_ble_eq_true rfl, Nat.le_of_ble_eq_true rfl⟩ ⟨by decide, by decide⟩ ⟨by omega, by omega⟩ u30 dX5_takeBehindUnit_23 ?_
    refine pt_X5_waitingSize X iwX5 (Std.lt hS rfl) (Std.k hS rfl rfl) (List.mem_cons_of_mem _ bw_3_16) ⟨by omega, by omega⟩ dX5_takeBehindUnit_26 ?_
    have a31 := RC_tail (x := x29) (Or.inr rfl : isT 24) a5.1 (by omega)
    have a31f := frT_trans a5f a31.2
    have a31b := a31.1.1
    try dsimp only at a31b
    refine v_aload_n X 0 dX5_takeBehindUnit_29 rfl rfl ?_
    refine v_dup X dX5_takeBehindUnit_30 rfl ?_
    refine gt_X5_depth X iwX5 (Std.lt hS rfl) (Std.k hS rfl rfl) (List.mem_cons_of_mem _ bw_3_19) dX5_takeBehindUnit_31 (M4 3 5) rfl (fun hr32 => ?_)
    refine v_iconst X dX5_takeBehindUnit_34 ?_
    refine v_isub X dX5_takeBehindUnit_35 ?_
    refine pt_X5_depth X iwX5 (Std.lt hS rfl) (Std.k hS rfl rfl) (List.mem_cons_of_mem _ bw_3_19) ⟨by omega, by omega⟩ dX5_takeBehindUnit_36 ?_
    have a33 := RC_f5 (x := ((M4 3 5) - 1)) (Or.inr rfl : isT 24) a31.1
    have a33f := frT_trans a31f a33.2
    have a33b := a33.1.1
    try dsimp only at a33b
    refine v_goto X 122 dX5_takeBehindUnit_39 (by decide) ?_
    refine hret _ _ _ _ _ _ _ _ _ _ _ none dX5_takeBehindUnit_122 ⟨rfl, rfl⟩ (by decide) (by decide) (fun hmok => ?_)
    refine ⟨rfl, rfl, rfl, rfl, rfl, rfl, ?_, a33f⟩
    rw [tkC_3c hst (by omega)]
    have q9 := a33.1
    rw [show rkI k = 0 by rw [show k = 24 by omega]; rfl] at q9
    rw [show dp - 1 = ((M4 3 5) - 1) by omega]
    exact q9

-- take
set_option maxHeartbeats 4000000 in
set_option maxRecDepth 100000 in
theorem c_X5_take_24 (l : Launch) (D : va_G) (cy : Nat → ClassId) {N : Nat} {sh : MS} {ad : Nat → Nat} {M L : MI} {R : MR} (hS : Std N sh R) (k : Int) (hk : 0 ≤ k ∧ k ≤ 27) (st sd dp : Int) (wt : List Int) (cz : Int) (cd : Int → Int) (rz : Int) (rk rs rc re : Int → Int) (hR : RC M 24 (st, sd, dp, wt, cz, cd, rz, rk, rs, rc, re)) (hl : wt.length ≤ 24) (hc : 0 ≤ cz ∧ cz ≤ 400) (hz : 0 ≤ rz ∧ rz ≤ 16) (hd : -401 ≤ dp ∧ dp ≤ 401) : Ctr l D cy yX5_take wsX5_take ({ frames := 4, cells := 0, slots := 0, locals := 84 } : Room) N sh ad M L R [.ref (ad 3), .ref (ad 24), .int (iz k)] (eV N sh ad L R (fun M' => RC M' 24 (tkC (st, sd, dp, wt, cz, cd, rz, rk, rs, rc, re) k (M 5 3)) ∧ frT 24 M M')) := by
  refine Ctr.ofV (by decide) rfl (Nat.le_of_ble_eq_true rfl) ?_
  intro K hKl hKd hRm hnm X hret
  have X : VX K cX5_take 3 wsX5_take RX5 := X
  show V K 3 0 0 N sh ad M L R [(0, .ref (ad 3)), (1, .ref (ad 24)), (2, .int (iz k))] [] 0
  have a0 : RC M 24 (st, sd, dp, wt, cz, cd, rz, rk, rs, rc, re) ∧ frT 24 M M := ⟨hR, frT_refl _ _⟩
  have a0f := a0.2
  have a0b := hR.1
  try dsimp only at a0b
  refine v_aload_n X 0 dX5_take_0 rfl rfl ?_
  refine gt_X5_state X iwX5 (Std.lt hS rfl) (Std.k hS rfl rfl) (List.mem_cons_of_mem _ bw_3_17) dX5_take_1 (M 3 3) rfl (fun hr1 => ?_)
  by_cases u2 : (M 3 3) = 0
  · skip
    refine v_tabIn X 32 dX5_take_4 ⟨by omega, by omega⟩ (by omega) (by omega) (by rw [u2]; rfl) (by decide) ?_
    refine v_aload_n X 1 dX5_take_32 rfl rfl ?_
    refine v_iload_n X 2 dX5_take_33 rfl rfl ?_
    refine v_callV X [.int (iz k)] hRm (c_X10_openRule_24 _ _ _ hS k ⟨by omega, by omega⟩ (show 0 ≤ M 24 7 ∧ M 24 7 ≤ 16 by omega)) (gV bw_17_9 bw_17_10 bw_17_11 bw_2_10 bw_17_12) rfl ddX10_openRule (by decide) (Std.lt hS rfl) (Std.k hS rfl rfl) ⟨rfl, by decide⟩ (Nat.le_of_ble_eq_true rfl) dX5_take_34 (k_eV (fun M4 e3 => ?_))
    have a5 := RC_open (Or.inr rfl : isT 24) a0.1 e3
    have a5f := frT_trans a0f a5.2
    have a5b := a5.1.1
    try dsimp only at a5b
    refine v_aload_n X 0 dX5_take_37 rfl rfl ?_
    refine v_iload_n X 2 dX5_take_38 rfl rfl ?_
    refine v_if_ne X 46 dX5_take_39 (by decide) ⟨by omega, by omega⟩ (fun u6 => ?_) (fun u6 => ?_)
    · skip
      refine v_iconst X dX5_take_46 ?_
      refine pt_X5_side X iwX5 (Std.lt hS rfl) (Std.k hS rfl rfl) (List.mem_cons_of_mem _ bw_3_18) ⟨by decide, by decide⟩ dX5_take_47 ?_
      have a7 := RC_f4 (x := 0) (Or.inr rfl : isT 24) a5.1
      have a7f := frT_trans a5f a7.2
      have a7b := a7.1.1
      try dsimp only at a7b
      refine v_aload_n X 0 dX5_take_50 rfl rfl ?_
      refine v_iload_n X 2 dX5_take_51 rfl rfl ?_
      refine v_if_ne X 59 dX5_take_52 (by decide) ⟨by omega, by omega⟩ (fun u8 => ?_) (fun u8 => ?_)
      · skip
        refine v_iconst X dX5_take_59 ?_
        refine pt_X5_state X iwX5 (Std.lt hS rfl) (Std.k hS rfl rfl) (List.mem_cons_of_mem _ bw_3_17) ⟨by decide, by decide⟩ dX5_take_60 ?_
        have a9 := RC_f3 (x := 2) (Or.inr rfl : isT 24) a7.1
        have a9f := frT_trans a7f a9.2
        have a9b := a9.1.1
        try dsimp only at a9b
        refine v_goto X 89 dX5_take_63 (by decide) ?_
        refine hret _ _ _ _ _ _ _ _ _ _ _ none dX5_take_89 ⟨rfl, rfl⟩ (by decide) (by decide) (fun hmok => ?_)
        refine ⟨rfl, rfl, rfl, rfl, rfl, rfl, ?_, a9f⟩
        rw [tkC_0 (show st = 0 by omega)]
        first | (exfalso; omega; done) | skip
        all_goals first | (rw [if_pos (show k = 0 by omega), if_pos (show k = 0 by omega)]; exact a9.1) | (rw [if_neg (show ¬ k = 0 by omega), if_neg (show ¬ k = 0 by omega)]; exact a9.1)
      · skip
        refine v_iconst X dX5_take_55 ?_
        refine v_goto X 60 dX5_take_56 (by decide) ?_
        refine pt_X5_state X iwX5 (Std.lt hS rfl) (Std.k hS rfl rfl) (List.mem_cons_of_mem _ bw_3_17) ⟨by decide, by decide⟩ dX5_take_60 ?_
        have a10 := RC_f3 (x := 1) (Or.inr rfl : isT 24) a7.1
        have a10f := frT_trans a7f a10.2
        have a10b := a10.1.1
        try dsimp only at a10b
        refine v_goto X 89 dX5_take_63 (by decide) ?_
        refine hret _ _ _ _ _ _ _ _ _ _ _ none dX5_take_89 ⟨rfl, rfl⟩ (by decide) (by decide) (fun hmok => ?_)
        refine ⟨rfl, rfl, rfl, rfl, rfl, rfl, ?_, a10f⟩
        rw [tkC_0 (show st = 0 by omega)]
        first | (exfalso; omega; done) | skip
        all_goals first | (rw [if_pos (show k = 0 by omega), if_pos (show k = 0 by omega)]; exact a10.1) | (rw [if_neg (show ¬ k = 0 by omega), if_neg (show ¬ k = 0 by omega)]; exact a10.1)
    · skip
      refine v_iconst X dX5_take_42 ?_
      refine v_goto X 47 dX5_take_43 (by decide) ?_
      refine pt_X5_side X iwX5 (Std.lt hS rfl) (Std.k hS rfl rfl) (List.mem_cons_of_mem _ bw_3_18) ⟨by decide, by decide⟩ dX5_take_47 ?_
      have a11 := RC_f4 (x := 1) (Or.inr rfl : isT 24) a5.1
      have a11f := frT_trans a5f a11.2
      have a11b := a11.1.1
      try dsimp only at a11b
      refine v_aload_n X 0 dX5_take_50 rfl rfl ?_
      refine v_iload_n X 2 dX5_take_51 rfl rfl ?_
      refine v_if_ne X 59 dX5_take_52 (by decide) ⟨by omega, by omega⟩ (fun u12 => ?_) (fun u12 => ?_)
      · skip
        refine v_iconst X dX5_take_59 ?_
        refine pt_X5_state X iwX5 (Std.lt hS rfl) (Std.k hS rfl rfl) (List.mem_cons_of_mem _ bw_3_17) ⟨by decide, by decide⟩ dX5_take_60 ?_
        have a13 := RC_f3 (x := 2) (Or.inr rfl : isT 24) a11.1
        have a13f := frT_trans a11f a13.2
        have a13b := a13.1.1
        try dsimp only at a13b
        refine v_goto X 89 dX5_take_63 (by decide) ?_
        refine hret _ _ _ _ _ _ _ _ _ _ _ none dX5_take_89 ⟨rfl, rfl⟩ (by decide) (by decide) (fun hmok => ?_)
        refine ⟨rfl, rfl, rfl, rfl, rfl, rfl, ?_, a13f⟩
        rw [tkC_0 (show st = 0 by omega)]
        first | (exfalso; omega; done) | skip
        all_goals first | (rw [if_pos (show k = 0 by omega), if_pos (show k = 0 by omega)]; exact a13.1) | (rw [if_neg (show ¬ k = 0 by omega), if_neg (show ¬ k = 0 by omega)]; exact a13.1)
      · skip
        refine v_iconst X dX5_take_55 ?_
        refine v_goto X 60 dX5_take_56 (by decide) ?_
        refine pt_X5_state X iwX5 (Std.lt hS rfl) (Std.k hS rfl rfl) (List.mem_cons_of_mem _ bw_3_17) ⟨by decide, by decide⟩ dX5_take_60 ?_
        have a14 := RC_f3 (x := 1) (Or.inr rfl : isT 24) a11.1
        have a14f := frT_trans a11f a14.2
        have a14b := a14.1.1
        try dsimp only at a14b
        refine v_goto X 89 dX5_take_63 (by decide) ?_
        refine hret _ _ _ _ _ _ _ _ _ _ _ none dX5_take_89 ⟨rfl, rfl⟩ (by decide) (by decide) (fun hmok => ?_)
        refine ⟨rfl, rfl, rfl, rfl, rfl, rfl, ?_, a14f⟩
        rw [tkC_0 (show st = 0 by omega)]
        first | (exfalso; omega; done) | skip
        all_goals first | (rw [if_pos (show k = 0 by omega), if_pos (show k = 0 by omega)]; exact a14.1) | (rw [if_neg (show ¬ k = 0 by omega), if_neg (show ¬ k = 0 by omega)]; exact a14.1)
  by_cases u15 : (M 3 3) = 1
  · skip
    refine v_tabIn X 66 dX5_take_4 ⟨by omega, by omega⟩ (by omega) (by omega) (by rw [u15]; rfl) (by decide) ?_
    refine v_aload_n X 0 dX5_take_66 rfl rfl ?_
    refine v_iconst X dX5_take_67 ?_
    refine pt_X5_state X iwX5 (Std.lt hS rfl) (Std.k hS rfl rfl) (List.mem_cons_of_mem _ bw_3_17) ⟨by decide, by decide⟩ dX5_take_68 ?_
    have a16 := RC_f3 (x := 2) (Or.inr rfl : isT 24) a0.1
    have a16f := frT_trans a0f a16.2
    have a16b := a16.1.1
    try dsimp only at a16b
    refine v_goto X 89 dX5_take_71 (by decide) ?_
    refine hret _ _ _ _ _ _ _ _ _ _ _ none dX5_take_89 ⟨rfl, rfl⟩ (by decide) (by decide) (fun hmok => ?_)
    refine ⟨rfl, rfl, rfl, rfl, rfl, rfl, ?_, a16f⟩
    rw [tkC_1 (by omega)]
    exact a16.1
  by_cases u17 : (M 3 3) = 2
  · skip
    refine v_tabIn X 74 dX5_take_4 ⟨by omega, by omega⟩ (by omega) (by omega) (by rw [u17]; rfl) (by decide) ?_
    refine v_aload_n X 0 dX5_take_74 rfl rfl ?_
    refine v_aload_n X 1 dX5_take_75 rfl rfl ?_
    refine v_iload_n X 2 dX5_take_76 rfl rfl ?_
    refine v_callV X [.ref (ad 24), .int (iz k)] hRm (c_X5_takeUnit_24 _ _ _ hS k hk st sd dp wt cz cd rz rk rs rc re hR hl hc hz (by omega) hd) (gV bw_17_13 bw_17_14 bw_17_15 bw_1_18 bw_17_16) rfl ddX5_takeUnit (by decide) (Std.lt hS rfl) (Std.k hS rfl rfl) ⟨rfl, by decide⟩ (Nat.le_of_ble_eq_true rfl) dX5_take_77 (k_eV (fun M19 a18 => ?_))
    refine v_goto X 89 dX5_take_80 (by decide) ?_
    refine hret _ _ _ _ _ _ _ _ _ _ _ none dX5_take_89 ⟨rfl, rfl⟩ (by decide) (by decide) (fun hmok => ?_)
    exact ⟨rfl, rfl, rfl, rfl, rfl, rfl, a18⟩
  refine v_tabOut X 83 dX5_take_4 ⟨by omega, by omega⟩ (by omega) (by decide) ?_
  refine v_aload_n X 0 dX5_take_83 rfl rfl ?_
  refine v_aload_n X 1 dX5_take_84 rfl rfl ?_
  refine v_iload_n X 2 dX5_take_85 rfl rfl ?_
  refine v_callV X [.ref (ad 24), .int (iz k)] hRm (c_X5_takeBehindUnit_24 _ _ _ hS k hk st sd dp wt cz cd rz rk rs rc re hR hl hc hz (by omega) hd) (gV bw_18_2 bw_18_3 bw_18_4 bw_1_18 bw_18_5) rfl ddX5_takeBehindUnit (by decide) (Std.lt hS rfl) (Std.k hS rfl rfl) ⟨rfl, by decide⟩ (Nat.le_of_ble_eq_true rfl) dX5_take_86 (k_eV (fun M21 a20 => ?_))
  refine hret _ _ _ _ _ _ _ _ _ _ _ none dX5_take_89 ⟨rfl, rfl⟩ (by decide) (by decide) (fun hmok => ?_)
  exact ⟨rfl, rfl, rfl, rfl, rfl, rfl, a20⟩

-- start
set_option maxHeartbeats 4000000 in
set_option maxRecDepth 100000 in
theorem c_X5_start_24 (l : Launch) (D : va_G) (cy : Nat → ClassId) {N : Nat} {sh : MS} {ad : Nat → Nat} {M L : MI} {R : MR} (hS : Std N sh R) : Ctr l D cy yX5_start wsX5_start ({ frames := 1, cells := 0, slots := 0, locals := 20 } : Room) N sh ad M L R [.ref (ad 3), .ref (ad 24)] (eV N sh ad L R (fun M' => RC M' 24 (c00 (M 29) (M 25) (M 26) (M 27) (M 28)) ∧ M' 5 1 = 0 ∧ ∀ i : Nat, i ≠ 3 → i ≠ 5 → i ≠ 24 → M' i = M i)) := by
  refine Ctr.ofV (by decide) rfl (Nat.le_of_ble_eq_true rfl) ?_
  intro K hKl hKd hRm hnm X hret
  have X : VX K cX5_start 2 wsX5_start RX5 := X
  show V K 2 0 0 N sh ad M L R [(0, .ref (ad 3)), (1, .ref (ad 24))] [] 0
  refine v_aload_n X 1 dX5_start_0 rfl rfl ?_
  refine v_callV X [] hRm (c_X10_clear_24 _ _ _ hS) (gV bw_12_9 bw_12_10 bw_12_11 bw_2_10 bw_12_12) rfl ddX10_clear (by decide) (Std.lt hS rfl) (Std.k hS rfl rfl) ⟨rfl, by decide⟩ (Nat.le_of_ble_eq_true rfl) dX5_start_1 (k_eV (fun M2 e1 => ?_))
  replace e1 : M2 = (mu (mu M 24 6 0) 24 7 0) := e1
  subst e1
  refine v_aload_n X 0 dX5_start_4 rfl rfl ?_
  refine gt_X5_scanner X iwX5 (Std.lt hS rfl) (Std.k hS rfl rfl) (List.mem_cons_of_mem _ bw_3_15) dX5_start_5 5 (Std.r hS 0 rfl) ?_
  refine v_callV X [] hRm (c_X6_restart _ _ _ hS) (gV bw_12_13 bw_4_2 bw_4_3 bw_3_14 bw_4_4) rfl ddX6_restart (by decide) (Std.lt hS rfl) (Std.k hS rfl rfl) ⟨rfl, by decide⟩ (Nat.le_of_ble_eq_true rfl) dX5_start_8 (k_eV (fun M4 e3 => ?_))
  replace e3 : M4 = (mu (mu (mu (mu (mu (mu M 24 6 0) 24 7 0) 5 1 0) 5 2 26) 5 3 0) 5 4 0) := e3
  subst e3
  refine v_aload_n X 0 dX5_start_11 rfl rfl ?_
  refine v_iconst X dX5_start_12 ?_
  refine pt_X5_waitingSize X iwX5 (Std.lt hS rfl) (Std.k hS rfl rfl) (List.mem_cons_of_mem _ bw_3_16) ⟨by decide, by decide⟩ dX5_start_13 ?_
  refine v_aload_n X 0 dX5_start_16 rfl rfl ?_
  refine v_iconst X dX5_start_17 ?_
  refine pt_X5_state X iwX5 (Std.lt hS rfl) (Std.k hS rfl rfl) (List.mem_cons_of_mem _ bw_3_17) ⟨by decide, by decide⟩ dX5_start_18 ?_
  refine v_aload_n X 0 dX5_start_21 rfl rfl ?_
  refine v_iconst X dX5_start_22 ?_
  refine pt_X5_side X iwX5 (Std.lt hS rfl) (Std.k hS rfl rfl) (List.mem_cons_of_mem _ bw_3_18) ⟨by decide, by decide⟩ dX5_start_23 ?_
  refine v_aload_n X 0 dX5_start_26 rfl rfl ?_
  refine v_iconst X dX5_start_27 ?_
  refine pt_X5_depth X iwX5 (Std.lt hS rfl) (Std.k hS rfl rfl) (List.mem_cons_of_mem _ bw_3_19) ⟨by decide, by decide⟩ dX5_start_28 ?_
  refine hret _ _ _ _ _ _ _ _ _ _ _ none dX5_start_31 ⟨rfl, rfl⟩ (by decide) (by decide) (fun hmok => ?_)
  refine ⟨rfl, rfl, rfl, rfl, rfl, rfl, ⟨⟨rfl, rfl, rfl, rfl, rfl, rfl⟩, trivial, rfl, rfl, rfl, rfl, rfl⟩, rfl, fun i i1 i2 i3 => ?_⟩
  rw [mu_i _ _ _ i1, mu_i _ _ _ i1, mu_i _ _ _ i1, mu_i _ _ _ i1, mu_i _ _ _ i2, mu_i _ _ _ i2, mu_i _ _ _ i2, mu_i _ _ _ i2, mu_i _ _ _ i3, mu_i _ _ _ i3]

-- compile
set_option maxHeartbeats 4000000 in
set_option maxRecDepth 100000 in
theorem c_X5_compile_24 (l : Launch) (D : va_G) (cy : Nat → ClassId) {N : Nat} {sh : MS} {ad : Nat → Nat} {M L : MI} {R : MR} (hS : Std N sh R) (hn : 0 ≤ M 1 1 ∧ M 1 1 ≤ 2000) : Ctr l D cy yX5_compile wsX5_compile ({ frames := 7, cells := 0, slots := 0, locals := 151 } : Room) N sh ad M L R [.ref (ad 3), .ref (ad 24)] (eI N sh ad L R (fun r M' => ∃ j : Nat, (j ≤ 400 ∧ ∀ i : Nat, i < j → gkT (cm (bt (M 2) (M 1 1)) (M 1 1) (c00 (M 29) (M 25) (M 26) (M 27) (M 28)) i) i (kdT (bt (M 2) (M 1 1)) (M 1 1) i)) ∧ vdT (cm (bt (M 2) (M 1 1)) (M 1 1) (c00 (M 29) (M 25) (M 26) (M 27) (M 28)) j) j (kdT (bt (M 2) (M 1 1)) (M 1 1) j) r ∧ M' 5 4 = plT (bt (M 2) (M 1 1)) (M 1 1) j ∧ RC M' 24 (cm (bt (M 2) (M 1 1)) (M 1 1) (c00 (M 29) (M 25) (M 26) (M 27) (M 28)) j) ∧ ∀ i : Nat, i ≠ 3 → i ≠ 4 → i ≠ 5 → ¬ (24 ≤ i ∧ i ≤ 29) → M' i = M i)) := by
  refine Ctr.ofI (by decide) rfl (Nat.le_of_ble_eq_true rfl) ?_
  intro K hKl hKd hRm hnm X hret
  have X : VX K cX5_compile 3 wsX5_compile RX5 := X
  show V K 3 0 0 N sh ad M L R [(0, .ref (ad 3)), (1, .ref (ad 24))] [] 0
  refine v_aload_n X 0 dX5_compile_0 rfl rfl ?_
  refine v_aload_n X 1 dX5_compile_1 rfl rfl ?_
  refine v_callV X [.ref (ad 24)] hRm (c_X5_start_24 _ _ _ hS) (gV bw_12_5 bw_12_6 bw_12_7 bw_1_18 bw_12_8) rfl ddX5_start (by decide) (Std.lt hS rfl) (Std.k hS rfl rfl) ⟨rfl, by decide⟩ (Nat.le_of_ble_eq_true rfl) dX5_compile_2 (k_eV (fun M1 a1 => ?_))
  refine v_iconst X dX5_compile_5 ?_
  refine v_istore_n X [(2, .int (iz 0)), (0, .ref (ad 3)), (1, .ref (ad 24))] dX5_compile_6 rfl (by decide) rfl ?_
  have hl1 : ∀ (n3 : Nat) (Mx : MI) (j : Nat), (RC Mx 24 (cm (bt (M 2) (M 1 1)) (M 1 1) (c00 (M 29) (M 25) (M 26) (M 27) (M 28)) j)) → (Mx 5 1 = psT (bt (M 2) (M 1 1)) (M 1 1) j) → (j ≤ 400) → (∀ i : Nat, i < j → gkT (cm (bt (M 2) (M 1 1)) (M 1 1) (c00 (M 29) (M 25) (M 26) (M 27) (M 28)) i) i (kdT (bt (M 2) (M 1 1)) (M 1 1) i)) → (∀ i : Nat, i ≠ 3 → i ≠ 4 → i ≠ 5 → ¬ (24 ≤ i ∧ i ≤ 29) → Mx i = M i) → 401 - j < n3 → V K 3 0 0 N sh ad Mx L R [(0, .ref (ad 3)), (1, .ref (ad 24)), (2, .int (iz (j : Int)))] [] 7 := by
    intro n3
    induction n3 with
    | zero => intro Mx j hx h5 hj hg hf hn4; exact absurd hn4 (Nat.not_lt_zero _)
    | succ n3 ih2 =>
      intro Mx j hx h5 hj hg hf hn4
      have hb := cm_b (g := bt (M 2) (M 1 1)) (n := M 1 1) (cd := M 29) (rk := M 25) (rs := M 26) (rc := M 27) (re := M 28) j
      have hps := psT_in (f := M 2) hn.1 j
      have e1 := hf 1 (by decide) (by decide) (by decide) (by decide)
      have e2 := hf 2 (by decide) (by decide) (by decide) (by decide)
      refine v_iload_n X 2 dX5_compile_7 rfl rfl ?_
      refine v_sipush X dX5_compile_8 (by decide) ?_
      refine v_icmp_gt X 100 dX5_compile_11 (by decide) ⟨by omega, by omega⟩ ⟨by decide, by decide⟩ (fun q => absurd q (by omega)) (fun u5 => ?_)
      refine v_aload_n X 0 dX5_compile_14 rfl rfl ?_
      refine gt_X5_scanner X iwX5 (Std.lt hS rfl) (Std.k hS rfl rfl) (List.mem_cons_of_mem _ bw_3_15) dX5_compile_15 5 (Std.r hS 0 rfl) ?_
      refine v_callV X [] hRm (c_X6_advance _ _ _ hS (show 0 ≤ Mx 1 1 ∧ Mx 1 1 ≤ 2000 by rw [e1]; exact hn) (show 0 ≤ Mx 5 1 ∧ Mx 5 1 ≤ Mx 1 1 by rw [e1, h5]; exact hps)) (gV bw_12_14 bw_12_15 bw_12_16 bw_3_14 bw_12_17) rfl ddX6_advance (by decide) (Std.lt hS rfl) (Std.k hS rfl rfl) ⟨rfl, by decide⟩ (Nat.le_of_ble_eq_true rfl) dX5_compile_18 (k_eV (fun M2 s0 => ?_))
      rw [e1, e2, h5] at s0
      obtain ⟨s1, s2, s3, s4, s6⟩ := s0
      replace s2 : M2 5 4 = plT (bt (M 2) (M 1 1)) (M 1 1) j := s2
      replace s3 : M2 5 2 = kdT (bt (M 2) (M 1 1)) (M 1 1) j := by rw [s3, s2]; rfl
      replace s4 : M2 5 3 = vlT (bt (M 2) (M 1 1)) (M 1 1) j := by rw [s4, s2]; rfl
      have hx2 := RC_fr (Or.inr rfl : isT 24) hx s1
      have hki := tkK_in (bt (M 2) (M 1 1)) (M 1 1) (plT (bt (M 2) (M 1 1)) (M 1 1) j)
      replace hki : 0 ≤ kdT (bt (M 2) (M 1 1)) (M 1 1) j ∧ kdT (bt (M 2) (M 1 1)) (M 1 1) j ≤ 27 := hki
      have q3 := hx2.i3
      refine v_aload_n X 0 dX5_compile_21 rfl rfl ?_
      refine gt_X5_scanner X iwX5 (Std.lt hS rfl) (Std.k hS rfl rfl) (List.mem_cons_of_mem _ bw_3_15) dX5_compile_22 5 (Std.r hS 0 rfl) ?_
      refine gt_X6_kind X iwX6 (Std.lt hS rfl) (Std.k hS rfl rfl) (List.mem_cons_of_mem _ bw_12_4) dX5_compile_25 (M2 5 2) rfl (fun hr6 => ?_)
      refine v_bipush X dX5_compile_28 (by decide) ?_
      refine v_icmp_ne X 42 dX5_compile_30 (by decide) ⟨by omega, by omega⟩ ⟨by decide, by decide⟩ (fun u7 => ?_) (fun u7 => ?_)
      · skip
        refine v_aload_n X 0 dX5_compile_42 rfl rfl ?_
        refine v_aload_n X 0 dX5_compile_43 rfl rfl ?_
        refine gt_X5_scanner X iwX5 (Std.lt hS rfl) (Std.k hS rfl rfl) (List.mem_cons_of_mem _ bw_3_15) dX5_compile_44 5 (Std.r hS 0 rfl) ?_
        refine gt_X6_kind X iwX6 (Std.lt hS rfl) (Std.k hS rfl rfl) (List.mem_cons_of_mem _ bw_12_4) dX5_compile_47 (M2 5 2) rfl (fun hr8 => ?_)
        refine v_callV X [.int (iz (M2 5 2))] hRm (c_X5_goesOnWith _ _ _ hS (M2 5 2) ⟨by omega, by omega⟩) (gV bw_16_7 bw_16_8 bw_16_9 bw_1_18 bw_16_10) rfl ddX5_goesOnWith (by decide) (Std.lt hS rfl) (Std.k hS rfl rfl) ⟨rfl, by decide⟩ (Nat.le_of_ble_eq_true rfl) dX5_compile_50 (k_pB (fun hgo => ?_) (fun hgo => ?_))
        · skip
          replace hgo : goW (cm (bt (M 2) (M 1 1)) (M 1 1) (c00 (M 29) (M 25) (M 26) (M 27) (M 28)) j).1 (cm (bt (M 2) (M 1 1)) (M 1 1) (c00 (M 29) (M 25) (M 26) (M 27) (M 28)) j).2.1 (cm (bt (M 2) (M 1 1)) (M 1 1) (c00 (M 29) (M 25) (M 26) (M 27) (M 28)) j).2.2.1 (kdT (bt (M 2) (M 1 1)) (M 1 1) j) := by rw [← s3, ← q3.1, ← q3.2.1, ← q3.2.2.1]; exact hgo
          refine v_if_ne X 58 dX5_compile_53 (by decide) ⟨by decide, by decide⟩ (fun _ => ?_) (fun q => absurd (by decide) q)
          refine v_iload_n X 2 dX5_compile_58 rfl rfl ?_
          refine v_sipush X dX5_compile_59 (by decide) ?_
          refine v_icmp_eq X 80 dX5_compile_62 (by decide) ⟨by omega, by omega⟩ ⟨by decide, by decide⟩ (fun u9 => ?_) (fun u9 => ?_)
          · skip
            refine v_iconst X dX5_compile_80 ?_
            refine hret _ _ _ _ _ _ _ _ _ _ _ (some (.int (iz 2))) dX5_compile_81 ⟨rfl, _, rfl⟩ (by decide) (by decide) (fun hmok => ?_)
            refine ⟨rfl, rfl, rfl, rfl, rfl, 2, rfl, ⟨by decide, by decide⟩, j, ⟨hj, hg⟩, Or.inr (Or.inr ⟨rfl, hgo, Or.inl (by omega)⟩), s2, hx2, fun i i1 i2 i3 i4 => (s1 i i3).trans (hf i i1 i2 i3 i4)⟩
          · skip
            refine v_aload_n X 0 dX5_compile_65 rfl rfl ?_
            refine v_aload_n X 1 dX5_compile_66 rfl rfl ?_
            refine v_aload_n X 0 dX5_compile_67 rfl rfl ?_
            refine gt_X5_scanner X iwX5 (Std.lt hS rfl) (Std.k hS rfl rfl) (List.mem_cons_of_mem _ bw_3_15) dX5_compile_68 5 (Std.r hS 0 rfl) ?_
            refine gt_X6_kind X iwX6 (Std.lt hS rfl) (Std.k hS rfl rfl) (List.mem_cons_of_mem _ bw_12_4) dX5_compile_71 (M2 5 2) rfl (fun hr10 => ?_)
            refine v_callV X [.ref (ad 24), .int (iz (M2 5 2))] hRm (c_X5_lacksRoomFor_24 _ _ _ hS (M2 5 2) ⟨by omega, by omega⟩) (gV bw_16_21 bw_16_22 bw_16_23 bw_1_18 bw_17_0) rfl ddX5_lacksRoomFor (by decide) (Std.lt hS rfl) (Std.k hS rfl rfl) ⟨rfl, by decide⟩ (Nat.le_of_ble_eq_true rfl) dX5_compile_74 (k_pB (fun hla => ?_) (fun hla => ?_))
            · skip
              replace hla : (laR (cm (bt (M 2) (M 1 1)) (M 1 1) (c00 (M 29) (M 25) (M 26) (M 27) (M 28)) j).1 (cm (bt (M 2) (M 1 1)) (M 1 1) (c00 (M 29) (M 25) (M 26) (M 27) (M 28)) j).2.2.1 (cm (bt (M 2) (M 1 1)) (M 1 1) (c00 (M 29) (M 25) (M 26) (M 27) (M 28)) j).2.2.2.2.2.2.1 (kdT (bt (M 2) (M 1 1)) (M 1 1) j)) := by rw [← s3, ← q3.1, ← q3.2.2.1, ← q3.2.2.2.2.2]; exact hla
              refine v_if_eq X 82 dX5_compile_77 (by decide) ⟨by decide, by decide⟩ (fun q => absurd q (by decide)) (fun _ => ?_)
              refine v_iconst X dX5_compile_80 ?_
              refine hret _ _ _ _ _ _ _ _ _ _ _ (some (.int (iz 2))) dX5_compile_81 ⟨rfl, _, rfl⟩ (by decide) (by decide) (fun hmok => ?_)
              refine ⟨rfl, rfl, rfl, rfl, rfl, 2, rfl, ⟨by decide, by decide⟩, j, ⟨hj, hg⟩, Or.inr (Or.inr ⟨rfl, hgo, Or.inr hla⟩), s2, hx2, fun i i1 i2 i3 i4 => (s1 i i3).trans (hf i i1 i2 i3 i4)⟩
            · skip
              replace hla : ¬ (laR (cm (bt (M 2) (M 1 1)) (M 1 1) (c00 (M 29) (M 25) (M 26) (M 27) (M 28)) j).1 (cm (bt (M 2) (M 1 1)) (M 1 1) (c00 (M 29) (M 25) (M 26) (M 27) (M 28)) j).2.2.1 (cm (bt (M 2) (M 1 1)) (M 1 1) (c00 (M 29) (M 25) (M 26) (M 27) (M 28)) j).2.2.2.2.2.2.1 (kdT (bt (M 2) (M 1 1)) (M 1 1) j)) := by rw [← s3, ← q3.1, ← q3.2.2.1, ← q3.2.2.2.2.2]; exact hla
              refine v_if_eq X 82 dX5_compile_77 (by decide) ⟨by decide, by decide⟩ (fun _ => ?_) (fun q => absurd (by decide) q)
              refine v_aload_n X 0 dX5_compile_82 rfl rfl ?_
              refine v_aload_n X 1 dX5_compile_83 rfl rfl ?_
              refine v_aload_n X 0 dX5_compile_84 rfl rfl ?_
              refine gt_X5_scanner X iwX5 (Std.lt hS rfl) (Std.k hS rfl rfl) (List.mem_cons_of_mem _ bw_3_15) dX5_compile_85 5 (Std.r hS 0 rfl) ?_
              refine gt_X6_kind X iwX6 (Std.lt hS rfl) (Std.k hS rfl rfl) (List.mem_cons_of_mem _ bw_12_4) dX5_compile_88 (M2 5 2) rfl (fun hr11 => ?_)
              refine v_callV X [.ref (ad 24), .int (iz (M2 5 2))] hRm (c_X5_take_24 _ _ _ hS (M2 5 2) (by omega) (cm (bt (M 2) (M 1 1)) (M 1 1) (c00 (M 29) (M 25) (M 26) (M 27) (M 28)) j).1 (cm (bt (M 2) (M 1 1)) (M 1 1) (c00 (M 29) (M 25) (M 26) (M 27) (M 28)) j).2.1 (cm (bt (M 2) (M 1 1)) (M 1 1) (c00 (M 29) (M 25) (M 26) (M 27) (M 28)) j).2.2.1 (cm (bt (M 2) (M 1 1)) (M 1 1) (c00 (M 29) (M 25) (M 26) (M 27) (M 28)) j).2.2.2.1 (cm (bt (M 2) (M 1 1)) (M 1 1) (c00 (M 29) (M 25) (M 26) (M 27) (M 28)) j).2.2.2.2.1 (cm (bt (M 2) (M 1 1)) (M 1 1) (c00 (M 29) (M 25) (M 26) (M 27) (M 28)) j).2.2.2.2.2.1 (cm (bt (M 2) (M 1 1)) (M 1 1) (c00 (M 29) (M 25) (M 26) (M 27) (M 28)) j).2.2.2.2.2.2.1 (cm (bt (M 2) (M 1 1)) (M 1 1) (c00 (M 29) (M 25) (M 26) (M 27) (M 28)) j).2.2.2.2.2.2.2.1 (cm (bt (M 2) (M 1 1)) (M 1 1) (c00 (M 29) (M 25) (M 26) (M 27) (M 28)) j).2.2.2.2.2.2.2.2.1 (cm (bt (M 2) (M 1 1)) (M 1 1) (c00 (M 29) (M 25) (M 26) (M 27) (M 28)) j).2.2.2.2.2.2.2.2.2.1 (cm (bt (M 2) (M 1 1)) (M 1 1) (c00 (M 29) (M 25) (M 26) (M 27) (M 28)) j).2.2.2.2.2.2.2.2.2.2 hx2 hb.1 hb.2.1 hb.2.2.1 (by omega)) (gV bw_17_5 bw_17_6 bw_17_7 bw_1_18 bw_17_8) rfl ddX5_take (by decide) (Std.lt hS rfl) (Std.k hS rfl rfl) ⟨rfl, by decide⟩ (Nat.le_of_ble_eq_true rfl) dX5_compile_91 (k_eV (fun M3 a3 => ?_))
              rw [s4, s3] at a3
              have hgk : gkT (cm (bt (M 2) (M 1 1)) (M 1 1) (c00 (M 29) (M 25) (M 26) (M 27) (M 28)) j) j (kdT (bt (M 2) (M 1 1)) (M 1 1) j) := ⟨hgo, by omega, hla⟩
              refine v_iinc X 2 [(2, .int (iz ((j : Int) + 1))), (0, .ref (ad 3)), (1, .ref (ad 24))] dX5_compile_94 rfl (by decide) rfl ?_
              refine v_goto X 7 dX5_compile_97 (by decide) ?_
              refine v_lv [1, 2, 0] rfl ?_
              exact ih2 M3 (j + 1) (a3.1) (by rw [a3.2 5 (by decide) (by decide) (by decide)]; exact (s6.trans (by rw [s2]; rfl))) (by omega) (fun i hi => by by_cases c : i = j; (rw [c]; exact hgk); exact hg i (by omega)) (fun i i1 i2 i3 i4 => (a3.2 i i1 i2 i4).trans ((s1 i i3).trans (hf i i1 i2 i3 i4))) (by omega)
        · skip
          replace hgo : ¬ goW (cm (bt (M 2) (M 1 1)) (M 1 1) (c00 (M 29) (M 25) (M 26) (M 27) (M 28)) j).1 (cm (bt (M 2) (M 1 1)) (M 1 1) (c00 (M 29) (M 25) (M 26) (M 27) (M 28)) j).2.1 (cm (bt (M 2) (M 1 1)) (M 1 1) (c00 (M 29) (M 25) (M 26) (M 27) (M 28)) j).2.2.1 (kdT (bt (M 2) (M 1 1)) (M 1 1) j) := by rw [← s3, ← q3.1, ← q3.2.1, ← q3.2.2.1]; exact hgo
          refine v_if_ne X 58 dX5_compile_53 (by decide) ⟨by decide, by decide⟩ (fun q => absurd q (by decide)) (fun _ => ?_)
          refine v_iconst X dX5_compile_56 ?_
          refine hret _ _ _ _ _ _ _ _ _ _ _ (some (.int (iz 1))) dX5_compile_57 ⟨rfl, _, rfl⟩ (by decide) (by decide) (fun hmok => ?_)
          have hgo0 : ¬ (kdT (bt (M 2) (M 1 1)) (M 1 1) j = 26 ∧ (cm (bt (M 2) (M 1 1)) (M 1 1) (c00 (M 29) (M 25) (M 26) (M 27) (M 28)) j).1 = 0) := fun z => by rw [← q3.1, ← s3] at z; omega
          refine ⟨rfl, rfl, rfl, rfl, rfl, 1, rfl, ⟨by decide, by decide⟩, j, ⟨hj, hg⟩, Or.inr (Or.inl ⟨rfl, fun z => hgo0 z, hgo⟩), s2, hx2, fun i i1 i2 i3 i4 => (s1 i i3).trans (hf i i1 i2 i3 i4)⟩
      · skip
        refine v_aload_n X 0 dX5_compile_33 rfl rfl ?_
        refine gt_X5_state X iwX5 (Std.lt hS rfl) (Std.k hS rfl rfl) (List.mem_cons_of_mem _ bw_3_17) dX5_compile_34 (M2 3 3) rfl (fun hr12 => ?_)
        refine v_if_ne X 42 dX5_compile_37 (by decide) ⟨by omega, by omega⟩ (fun u13 => ?_) (fun u13 => ?_)
        · skip
          refine v_aload_n X 0 dX5_compile_42 rfl rfl ?_
          refine v_aload_n X 0 dX5_compile_43 rfl rfl ?_
          refine gt_X5_scanner X iwX5 (Std.lt hS rfl) (Std.k hS rfl rfl) (List.mem_cons_of_mem _ bw_3_15) dX5_compile_44 5 (Std.r hS 0 rfl) ?_
          refine gt_X6_kind X iwX6 (Std.lt hS rfl) (Std.k hS rfl rfl) (List.mem_cons_of_mem _ bw_12_4) dX5_compile_47 (M2 5 2) rfl (fun hr14 => ?_)
          refine v_callV X [.int (iz (M2 5 2))] hRm (c_X5_goesOnWith _ _ _ hS (M2 5 2) ⟨by omega, by omega⟩) (gV bw_16_7 bw_16_8 bw_16_9 bw_1_18 bw_16_10) rfl ddX5_goesOnWith (by decide) (Std.lt hS rfl) (Std.k hS rfl rfl) ⟨rfl, by decide⟩ (Nat.le_of_ble_eq_true rfl) dX5_compile_50 (k_pB (fun hgo => ?_) (fun hgo => ?_))
          · skip
            replace hgo : goW (cm (bt (M 2) (M 1 1)) (M 1 1) (c00 (M 29) (M 25) (M 26) (M 27) (M 28)) j).1 (cm (bt (M 2) (M 1 1)) (M 1 1) (c00 (M 29) (M 25) (M 26) (M 27) (M 28)) j).2.1 (cm (bt (M 2) (M 1 1)) (M 1 1) (c00 (M 29) (M 25) (M 26) (M 27) (M 28)) j).2.2.1 (kdT (bt (M 2) (M 1 1)) (M 1 1) j) := by rw [← s3, ← q3.1, ← q3.2.1, ← q3.2.2.1]; exact hgo
            refine v_if_ne X 58 dX5_compile_53 (by decide) ⟨by decide, by decide⟩ (fun _ => ?_) (fun q => absurd (by decide) q)
            refine v_iload_n X 2 dX5_compile_58 rfl rfl ?_
            refine v_sipush X dX5_compile_59 (by decide) ?_
            refine v_icmp_eq X 80 dX5_compile_62 (by decide) ⟨by omega, by omega⟩ ⟨by decide, by decide⟩ (fun u15 => ?_) (fun u15 => ?_)
            · skip
              refine v_iconst X dX5_compile_80 ?_
              refine hret _ _ _ _ _ _ _ _ _ _ _ (some (.int (iz 2))) dX5_compile_81 ⟨rfl, _, rfl⟩ (by decide) (by decide) (fun hmok => ?_)
              refine ⟨rfl, rfl, rfl, rfl, rfl, 2, rfl, ⟨by decide, by decide⟩, j, ⟨hj, hg⟩, Or.inr (Or.inr ⟨rfl, hgo, Or.inl (by omega)⟩), s2, hx2, fun i i1 i2 i3 i4 => (s1 i i3).trans (hf i i1 i2 i3 i4)⟩
            · skip
              refine v_aload_n X 0 dX5_compile_65 rfl rfl ?_
              refine v_aload_n X 1 dX5_compile_66 rfl rfl ?_
              refine v_aload_n X 0 dX5_compile_67 rfl rfl ?_
              refine gt_X5_scanner X iwX5 (Std.lt hS rfl) (Std.k hS rfl rfl) (List.mem_cons_of_mem _ bw_3_15) dX5_compile_68 5 (Std.r hS 0 rfl) ?_
              refine gt_X6_kind X iwX6 (Std.lt hS rfl) (Std.k hS rfl rfl) (List.mem_cons_of_mem _ bw_12_4) dX5_compile_71 (M2 5 2) rfl (fun hr16 => ?_)
              refine v_callV X [.ref (ad 24), .int (iz (M2 5 2))] hRm (c_X5_lacksRoomFor_24 _ _ _ hS (M2 5 2) ⟨by omega, by omega⟩) (gV bw_16_21 bw_16_22 bw_16_23 bw_1_18 bw_17_0) rfl ddX5_lacksRoomFor (by decide) (Std.lt hS rfl) (Std.k hS rfl rfl) ⟨rfl, by decide⟩ (Nat.le_of_ble_eq_true rfl) dX5_compile_74 (k_pB (fun hla => ?_) (fun hla => ?_))
              · skip
                replace hla : (laR (cm (bt (M 2) (M 1 1)) (M 1 1) (c00 (M 29) (M 25) (M 26) (M 27) (M 28)) j).1 (cm (bt (M 2) (M 1 1)) (M 1 1) (c00 (M 29) (M 25) (M 26) (M 27) (M 28)) j).2.2.1 (cm (bt (M 2) (M 1 1)) (M 1 1) (c00 (M 29) (M 25) (M 26) (M 27) (M 28)) j).2.2.2.2.2.2.1 (kdT (bt (M 2) (M 1 1)) (M 1 1) j)) := by rw [← s3, ← q3.1, ← q3.2.2.1, ← q3.2.2.2.2.2]; exact hla
                refine v_if_eq X 82 dX5_compile_77 (by decide) ⟨by decide, by decide⟩ (fun q => absurd q (by decide)) (fun _ => ?_)
                refine v_iconst X dX5_compile_80 ?_
                refine hret _ _ _ _ _ _ _ _ _ _ _ (some (.int (iz 2))) dX5_compile_81 ⟨rfl, _, rfl⟩ (by decide) (by decide) (fun hmok => ?_)
                refine ⟨rfl, rfl, rfl, rfl, rfl, 2, rfl, ⟨by decide, by decide⟩, j, ⟨hj, hg⟩, Or.inr (Or.inr ⟨rfl, hgo, Or.inr hla⟩), s2, hx2, fun i i1 i2 i3 i4 => (s1 i i3).trans (hf i i1 i2 i3 i4)⟩
              · skip
                replace hla : ¬ (laR (cm (bt (M 2) (M 1 1)) (M 1 1) (c00 (M 29) (M 25) (M 26) (M 27) (M 28)) j).1 (cm (bt (M 2) (M 1 1)) (M 1 1) (c00 (M 29) (M 25) (M 26) (M 27) (M 28)) j).2.2.1 (cm (bt (M 2) (M 1 1)) (M 1 1) (c00 (M 29) (M 25) (M 26) (M 27) (M 28)) j).2.2.2.2.2.2.1 (kdT (bt (M 2) (M 1 1)) (M 1 1) j)) := by rw [← s3, ← q3.1, ← q3.2.2.1, ← q3.2.2.2.2.2]; exact hla
                refine v_if_eq X 82 dX5_compile_77 (by decide) ⟨by decide, by decide⟩ (fun _ => ?_) (fun q => absurd (by decide) q)
                refine v_aload_n X 0 dX5_compile_82 rfl rfl ?_
                refine v_aload_n X 1 dX5_compile_83 rfl rfl ?_
                refine v_aload_n X 0 dX5_compile_84 rfl rfl ?_
                refine gt_X5_scanner X iwX5 (Std.lt hS rfl) (Std.k hS rfl rfl) (List.mem_cons_of_mem _ bw_3_15) dX5_compile_85 5 (Std.r hS 0 rfl) ?_
                refine gt_X6_kind X iwX6 (Std.lt hS rfl) (Std.k hS rfl rfl) (List.mem_cons_of_mem _ bw_12_4) dX5_compile_88 (M2 5 2) rfl (fun hr17 => ?_)
                refine v_callV X [.ref (ad 24), .int (iz (M2 5 2))] hRm (c_X5_take_24 _ _ _ hS (M2 5 2) (by omega) (cm (bt (M 2) (M 1 1)) (M 1 1) (c00 (M 29) (M 25) (M 26) (M 27) (M 28)) j).1 (cm (bt (M 2) (M 1 1)) (M 1 1) (c00 (M 29) (M 25) (M 26) (M 27) (M 28)) j).2.1 (cm (bt (M 2) (M 1 1)) (M 1 1) (c00 (M 29) (M 25) (M 26) (M 27) (M 28)) j).2.2.1 (cm (bt (M 2) (M 1 1)) (M 1 1) (c00 (M 29) (M 25) (M 26) (M 27) (M 28)) j).2.2.2.1 (cm (bt (M 2) (M 1 1)) (M 1 1) (c00 (M 29) (M 25) (M 26) (M 27) (M 28)) j).2.2.2.2.1 (cm (bt (M 2) (M 1 1)) (M 1 1) (c00 (M 29) (M 25) (M 26) (M 27) (M 28)) j).2.2.2.2.2.1 (cm (bt (M 2) (M 1 1)) (M 1 1) (c00 (M 29) (M 25) (M 26) (M 27) (M 28)) j).2.2.2.2.2.2.1 (cm (bt (M 2) (M 1 1)) (M 1 1) (c00 (M 29) (M 25) (M 26) (M 27) (M 28)) j).2.2.2.2.2.2.2.1 (cm (bt (M 2) (M 1 1)) (M 1 1) (c00 (M 29) (M 25) (M 26) (M 27) (M 28)) j).2.2.2.2.2.2.2.2.1 (cm (bt (M 2) (M 1 1)) (M 1 1) (c00 (M 29) (M 25) (M 26) (M 27) (M 28)) j).2.2.2.2.2.2.2.2.2.1 (cm (bt (M 2) (M 1 1)) (M 1 1) (c00 (M 29) (M 25) (M 26) (M 27) (M 28)) j).2.2.2.2.2.2.2.2.2.2 hx2 hb.1 hb.2.1 hb.2.2.1 (by omega)) (gV bw_17_5 bw_17_6 bw_17_7 bw_1_18 bw_17_8) rfl ddX5_take (by decide) (Std.lt hS rfl) (Std.k hS rfl rfl) ⟨rfl, by decide⟩ (Nat.le_of_ble_eq_true rfl) dX5_compile_91 (k_eV (fun M3 a3 => ?_))
                rw [s4, s3] at a3
                have hgk : gkT (cm (bt (M 2) (M 1 1)) (M 1 1) (c00 (M 29) (M 25) (M 26) (M 27) (M 28)) j) j (kdT (bt (M 2) (M 1 1)) (M 1 1) j) := ⟨hgo, by omega, hla⟩
                refine v_iinc X 2 [(2, .int (iz ((j : Int) + 1))), (0, .ref (ad 3)), (1, .ref (ad 24))] dX5_compile_94 rfl (by decide) rfl ?_
                refine v_goto X 7 dX5_compile_97 (by decide) ?_
                refine v_lv [1, 2, 0] rfl ?_
                exact ih2 M3 (j + 1) (a3.1) (by rw [a3.2 5 (by decide) (by decide) (by decide)]; exact (s6.trans (by rw [s2]; rfl))) (by omega) (fun i hi => by by_cases c : i = j; (rw [c]; exact hgk); exact hg i (by omega)) (fun i i1 i2 i3 i4 => (a3.2 i i1 i2 i4).trans ((s1 i i3).trans (hf i i1 i2 i3 i4))) (by omega)
          · skip
            replace hgo : ¬ goW (cm (bt (M 2) (M 1 1)) (M 1 1) (c00 (M 29) (M 25) (M 26) (M 27) (M 28)) j).1 (cm (bt (M 2) (M 1 1)) (M 1 1) (c00 (M 29) (M 25) (M 26) (M 27) (M 28)) j).2.1 (cm (bt (M 2) (M 1 1)) (M 1 1) (c00 (M 29) (M 25) (M 26) (M 27) (M 28)) j).2.2.1 (kdT (bt (M 2) (M 1 1)) (M 1 1) j) := by rw [← s3, ← q3.1, ← q3.2.1, ← q3.2.2.1]; exact hgo
            refine v_if_ne X 58 dX5_compile_53 (by decide) ⟨by decide, by decide⟩ (fun q => absurd q (by decide)) (fun _ => ?_)
            refine v_iconst X dX5_compile_56 ?_
            refine hret _ _ _ _ _ _ _ _ _ _ _ (some (.int (iz 1))) dX5_compile_57 ⟨rfl, _, rfl⟩ (by decide) (by decide) (fun hmok => ?_)
            have hgo0 : ¬ (kdT (bt (M 2) (M 1 1)) (M 1 1) j = 26 ∧ (cm (bt (M 2) (M 1 1)) (M 1 1) (c00 (M 29) (M 25) (M 26) (M 27) (M 28)) j).1 = 0) := fun z => by rw [← q3.1, ← s3] at z; omega
            refine ⟨rfl, rfl, rfl, rfl, rfl, 1, rfl, ⟨by decide, by decide⟩, j, ⟨hj, hg⟩, Or.inr (Or.inl ⟨rfl, fun z => hgo0 z, hgo⟩), s2, hx2, fun i i1 i2 i3 i4 => (s1 i i3).trans (hf i i1 i2 i3 i4)⟩
        · skip
          refine v_iconst X dX5_compile_40 ?_
          refine hret _ _ _ _ _ _ _ _ _ _ _ (some (.int (iz 0))) dX5_compile_41 ⟨rfl, _, rfl⟩ (by decide) (by decide) (fun hmok => ?_)
          refine ⟨rfl, rfl, rfl, rfl, rfl, 0, rfl, ⟨by decide, by decide⟩, j, ⟨hj, hg⟩, Or.inl ⟨rfl, by omega, by rw [← q3.1]; omega⟩, s2, hx2, fun i i1 i2 i3 i4 => (s1 i i3).trans (hf i i1 i2 i3 i4)⟩
  refine v_lv [1, 2, 0] rfl ?_
  exact hl1 _ M1 0 (a1.1) (a1.2.1) (Nat.zero_le _) (fun i hi => absurd hi (Nat.not_lt_zero i)) (fun i i1 i2 i3 i4 => a1.2.2 i i1 i3 (by omega)) (Nat.lt_succ_self _)

