/-! FLY: the first minute that will do -/
def cLn (M : MI) (a b : Int) : Int := M 33 (a * 10 + M 14 b)
def cvR (M : MI) (R : MR) (p : List Fl) (a b : Int) : Int → Int := ask9 (M 32) a (cKd M R a) (ahL (cKd M R) p) (smF (fun n => if cPi M R n = cPi M R a then 1 else 0) p) (M 14 b) b (M 6 4) (cLn M a b) (cWo M R a)
def cOkL (M : MI) (R : MR) (t : Nat) (p : List Fl) (a b : Int) : Bool := decide (0 < cLn M a b ∧ b + cLn M a b ≤ M 15 b) && flyOk M t p (aId R a) a b (cLn M a b) (cvR M R p a b)
theorem cOkL_iff {M : MI} {R : MR} {t : Nat} {p : List Fl} {a b : Int} : cOkL M R t p a b = true ↔ (0 < cLn M a b ∧ b + cLn M a b ≤ M 15 b) ∧ flyOk M t p (aId R a) a b (cLn M a b) (cvR M R p a b) = true := by
  unfold cOkL
  rw [Bool.and_eq_true, decide_eq_true_iff]
def cSt (M : MI) (R : MR) (p : List Fl) (a : Int) : Int := max 0 (max (endL p) (M 16 a + cCl M R a))
def cBL (M : MI) (R : MR) (t : Nat) (p : List Fl) (a : Int) : Int := fb (cOkL M R t p a) (240 - cSt M R p a).toNat (cSt M R p a)
def cpl (M : MI) (R : MR) (t : Nat) (p : List Fl) (a : Int) : Option Fl := if cBL M R t p a = -1 then none else some (a, fT M p (aId R a) a (cBL M R t p a), cBL M R t p a, cLn M a (cBL M R t p a), fL M p (aId R a) (cBL M R t p a) (cLn M a (cBL M R t p a)))
theorem mrow_2330 (X : MI) : X = mrow (mrow X 23 (X 23)) 30 (X 30) := by
  rw [mrow_self]; exact (mrow_self X 30).symm
theorem mrow3 (M : MI) (v g h v' g' h' : Int → Int) : mrow (mrow (mrow (mrow (mrow (mrow M 32 v) 23 g) 30 h) 32 v') 23 g') 30 h' = mrow (mrow (mrow M 32 v') 23 g') 30 h' := by
  funext a b
  simp only [mrow]
  by_cases h1 : a = 30
  · simp only [h1, if_true]
  · by_cases h2 : a = 23
    · simp only [h2, if_true]
    · by_cases h3 : a = 32
      · simp only [h3, if_true]
      · simp only [h1, h2, h3, if_false]
theorem ahL_fr {M M' : MI} (h : frC M M') {R : MR} {sh : MS} {N : Nat} (o : ShowOk M R sh N) : ∀ {p : List Fl}, okF (M 6 1) p → ahL (cKd M' R) p = ahL (cKd M R) p
  | [], _ => rfl
  | f :: p, hp => by
    show M' (aId R (fa f)) 0 = M (aId R (fa f)) 0
    rw [row_fr h o hp.1.1 hp.1.2]
theorem cvR_fr {M M' : MI} (h : frC M M') {R : MR} {sh : MS} {N : Nat} (o : ShowOk M R sh N) {p : List Fl} (hp : okF (M 6 1) p) {a : Int} (h1 : 0 ≤ a) (h2 : a < M 6 1) (b : Int) : cvR M' R p a b = cvR M R p a b := by
  have e := row_fr h o h1 h2
  have e1 : cPi M' R a = cPi M R a := by unfold cPi; rw [e]
  unfold cvR cLn
  rw [ask9_9 (f := M 32) h.2, ahL_fr h o hp, e1, smF_pi h o hp, h.1 14 (by omega), h.1 33 (by omega), h.1 6 (by omega)]
  unfold cKd cWo
  rw [e]
theorem cpl_fr {M M' : MI} (h : frC M M') {R : MR} {sh : MS} {N : Nat} (o : ShowOk M R sh N) {t : Nat} (ht : isT t) {p : List Fl} (hp : okF (M 6 1) p) {a : Int} (h1 : 0 ≤ a) (h2 : a < M 6 1) : cpl M' R t p a = cpl M R t p a := by
  have e := row_fr h o h1 h2
  have hi := (actId o h1 h2).2.1
  have hL : ∀ b, cLn M' a b = cLn M a b := fun b => by unfold cLn; rw [h.1 14 (by omega), h.1 33 (by omega)]
  have hOk : cOkL M' R t p a = cOkL M R t p a := by
    funext b
    unfold cOkL
    rw [hL, cvR_fr h o hp h1 h2, flyOk_fr h ht hi, h.1 15 (by omega)]
  have hSt : cSt M' R p a = cSt M R p a := by unfold cSt cCl; rw [e, h.1 16 (by omega)]
  have hBb : cBL M' R t p a = cBL M R t p a := by unfold cBL; rw [hOk, hSt]
  have hT : ∀ b, fT M' p (aId R a) a b = fT M p (aId R a) a b := fun b => by unfold fT; rw [e, h.1 16 (by omega)]
  have hF : ∀ b m, fL M' p (aId R a) b m = fL M p (aId R a) b m := fun b m => by unfold fL; rw [e]
  unfold cpl
  rw [hBb, hL, hT, hF]

-- fly
set_option maxHeartbeats 4000000 in
set_option maxRecDepth 100000 in
theorem c_X4_fly (l : Launch) (D : va_G) (cy : Nat → ClassId) {N : Nat} {sh : MS} {ad : Nat → Nat} {M L : MI} {R : MR} (hS : Std N sh R) (a : Int) (ha : 0 ≤ a ∧ a < M 6 1) (wo : Int → Int) (p : List Fl) (t : Nat) (ht : isT t) (hRt : R 31 7 = some t) (hX : cTxt M t) (hO : ShowOk M R sh N) (hT : rT wo M p) (hK : rK M p) (ho : okF (M 6 1) p) (hin : inF p a = false) (hwa : ∀ a : Int, 0 ≤ a → a < M 6 1 → wo a = cWo M R a) (hP : plPre M) : Ctr l D cy yX4_fly wsX4_fly ({ frames := 4, cells := 0, slots := 0, locals := 101 } : Room) N sh ad M L R [.ref (ad 31), .int (iz a)] (eB N sh ad L R (fun M' => ∃ f : Fl, cpl M R t p a = some f ∧ okF (M 6 1) (f :: p) ∧ rT wo M' (f :: p) ∧ rK M' (f :: p) ∧ frC M M' ∧ ∀ i : Nat, 35 ≤ i → i ≤ 40 → M' i = M i) (fun M' => cpl M R t p a = none ∧ rT wo M' p ∧ rK M' p ∧ frC M M' ∧ ∀ i : Nat, 35 ≤ i → i ≤ 40 → M' i = M i)) := by
  refine Ctr.ofZ (by decide) rfl (Nat.le_of_ble_eq_true rfl) ?_
  intro K hKl hKd hRm hnm X hret
  have X : VX K cX4_fly 7 wsX4_fly RX4 := X
  show V K 7 0 0 N sh ad M L R [(0, .ref (ad 31)), (1, .int (iz a))] [] 0
  have hO1 := hO.1
  have hei := endL_in ho
  have hla := rpX_last (by omega) ho hT
  have hen := rpX_end (by omega) ho hT
  have h44 : M 44 a = -1 := by rw [(hT.2.2.2 a ha.1 (by omega)).2.1]; exact lkF_no hin
  have h16 := hP.2.2 a ha.1 (by omega)
  have hEE : ∀ k : Int, 0 ≤ k → k < 6 → inR (M 44 k + M 45 k) := fun k k1 k2 => by
    have z := hT.2.2.2 k k1 k2
    rw [z.2.1, z.2.2.1]
    rcases Bool.eq_false_or_eq_true (inF p k) with y | y
    · have x := lkF_in ho y
      exact ⟨by omega, by omega⟩
    · rw [lkF_no y, lkF_no y]; decide
  refine v_aload_n X 0 dX4_fly_0 rfl rfl ?_
  refine gt_X4_show X iwX4 (Std.lt hS rfl) (Std.k hS rfl rfl) (List.mem_cons_of_mem _ bw_6_14) dX4_fly_1 6 (Std.r hS 0 rfl) ?_
  refine v_iload_n X 1 dX4_fly_4 rfl rfl ?_
  refine v_callV X [.int (iz a)] hRm (c_X7_actAt _ _ _ hS a ⟨by omega, by omega⟩ hO) (gV bw_33_8 bw_24_6 bw_24_7 bw_1_22 bw_24_8) rfl ddX7_actAt (by decide) (Std.lt hS rfl) (Std.k hS rfl rfl) ⟨rfl, by decide⟩ (Nat.le_of_ble_eq_true rfl) dX4_fly_5 (k_pR (fun r1 e2 => ?_))
  rcases e2 with ⟨rfl, o4n⟩ | ⟨q3, rfl, o4r, o4b, o4k⟩
  · skip
    exfalso; omega
  · skip
    have q3B : 112 ≤ q3 := o4k.1
    refine v_st (st' := [.ref (ad q3)]) rfl ?_
    refine v_astore_n X [(2, .ref (ad q3)), (0, .ref (ad 31)), (1, .int (iz a))] dX4_fly_8 rfl (by decide) rfl ?_
    have hqe : aId R a = q3 := aId_of o4r
    have hq5 := o4k.2.2.2.2.1
    have hwq : wo a = M q3 2 := by rw [hwa a ha.1 ha.2]; unfold cWo; rw [hqe]
    have hwb : ∀ a : Int, 0 ≤ a → a < M 6 1 → 0 ≤ wo a ∧ wo a ≤ 100 := fun a a1 a2 => by rw [hwa a a1 a2]; exact (actId hO a1 a2).2.2.2.2.2.1.2.2.1
    refine v_aload_n X 0 dX4_fly_9 rfl rfl ?_
    refine v_ifnull X dX4_fly_10 ?_
    refine v_aload_n X 1 dX4_fly_13 rfl rfl ?_
    refine gt_X4_trial X iwX4 (Std.lt hS rfl) (Std.k hS rfl rfl) (List.mem_cons_of_mem _ bw_6_13) dX4_fly_14 41 (Std.r hS 6 rfl) ?_
    refine v_iload_n X 2 dX4_fly_17 rfl rfl ?_
    refine v_callV X [.int (iz a)] hRm (c_X3_has_41 _ _ _ hS a ⟨by omega, by omega⟩) (gV bw_34_22 bw_34_23 bw_35_0 bw_2_19 bw_35_1) rfl ddX3_has (by decide) (Std.lt hS rfl) (Std.k hS rfl rfl) ⟨rfl, by decide⟩ (Nat.le_of_ble_eq_true rfl) dX4_fly_18 (k_pB (fun q => absurd q (by omega)) (fun b5 => ?_))
    refine v_if_eq X 26 dX4_fly_21 (by decide) ⟨by decide, by decide⟩ (fun _ => ?_) (fun q => absurd (by decide) q)
    refine v_aload_n X 1 dX4_fly_26 rfl rfl ?_
    refine v_aload_n X 0 dX4_fly_27 rfl rfl ?_
    refine v_iload_n X 2 dX4_fly_28 rfl rfl ?_
    refine v_callV X [.ref (ad q3), .int (iz a)] hRm (c_X4_describe _ _ _ hS q3 a ⟨by omega, by omega⟩ o4k wo p hO hT ho) (gV bw_35_10 bw_35_11 bw_35_12 bw_2_15 bw_35_13) rfl ddX4_describe (by decide) (Std.lt hS rfl) (Std.k hS rfl rfl) ⟨rfl, by decide⟩ (Nat.le_of_ble_eq_true rfl) dX4_fly_29 (k_eV (fun M7 e6 => ?_))
    replace e6 : M7 = (mrow M 32 (ask9 (M 32) a (M q3 0) (ahL (cKd M R) p) (smF (fun n => if cPi M R n = (M q3 1) then 1 else 0) p) (M 32 4) (M 32 5) (M 6 4) (M 32 7) (M q3 2))) := e6
    subst e6
    refine v_aload_n X 1 dX4_fly_32 rfl rfl ?_
    refine gt_X4_trial X iwX4 (Std.lt hS rfl) (Std.k hS rfl rfl) (List.mem_cons_of_mem _ bw_6_13) dX4_fly_33 41 (Std.r hS 6 rfl) ?_
    refine v_callV X [] hRm (c_X3_end_41 _ _ _ hS hEE) (gV bw_36_1 bw_36_2 bw_36_3 bw_2_19 bw_36_4) rfl ddX3_end (by decide) (Std.lt hS rfl) (Std.k hS rfl rfl) ⟨rfl, by decide⟩ (Nat.le_of_ble_eq_true rfl) dX4_fly_36 (k_pI (fun r8 hr9 e10 => ?_))
    replace e10 : r8 = endL p := by rw [e10, ← hen, ← hla]; rfl
    refine v_aload_n X 1 dX4_fly_39 rfl rfl ?_
    refine gt_X4_sky X iwX4 (Std.lt hS rfl) (Std.k hS rfl rfl) (List.mem_cons_of_mem _ bw_6_15) dX4_fly_40 13 (Std.r hS 1 rfl) ?_
    refine gt_X8_ready X iwX8 (Std.lt hS rfl) (Std.k hS rfl rfl) (List.mem_cons_of_mem _ bw_35_6) dX4_fly_43 16 (Std.r hS 2 rfl) ?_
    refine v_iload_n X 2 dX4_fly_46 rfl rfl ?_
    refine v_iald X (M 16 a) (Std.lt hS rfl) (Std.at hS rfl rfl) (by omega) (by omega) dX4_fly_47 rfl (fun hr11 => ?_)
    refine v_aload_n X 0 dX4_fly_48 rfl rfl ?_
    refine gt_X0_climb X iwX0 o4k.2.1 o4k.2.2.1 (List.mem_cons_of_mem _ bw_35_7) dX4_fly_49 (M q3 3) (by rw [mrow_i _ _ (by omega)]) (fun hr12 => ?_)
    refine v_iadd X dX4_fly_52 ?_
    obtain ⟨x13, u14⟩ : ∃ z : Int, z = max r8 ((M 16 a) + (M q3 3)) := ⟨_, rfl⟩
    refine v_max X x13 hRm (List.mem_cons_of_mem _ bw_35_8) (List.mem_cons_of_mem _ bw_18_7) (List.mem_cons_of_mem _ bw_18_8) (List.mem_cons_of_mem _ bw_18_9) ⟨Nat.le_of_ble_eq_true rfl, Nat.le_of_ble_eq_true rfl, Nat.le_of_ble_eq_true rfl, Nat.le_of_ble_eq_true rfl⟩ ⟨by omega, by omega⟩ ⟨by omega, by omega⟩ u14 dX4_fly_53 ?_
    refine v_istore_n X [(3, .int (iz x13)), (2, .ref (ad q3)), (0, .ref (ad 31)), (1, .int (iz a))] dX4_fly_56 rfl (by decide) rfl ?_
    refine v_iconst X dX4_fly_57 ?_
    refine v_iload_n X 0 dX4_fly_58 rfl rfl ?_
    obtain ⟨x15, u16⟩ : ∃ z : Int, z = max 0 x13 := ⟨_, rfl⟩
    refine v_max X x15 hRm (List.mem_cons_of_mem _ bw_35_8) (List.mem_cons_of_mem _ bw_18_7) (List.mem_cons_of_mem _ bw_18_8) (List.mem_cons_of_mem _ bw_18_9) ⟨Nat.le_of_ble_eq_true rfl, Nat.le_of_ble_eq_true rfl, Nat.le_of_ble_eq_true rfl, Nat.le_of_ble_eq_true rfl⟩ ⟨by decide, by decide⟩ ⟨by omega, by omega⟩ u16 dX4_fly_59 ?_
    refine v_istore X [(4, .int (iz x15)), (3, .int (iz x13)), (2, .ref (ad q3)), (0, .ref (ad 31)), (1, .int (iz a))] dX4_fly_62 (by decide) rfl ?_
    have hl17 : ∀ (n19 : Nat) (b : Int) (x4 : Int) (x5 : Int) (x7 : Int) (g : Int → Int) (h : Int → Int), (0 ≤ b ∧ b ≤ 1000) → (fb (cOkL M R t p a) (240 - b).toNat b = cBL M R t p a) → (1000 - b).toNat < n19 → V K 7 0 0 N sh ad (mrow (mrow (mrow M 32 (ask9 (M 32) a (M q3 0) (ahL (cKd M R) p) (smF (fun n => if cPi M R n = M q3 1 then 1 else 0) p) x4 x5 (M 6 4) x7 (M q3 2))) 23 g) 30 h) L R [(0, .ref (ad 31)), (1, .int (iz a)), (2, .ref (ad q3)), (3, .int (iz x13)), (4, .int (iz b))] [] 64 := by
      intro n19
      induction n19 with
      | zero => intro b x4 x5 x7 g h hb hfb hn20; exact absurd hn20 (Nat.not_lt_zero _)
      | succ n19 ih18 =>
        intro b x4 x5 x7 g h hb hfb hn20
        refine v_iload X 4 dX4_fly_64 rfl ?_
        refine v_sipush X dX4_fly_66 (by decide) ?_
        refine v_icmp_ge X 137 dX4_fly_69 (by decide) ⟨by omega, by omega⟩ ⟨by decide, by decide⟩ (fun u21 => ?_) (fun u21 => ?_)
        · skip
          refine v_iconst X dX4_fly_137 ?_
          refine hret _ _ _ _ _ _ _ _ _ _ _ (some (.int (iz 0))) dX4_fly_138 ⟨rfl, 0, ⟨by omega, by omega⟩, rfl⟩ (by decide) (by decide) (fun hmok => ?_)
          refine ⟨rfl, rfl, rfl, rfl, rfl, 0, rfl, Or.inr ⟨rfl, ?_, hT, hK, frC_tk (fun z hz => ask9_out hz), fun i i1 i2 => (by rw [mrow_i _ _ (by omega), mrow_i _ _ (by omega), mrow_i _ _ (by omega)])⟩⟩
          unfold cpl
          rw [← hfb, fb_high (by omega), if_pos rfl]
        · skip
          have hpb := hP.2.1 b (by omega) (by omega)
          have hpl := hP.1 (a * 10 + M 14 b) (by omega) (by omega)
          refine v_aload_n X 0 dX4_fly_72 rfl rfl ?_
          refine v_iload_n X 1 dX4_fly_73 rfl rfl ?_
          refine v_iload X 4 dX4_fly_74 rfl ?_
          refine v_callV X [.int (iz a), .int (iz b)] hRm (c_X4_minutesFrom _ _ _ hS a b (by omega) (by omega) (show 0 ≤ M 14 b ∧ M 14 b ≤ 9 from (hP.2.1 b (by omega) (by omega)).1)) (gV bw_36_7 bw_36_8 bw_36_9 bw_2_15 bw_36_10) rfl ddX4_minutesFrom (by decide) (Std.lt hS rfl) (Std.k hS rfl rfl) ⟨rfl, by decide⟩ (Nat.le_of_ble_eq_true rfl) dX4_fly_76 (k_pI (fun r22 hr23 e24 => ?_))
          replace e24 : r22 = cLn M a b := e24
          rw [show M 33 (a * 10 + M 14 b) = r22 from e24.symm] at hpl
          refine v_istore X [(5, .int (iz r22)), (0, .ref (ad 31)), (1, .int (iz a)), (2, .ref (ad q3)), (3, .int (iz x13)), (4, .int (iz b))] dX4_fly_79 (by decide) rfl ?_
          refine v_iload X 0 dX4_fly_81 rfl ?_
          refine v_if_le X 108 dX4_fly_83 (by decide) ⟨by omega, by omega⟩ (fun u25 => ?_) (fun u25 => ?_)
          · skip
            refine v_iconst X dX4_fly_108 ?_
            refine v_istore X [(6, .int (iz 0)), (5, .int (iz r22)), (0, .ref (ad 31)), (1, .int (iz a)), (2, .ref (ad q3)), (3, .int (iz x13)), (4, .int (iz b))] dX4_fly_109 (by decide) rfl ?_
            refine v_iload X 0 dX4_fly_111 rfl ?_
            refine v_if_eq X 131 dX4_fly_113 (by decide) ⟨by decide, by decide⟩ (fun _ => ?_) (fun q => absurd (by decide) q)
            refine v_iinc X 6 [(4, .int (iz (b + 1))), (6, .int (iz 0)), (5, .int (iz r22)), (0, .ref (ad 31)), (1, .int (iz a)), (2, .ref (ad q3)), (3, .int (iz x13))] dX4_fly_131 rfl (by decide) rfl ?_
            refine v_goto X 64 dX4_fly_134 (by decide) ?_
            refine v_lv [3, 4, 5, 6, 0] rfl ?_
            refine v_mem (M' := (mrow (mrow (mrow M 32 (ask9 (M 32) a (M q3 0) (ahL (cKd M R) p) (smF (fun n => if cPi M R n = M q3 1 then 1 else 0) p) x4 x5 (M 6 4) x7 (M q3 2))) 23 g) 30 h)) (by rfl) rfl rfl ?_
            exact ih18 (b + 1) x4 x5 x7 g h (by omega) (by rw [← hfb]; exact (fb_miss (ok := cOkL M R t p a) (b := b) (by omega) (Bool.eq_false_iff.mpr (fun z => by have z := (cOkL_iff.mp z).1; rw [← e24] at z; omega))).symm) (by omega)
          · skip
            refine v_iload X 5 dX4_fly_86 rfl ?_
            refine v_iload X 0 dX4_fly_88 rfl ?_
            refine v_iadd X dX4_fly_90 ?_
            refine v_aload_n X 1 dX4_fly_91 rfl rfl ?_
            refine gt_X4_sky X iwX4 (Std.lt hS rfl) (Std.k hS rfl rfl) (List.mem_cons_of_mem _ bw_6_15) dX4_fly_92 13 (Std.r hS 1 rfl) ?_
            refine gt_X8_openTill X iwX8 (Std.lt hS rfl) (Std.k hS rfl rfl) (List.mem_cons_of_mem _ bw_35_9) dX4_fly_95 15 (Std.r hS 1 rfl) ?_
            refine v_iload X 5 dX4_fly_98 rfl ?_
            refine v_iald X (M 15 b) (Std.lt hS rfl) (Std.at hS rfl rfl) (by omega) (by omega) dX4_fly_100 rfl (fun hr26 => ?_)
            refine v_icmp_gt X 108 dX4_fly_101 (by decide) ⟨by omega, by omega⟩ ⟨by omega, by omega⟩ (fun u27 => ?_) (fun u27 => ?_)
            · skip
              refine v_iconst X dX4_fly_108 ?_
              refine v_istore X [(6, .int (iz 0)), (5, .int (iz r22)), (0, .ref (ad 31)), (1, .int (iz a)), (2, .ref (ad q3)), (3, .int (iz x13)), (4, .int (iz b))] dX4_fly_109 (by decide) rfl ?_
              refine v_iload X 0 dX4_fly_111 rfl ?_
              refine v_if_eq X 131 dX4_fly_113 (by decide) ⟨by decide, by decide⟩ (fun _ => ?_) (fun q => absurd (by decide) q)
              refine v_iinc X 6 [(4, .int (iz (b + 1))), (6, .int (iz 0)), (5, .int (iz r22)), (0, .ref (ad 31)), (1, .int (iz a)), (2, .ref (ad q3)), (3, .int (iz x13))] dX4_fly_131 rfl (by decide) rfl ?_
              refine v_goto X 64 dX4_fly_134 (by decide) ?_
              refine v_lv [3, 4, 5, 6, 0] rfl ?_
              refine v_mem (M' := (mrow (mrow (mrow M 32 (ask9 (M 32) a (M q3 0) (ahL (cKd M R) p) (smF (fun n => if cPi M R n = M q3 1 then 1 else 0) p) x4 x5 (M 6 4) x7 (M q3 2))) 23 g) 30 h)) (by rfl) rfl rfl ?_
              exact ih18 (b + 1) x4 x5 x7 g h (by omega) (by rw [← hfb]; exact (fb_miss (ok := cOkL M R t p a) (b := b) (by omega) (Bool.eq_false_iff.mpr (fun z => by have z := (cOkL_iff.mp z).1; rw [← e24] at z; omega))).symm) (by omega)
            · skip
              refine v_iconst X dX4_fly_104 ?_
              refine v_goto X 109 dX4_fly_105 (by decide) ?_
              refine v_istore X [(6, .int (iz 1)), (5, .int (iz r22)), (0, .ref (ad 31)), (1, .int (iz a)), (2, .ref (ad q3)), (3, .int (iz x13)), (4, .int (iz b))] dX4_fly_109 (by decide) rfl ?_
              refine v_iload X 0 dX4_fly_111 rfl ?_
              refine v_if_eq X 131 dX4_fly_113 (by decide) ⟨by decide, by decide⟩ (fun q => absurd q (by decide)) (fun _ => ?_)
              refine v_aload_n X 2 dX4_fly_116 rfl rfl ?_
              refine v_aload_n X 4 dX4_fly_117 rfl rfl ?_
              refine v_iload_n X 3 dX4_fly_118 rfl rfl ?_
              refine v_iload X 6 dX4_fly_119 rfl ?_
              refine v_iload X 1 dX4_fly_121 rfl ?_
              refine v_callV X [.ref (ad q3), .int (iz a), .int (iz b), .int (iz r22)] hRm (c_X4_flyFrom _ _ _ (M := (mrow (mrow (mrow M 32 (ask9 (M 32) a (M q3 0) (ahL (cKd M R) p) (smF (fun n => if cPi M R n = M q3 1 then 1 else 0) p) x4 x5 (M 6 4) x7 (M q3 2))) 23 g) 30 h)) hS q3 a b r22 ha (ActOk_fr (show frC M (mrow (mrow (mrow M 32 (ask9 (M 32) a (M q3 0) (ahL (cKd M R) p) (smF (fun n => if cPi M R n = M q3 1 then 1 else 0) p) x4 x5 (M 6 4) x7 (M q3 2))) 23 g) 30 h) from frC_tk (fun z hz => ask9_out hz)) o4k) ⟨by omega, by omega⟩ ⟨by omega, by omega⟩ (by omega) wo p t ht hRt (cTxt_fr (show frC M (mrow (mrow (mrow M 32 (ask9 (M 32) a (M q3 0) (ahL (cKd M R) p) (smF (fun n => if cPi M R n = M q3 1 then 1 else 0) p) x4 x5 (M 6 4) x7 (M q3 2))) 23 g) 30 h) from frC_tk (fun z hz => ask9_out hz)) ht hX) (ShowOk_fr (show frC M (mrow (mrow (mrow M 32 (ask9 (M 32) a (M q3 0) (ahL (cKd M R) p) (smF (fun n => if cPi M R n = M q3 1 then 1 else 0) p) x4 x5 (M 6 4) x7 (M q3 2))) 23 g) 30 h) from frC_tk (fun z hz => ask9_out hz)) hO) hT hK ho hin (hwq.trans (congrFun (((show frC M (mrow (mrow (mrow M 32 (ask9 (M 32) a (M q3 0) (ahL (cKd M R) p) (smF (fun n => if cPi M R n = M q3 1 then 1 else 0) p) x4 x5 (M 6 4) x7 (M q3 2))) 23 g) 30 h) from frC_tk (fun z hz => ask9_out hz))).1 q3 (by omega)) 2).symm) hwb h16) (gV bw_36_12 bw_36_13 bw_36_14 bw_2_15 bw_36_15) rfl ddX4_flyFrom (by decide) (Std.lt hS rfl) (Std.k hS rfl rfl) ⟨rfl, by decide⟩ (Nat.le_of_ble_eq_true rfl) dX4_fly_123 (k_eB (fun M28 e29 => ?_) (fun M28 e29 => ?_))
              · skip
                have hcv : cvR M R p a b = (ask9 (M 32) a (M q3 0) (ahL (cKd M R) p) (smF (fun n => if cPi M R n = M q3 1 then 1 else 0) p) (M 14 b) b (M 6 4) r22 (M q3 2)) := by unfold cvR cKd cPi cWo; rw [hqe, ← e24]
                obtain ⟨y1, y2, y3, y4, y5, y6⟩ := e29
                rw [flyOk_fr (show frC M (mrow (mrow (mrow M 32 (ask9 (M 32) a (M q3 0) (ahL (cKd M R) p) (smF (fun n => if cPi M R n = M q3 1 then 1 else 0) p) x4 x5 (M 6 4) x7 (M q3 2))) 23 g) 30 h) from frC_tk (fun z hz => ask9_out hz)) ht (by omega)] at y1
                have hok : cOkL M R t p a b = true := cOkL_iff.mpr ⟨by rw [← e24]; omega, by rw [hqe, ← e24, hcv]; exact (congrArg (fun v => flyOk M t p q3 a b r22 v) (ask9_ask9 _ _ _ _ _ _ _ _ _ _ _ _ _ _ _ _ _ _ _)).symm.trans y1⟩
                have hbb : cBL M R t p a = b := by rw [← hfb, fb_hit (by omega) hok]
                refine v_if_eq X 131 dX4_fly_126 (by decide) ⟨by decide, by decide⟩ (fun q => absurd q (by decide)) (fun _ => ?_)
                refine v_iconst X dX4_fly_129 ?_
                refine hret _ _ _ _ _ _ _ _ _ _ _ (some (.int (iz 1))) dX4_fly_130 ⟨rfl, 1, ⟨by omega, by omega⟩, rfl⟩ (by decide) (by decide) (fun hmok => ?_)
                have hTT : fT M p q3 a b = fT (mrow (mrow (mrow M 32 (ask9 (M 32) a (M q3 0) (ahL (cKd M R) p) (smF (fun n => if cPi M R n = M q3 1 then 1 else 0) p) x4 x5 (M 6 4) x7 (M q3 2))) 23 g) 30 h) p q3 a b := by unfold fT; rw [((show frC M (mrow (mrow (mrow M 32 (ask9 (M 32) a (M q3 0) (ahL (cKd M R) p) (smF (fun n => if cPi M R n = M q3 1 then 1 else 0) p) x4 x5 (M 6 4) x7 (M q3 2))) 23 g) 30 h) from frC_tk (fun z hz => ask9_out hz))).1 q3 (by omega), ((show frC M (mrow (mrow (mrow M 32 (ask9 (M 32) a (M q3 0) (ahL (cKd M R) p) (smF (fun n => if cPi M R n = M q3 1 then 1 else 0) p) x4 x5 (M 6 4) x7 (M q3 2))) 23 g) 30 h) from frC_tk (fun z hz => ask9_out hz))).1 16 (by omega)]
                have hLL : fL M p q3 b r22 = fL (mrow (mrow (mrow M 32 (ask9 (M 32) a (M q3 0) (ahL (cKd M R) p) (smF (fun n => if cPi M R n = M q3 1 then 1 else 0) p) x4 x5 (M 6 4) x7 (M q3 2))) 23 g) 30 h) p q3 b r22 := by unfold fL; rw [((show frC M (mrow (mrow (mrow M 32 (ask9 (M 32) a (M q3 0) (ahL (cKd M R) p) (smF (fun n => if cPi M R n = M q3 1 then 1 else 0) p) x4 x5 (M 6 4) x7 (M q3 2))) 23 g) 30 h) from frC_tk (fun z hz => ask9_out hz))).1 q3 (by omega)]
                refine ⟨rfl, rfl, rfl, rfl, rfl, 1, rfl, Or.inl ⟨rfl, _, ?_, y2, y3, y4, frC_trans (show frC M (mrow (mrow (mrow M 32 (ask9 (M 32) a (M q3 0) (ahL (cKd M R) p) (smF (fun n => if cPi M R n = M q3 1 then 1 else 0) p) x4 x5 (M 6 4) x7 (M q3 2))) 23 g) 30 h) from frC_tk (fun z hz => ask9_out hz)) y5, fun i i1 i2 => (y6 i i1 i2).trans (by rw [mrow_i _ _ (by omega), mrow_i _ _ (by omega), mrow_i _ _ (by omega)])⟩⟩
                unfold cpl
                rw [hbb, if_neg (by omega), hqe, ← e24, hTT, hLL]
              · skip
                have hcv : cvR M R p a b = (ask9 (M 32) a (M q3 0) (ahL (cKd M R) p) (smF (fun n => if cPi M R n = M q3 1 then 1 else 0) p) (M 14 b) b (M 6 4) r22 (M q3 2)) := by unfold cvR cKd cPi cWo; rw [hqe, ← e24]
                obtain ⟨y1, x4n, x5n, x7n, gn, hn9, ym⟩ := e29
                replace ym : M28 = (mrow (mrow (mrow M 32 (ask9 (M 32) a (M q3 0) (ahL (cKd M R) p) (smF (fun n => if cPi M R n = M q3 1 then 1 else 0) p) x4n x5n (M 6 4) x7n (M q3 2))) 23 gn) 30 hn9) := ym.trans ((mrow3 _ _ _ _ _ _ _).trans (by congr 3; exact ask9_ask9 _ _ _ _ _ _ _ _ _ _ _ _ _ _ _ _ _ _ _))
                subst ym
                rw [flyOk_fr (show frC M (mrow (mrow (mrow M 32 (ask9 (M 32) a (M q3 0) (ahL (cKd M R) p) (smF (fun n => if cPi M R n = M q3 1 then 1 else 0) p) x4 x5 (M 6 4) x7 (M q3 2))) 23 g) 30 h) from frC_tk (fun z hz => ask9_out hz)) ht (by omega)] at y1
                have hno : cOkL M R t p a b = false := Bool.eq_false_iff.mpr (fun z => by have z := (cOkL_iff.mp z).2; rw [hqe, ← e24, hcv] at z; have y9 : flyOk M t p q3 a b r22 (ask9 (M 32) a (M q3 0) (ahL (cKd M R) p) (smF (fun n => if cPi M R n = M q3 1 then 1 else 0) p) (M 14 b) b (M 6 4) r22 (M q3 2)) = false := (congrArg (fun v => flyOk M t p q3 a b r22 v) (ask9_ask9 _ _ _ _ _ _ _ _ _ _ _ _ _ _ _ _ _ _ _)).symm.trans y1; rw [z] at y9; cases y9)
                refine v_if_eq X 131 dX4_fly_126 (by decide) ⟨by decide, by decide⟩ (fun _ => ?_) (fun q => absurd (by decide) q)
                refine v_iinc X 6 [(4, .int (iz (b + 1))), (6, .int (iz 1)), (5, .int (iz r22)), (0, .ref (ad 31)), (1, .int (iz a)), (2, .ref (ad q3)), (3, .int (iz x13))] dX4_fly_131 rfl (by decide) rfl ?_
                refine v_goto X 64 dX4_fly_134 (by decide) ?_
                refine v_lv [3, 4, 5, 6, 0] rfl ?_
                refine v_mem (M' := (mrow (mrow (mrow M 32 (ask9 (M 32) a (M q3 0) (ahL (cKd M R) p) (smF (fun n => if cPi M R n = M q3 1 then 1 else 0) p) x4n x5n (M 6 4) x7n (M q3 2))) 23 gn) 30 hn9)) (by rfl) rfl rfl ?_
                exact ih18 (b + 1) x4n x5n x7n gn hn9 (by omega) (by rw [← hfb]; exact (fb_miss (ok := cOkL M R t p a) (b := b) (by omega) hno).symm) (by omega)
    refine v_lv [3, 4, 2, 1, 0] rfl ?_
    refine v_mem (M' := (mrow (mrow (mrow M 32 (ask9 (M 32) a (M q3 0) (ahL (cKd M R) p) (smF (fun n => if cPi M R n = M q3 1 then 1 else 0) p) (M 32 4) (M 32 5) (M 6 4) (M 32 7) (M q3 2))) 23 (M 23)) 30 (M 30))) (by exact mrow_2330 _) rfl rfl ?_
    exact hl17 _ x15 (M 32 4) (M 32 5) (M 32 7) (M 23) (M 30) (by omega) (by rw [show x15 = cSt M R p a by unfold cSt cCl; rw [hqe]; omega]; rfl) (Nat.lt_succ_self _)

