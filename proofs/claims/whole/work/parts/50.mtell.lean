-- tellRule
set_option maxHeartbeats 4000000 in
set_option maxRecDepth 100000 in
theorem c_X12_tellRule (l : Launch) (D : va_G) (cy : Nat → ClassId) {N : Nat} {sh : MS} {ad : Nat → Nat} {M L : MI} {R : MR} (hS : Std N sh R) (f : Int → Int) (n : Int) (c0 : CSt) (s : Int) (t : Nat) (hs : s = 0 ∨ s = 1) (hT : tokOk (bt f n) n M) (hTS : TS (bt f n) n c0 s t M) (hE : kdT (bt f n) n t ≠ 26) (h0 : szC c0 ≤ 0) : Ctr l D cy yX12_tellRule wsX12_tellRule ({ frames := 4, cells := 0, slots := 0, locals := 93 } : Room) N sh ad M L R [.ref (ad 53)] (eV N sh ad L R (fun M' => (FlT (bt f n) n c0 M' ∨ ∃ t1 : Nat, t < t1 ∧ TS (bt f n) n c0 s t1 M') ∧ frS s M M')) := by
  refine Ctr.ofV (by decide) rfl (Nat.le_of_ble_eq_true rfl) ?_
  intro K hKl hKd hRm hnm X hret
  have X : VX K cX12_tellRule 4 wsX12_tellRule RX12 := X
  show V K 4 0 0 N sh ad M L R [(0, .ref (ad 53))] [] 0
  obtain ⟨sd, cz0, rz, cd0, rk, rs, rc, re, hG, hc, ⟨a11, a12, a13, a19, a61⟩, ⟨b1, b2, b3, b4⟩, ⟨r1, r2⟩, hO⟩ := hTS
  have hAll : M 53 11 = (t : Int) ∧ M 53 12 = 0 ∧ M 53 13 = 0 ∧ M 53 19 = s ∧ M 61 s = rz := ⟨a11, a12, a13, a19, a61⟩
  have hG1 := hG.1
  have hsz : cz0 ≤ (t : Int) := by have q := cm_sz (g := bt f n) (n := n) h0 t; rw [hc] at q; unfold szC at q; dsimp only at q; simp only [List.length_nil] at q; omega
  have hz0 : 0 ≤ cz0 := by omega
  have a61b : M 61 (M 53 19) = rz := by rw [a19]; exact a61
  have aK := GT_tok hG hT
  rw [← a11] at aK
  obtain ⟨aC, aP, aV⟩ := aK
  obtain ⟨i0, hi0⟩ : ∃ z : Int, z = 16 * (M 53 19) + M 61 (M 53 19) := ⟨_, rfl⟩
  have hix : i0 = 16 * s + rz := by omega
  have hj1 : ∀ (Mx : MI) (t2 : Nat) (nr : Nat) (orf : Int) (pend : List Int) (czx : Int) (cdx : Int → Int) (cc : Int) (kd : Int) (q0 : Int) (rcx : Int → Int), (LI (bt f n) n c0 s rz cz0 cc kd i0 q0 rk rs rc re rcx t2 nr orf pend czx cdx Mx) → (t < t2) → (frS s M Mx) → (0 ≤ orf ∧ orf < 2) → (rz < 16) →  V K 4 0 0 N sh ad Mx L R [(0, .ref (ad 53)), (1, .int (iz i0)), (2, .int (iz 1)), (3, .int (iz orf))] [] 201 := by
    intro Mx t2 nr orf pend czx cdx cc kd q0 rcx hL ht2 hfx hor hr16
    have hl2 : ∀ (n4 : Nat) (Mx : MI) (t2 : Nat) (nr : Nat) (orf : Int) (pend : List Int) (czx : Int) (cdx : Int → Int) (cc : Int) (kd : Int) (q0 : Int) (rcx : Int → Int), (LI (bt f n) n c0 s rz cz0 cc kd i0 q0 rk rs rc re rcx t2 nr orf pend czx cdx Mx) → (t < t2) → (frS s M Mx) → (0 ≤ orf ∧ orf < 2) → (rz < 16) → 401 - t2 < n4 → V K 4 0 0 N sh ad Mx L R [(0, .ref (ad 53)), (1, .int (iz i0)), (2, .int (iz 1)), (3, .int (iz orf))] [] 201 := by
      intro n4
      induction n4 with
      | zero => intro Mx t2 nr orf pend czx cdx cc kd q0 rcx hL ht2 hfx hor hr16 hn5; exact absurd hn5 (Nat.not_lt_zero _)
      | succ n4 ih3 =>
        intro Mx t2 nr orf pend czx cdx cc kd q0 rcx hL ht2 hfx hor hr16 hn5
        obtain ⟨xG, xc, xH, xq, xP, xW⟩ := id hL
        obtain ⟨x11, x12, x13, x19, x61⟩ := xH.1
        obtain ⟨y1, y2⟩ := xH.2.1
        obtain ⟨y3, y4, y5⟩ := xH.2.2.1
        obtain ⟨y8, y9, y10⟩ := xH.2.2.2.2.2.1
        have x400 := xG.1
        have xsz : czx ≤ (t2 : Int) := by have q := cm_sz (g := bt f n) (n := n) h0 t2; rw [xc] at q; unfold szC at q; dsimp only at q; omega
        refine v_iload_n X 2 dX12_tellRule_201 rfl rfl ?_
        refine v_if_eq X 254 dX12_tellRule_202 (by decide) ⟨by decide, by decide⟩ (fun q => absurd q (by decide)) (fun _ => ?_)
        refine v_aload_n X 0 dX12_tellRule_205 rfl rfl ?_
        refine gt_X12_fault X iwX12 (Std.lt hS rfl) (Std.k hS rfl rfl) (List.mem_cons_of_mem _ bw_19_13) dX12_tellRule_206 (Mx 53 13) rfl (fun hr6 => ?_)
        refine v_if_ne X 254 dX12_tellRule_209 (by decide) ⟨by omega, by omega⟩ (fun q => absurd q (by omega)) (fun u7 => ?_)
        refine v_aload_n X 0 dX12_tellRule_212 rfl rfl ?_
        refine v_iload_n X 3 dX12_tellRule_213 rfl rfl ?_
        refine v_callV X [.int (iz orf)] hRm (c_X12_relation _ _ _ hS f n c0 pend czx cdx (rz, fu rk rz kd, fu rs rz cz0, rcx, re) (Mx 53 32) s (q0 + (nr : Int)) orf t2 hor hs (frS_tok hfx hT) xG xc (CP_pend xP).1 (CP_pend xP).2 (by omega) h0 x11 x12 x13 rfl x19 xq (by omega) (by omega)) (gV bw_22_3 bw_22_4 bw_22_5 bw_1_5 bw_22_6) rfl ddX12_relation (by decide) (Std.lt hS rfl) (Std.k hS rfl rfl) ⟨rfl, by decide⟩ (Nat.le_of_ble_eq_true rfl) dX12_tellRule_214 (k_eV (fun Mr e2 => ?_))
        rcases e2 with ⟨efl, ef2⟩ | ⟨tq, htq, hRE, ef2⟩
        · skip
          have efp : 0 < Mr 53 13 := by obtain ⟨_, F9, _, _, f3, f4, _, _⟩ := efl; omega
          have efb : 0 ≤ Mr 53 11 ∧ Mr 53 11 ≤ 400 := by obtain ⟨_, F9, _, _, f3, f4, _, f6⟩ := efl; exact f6
          have hfr9 : frS s M Mr := frS_trans hfx (frE_S ef2 (by omega) (by omega))
          refine v_aload_n X 0 dX12_tellRule_217 rfl rfl ?_
          refine v_bipush X dX12_tellRule_218 (by decide) ?_
          refine v_callV X [.int (iz 24)] hRm (c_X12_is _ _ _ hS 24 ⟨by decide, by decide⟩ (show 0 ≤ (Mr 53 11) ∧ (Mr 53 11) < 403 by omega)) (gV bw_20_18 bw_20_19 bw_20_20 bw_1_5 bw_20_21) rfl ddX12_is (by decide) (Std.lt hS rfl) (Std.k hS rfl rfl) ⟨rfl, by decide⟩ (Nat.le_of_ble_eq_true rfl) dX12_tellRule_220 (k_pB (fun q => absurd (show ((Mr 53 13) : Int) = 0 from q.1) (by omega)) (fun _ => ?_))
          refine v_istore_n X [(3, .int (iz 0)), (0, .ref (ad 53)), (1, .int (iz i0)), (2, .int (iz 1))] dX12_tellRule_223 rfl (by decide) rfl ?_
          refine v_iload_n X 0 dX12_tellRule_224 rfl rfl ?_
          refine v_if_ne X 237 dX12_tellRule_225 (by decide) ⟨by decide, by decide⟩ (fun q => absurd q (by decide)) (fun _ => ?_)
          refine v_aload_n X 1 dX12_tellRule_228 rfl rfl ?_
          refine v_bipush X dX12_tellRule_229 (by decide) ?_
          refine v_callV X [.int (iz 25)] hRm (c_X12_is _ _ _ hS 25 ⟨by decide, by decide⟩ (show 0 ≤ (Mr 53 11) ∧ (Mr 53 11) < 403 by omega)) (gV bw_20_18 bw_20_19 bw_20_20 bw_1_5 bw_20_21) rfl ddX12_is (by decide) (Std.lt hS rfl) (Std.k hS rfl rfl) ⟨rfl, by decide⟩ (Nat.le_of_ble_eq_true rfl) dX12_tellRule_231 (k_pB (fun q => absurd (show ((Mr 53 13) : Int) = 0 from q.1) (by omega)) (fun _ => ?_))
          refine v_if_eq X 241 dX12_tellRule_234 (by decide) ⟨by decide, by decide⟩ (fun _ => ?_) (fun q => absurd (by decide) q)
          refine v_iconst X dX12_tellRule_241 ?_
          refine v_istore_n X [(2, .int (iz 0)), (3, .int (iz 0)), (0, .ref (ad 53)), (1, .int (iz i0))] dX12_tellRule_242 rfl (by decide) rfl ?_
          refine v_iload_n X 0 dX12_tellRule_243 rfl rfl ?_
          refine v_if_eq X 201 dX12_tellRule_244 (by decide) ⟨by decide, by decide⟩ (fun _ => ?_) (fun q => absurd (by decide) q)
          refine v_iload_n X 0 dX12_tellRule_201 rfl rfl ?_
          refine v_if_eq X 254 dX12_tellRule_202 (by decide) ⟨by decide, by decide⟩ (fun _ => ?_) (fun q => absurd (by decide) q)
          refine v_aload_n X 2 dX12_tellRule_254 rfl rfl ?_
          refine v_iconst X dX12_tellRule_255 ?_
          refine v_callV X [.int (iz 4)] hRm (c_X12_must _ _ _ hS 4 ⟨by decide, by decide⟩ (show 0 ≤ (Mr 53 11) ∧ (Mr 53 11) ≤ 400 by omega)) (gV bw_21_23 bw_22_0 bw_22_1 bw_1_5 bw_22_2) rfl ddX12_must (by decide) (Std.lt hS rfl) (Std.k hS rfl rfl) ⟨rfl, by decide⟩ (Nat.le_of_ble_eq_true rfl) dX12_tellRule_256 (k_eV (fun M8 e9 => ?_))
          replace e9 : M8 = Mr := e9.trans ((if_neg (fun z => absurd (show ((Mr 53 13) : Int) = 0 from z.1) (by omega))).trans (mFail_y (show 0 < (Mr 53 13) by omega)))
          rw [e9]
          refine v_aload_n X 2 dX12_tellRule_259 rfl rfl ?_
          refine gt_X12_fault X iwX12 (Std.lt hS rfl) (Std.k hS rfl rfl) (List.mem_cons_of_mem _ bw_19_13) dX12_tellRule_260 (Mr 53 13) rfl (fun hr10 => ?_)
          refine v_if_le X 267 dX12_tellRule_263 (by decide) ⟨by omega, by omega⟩ (fun q => absurd q (by omega)) (fun u11 => ?_)
          refine hret _ _ _ _ _ _ _ _ _ _ _ none dX12_tellRule_266 ⟨rfl, rfl⟩ (by decide) (by decide) (fun hmok => ?_)
          obtain ⟨t9, F9, f1, f2, f3, f4, f5, f6⟩ := efl
          exact ⟨rfl, rfl, rfl, rfl, rfl, rfl, Or.inl ⟨t9, F9, f1, f2, f3, f4, f5, show 0 ≤ (Mr 53 11) ∧ (Mr 53 11) ≤ 400 by omega⟩, hfr9⟩
        · skip
          obtain ⟨wq, kq, zq, dq, hQ⟩ := LI_RE hL hix hs rfl hor hRE ef2 htq
          have hfr9 : frS s M Mr := frS_trans hfx (frL_S ef2 (by omega) (by omega) (by have := hRE; have := hQ.1.1; omega))
          have qG := hQ.1
          have qc := hQ.2.1
          have qn := hQ.2.2.2.2.2.2.2.2.2.2
          obtain ⟨q11, q12, q13, q19, q61⟩ := hQ.2.2.2.2.1.1
          have q400 := qG.1
          have qK := GT_tok qG (frS_tok hfr9 hT)
          rw [← q11] at qK
          obtain ⟨qC, qP, qV⟩ := qK
          refine v_aload_n X 0 dX12_tellRule_217 rfl rfl ?_
          refine v_bipush X dX12_tellRule_218 (by decide) ?_
          refine v_callV X [.int (iz 24)] hRm (c_X12_is _ _ _ hS 24 ⟨by decide, by decide⟩ (show 0 ≤ (Mr 53 11) ∧ (Mr 53 11) < 403 by omega)) (gV bw_20_18 bw_20_19 bw_20_20 bw_1_5 bw_20_21) rfl ddX12_is (by decide) (Std.lt hS rfl) (Std.k hS rfl rfl) ⟨rfl, by decide⟩ (Nat.le_of_ble_eq_true rfl) dX12_tellRule_220 (k_pB (fun b12 => ?_) (fun b12 => ?_))
          · skip
            replace b12 : Mr 56 (Mr 53 11) = 24 := b12.2
            have bk13 : kdT (bt f n) n tq = 4 := by rw [← qC, b12]; rfl
            refine v_istore_n X [(3, .int (iz 1)), (0, .ref (ad 53)), (1, .int (iz i0)), (2, .int (iz 1))] dX12_tellRule_223 rfl (by decide) rfl ?_
            refine v_iload_n X 0 dX12_tellRule_224 rfl rfl ?_
            refine v_if_ne X 237 dX12_tellRule_225 (by decide) ⟨by decide, by decide⟩ (fun _ => ?_) (fun q => absurd (by decide) q)
            refine v_iconst X dX12_tellRule_237 ?_
            refine v_goto X 242 dX12_tellRule_238 (by decide) ?_
            refine v_istore_n X [(2, .int (iz 1)), (3, .int (iz 1)), (0, .ref (ad 53)), (1, .int (iz i0))] dX12_tellRule_242 rfl (by decide) rfl ?_
            refine v_iload_n X 0 dX12_tellRule_243 rfl rfl ?_
            refine v_if_eq X 201 dX12_tellRule_244 (by decide) ⟨by decide, by decide⟩ (fun q => absurd q (by decide)) (fun _ => ?_)
            refine v_aload_n X 2 dX12_tellRule_247 rfl rfl ?_
            refine v_callV X [] hRm (c_X12_next _ _ _ hS (show 0 ≤ (Mr 53 11) ∧ (Mr 53 11) ≤ 400 by omega)) (gV bw_21_6 bw_21_7 bw_21_8 bw_1_5 bw_21_9) rfl ddX12_next (by decide) (Std.lt hS rfl) (Std.k hS rfl rfl) ⟨rfl, by decide⟩ (Nat.le_of_ble_eq_true rfl) dX12_tellRule_248 (k_eV (fun M14 e15 => ?_))
            by_cases ht16 : (Mr 53 11) = 400
            · skip
              replace e15 : M14 = (mu (mu Mr 53 13 2) 53 14 (Mr 57 (Mr 53 11))) := e15.trans (mNext_full (show (Mr 53 11) = 400 from ht16) (show ¬ 0 < (Mr 53 13) by omega))
              subst e15
              have flq17 : FlT (bt f n) n c0 (mu (mu Mr 53 13 2) 53 14 (Mr 57 (Mr 53 11))) := FlT_mk qG qc (Or.inr ⟨rfl, Or.inr (Or.inr (Or.inr ⟨ng3, Or.inr (Or.inr (Or.inr (Or.inr ⟨by decide, by decide, by decide, by omega⟩)))⟩)), Or.inl (by omega)⟩) rfl (show (Mr 57 (Mr 53 11)) = _ by exact qP) (show 0 ≤ (Mr 53 11) ∧ (Mr 53 11) ≤ 400 by omega)
              refine v_goto X 201 dX12_tellRule_251 (by decide) ?_
              refine v_iload_n X 0 dX12_tellRule_201 rfl rfl ?_
              refine v_if_eq X 254 dX12_tellRule_202 (by decide) ⟨by decide, by decide⟩ (fun q => absurd q (by decide)) (fun _ => ?_)
              refine v_aload_n X 2 dX12_tellRule_205 rfl rfl ?_
              refine gt_X12_fault X iwX12 (Std.lt hS rfl) (Std.k hS rfl rfl) (List.mem_cons_of_mem _ bw_19_13) dX12_tellRule_206 2 rfl (fun hr18 => ?_)
              refine v_if_ne X 254 dX12_tellRule_209 (by decide) ⟨by decide, by decide⟩ (fun _ => ?_) (fun q => absurd (by decide) q)
              refine v_aload_n X 2 dX12_tellRule_254 rfl rfl ?_
              refine v_iconst X dX12_tellRule_255 ?_
              refine v_callV X [.int (iz 4)] hRm (c_X12_must _ _ _ hS 4 ⟨by decide, by decide⟩ (show 0 ≤ (Mr 53 11) ∧ (Mr 53 11) ≤ 400 by omega)) (gV bw_21_23 bw_22_0 bw_22_1 bw_1_5 bw_22_2) rfl ddX12_must (by decide) (Std.lt hS rfl) (Std.k hS rfl rfl) ⟨rfl, by decide⟩ (Nat.le_of_ble_eq_true rfl) dX12_tellRule_256 (k_eV (fun M19 e20 => ?_))
              replace e20 : M19 = (mu (mu Mr 53 13 2) 53 14 (Mr 57 (Mr 53 11))) := e20.trans ((if_neg (fun z => absurd (show (2 : Int) = 0 from z.1) (by omega))).trans (mFail_y (show 0 < 2 by omega)))
              rw [e20]
              refine v_aload_n X 2 dX12_tellRule_259 rfl rfl ?_
              refine gt_X12_fault X iwX12 (Std.lt hS rfl) (Std.k hS rfl rfl) (List.mem_cons_of_mem _ bw_19_13) dX12_tellRule_260 2 rfl (fun hr21 => ?_)
              refine v_if_le X 267 dX12_tellRule_263 (by decide) ⟨by decide, by decide⟩ (fun q => absurd q (by decide)) (fun _ => ?_)
              refine hret _ _ _ _ _ _ _ _ _ _ _ none dX12_tellRule_266 ⟨rfl, rfl⟩ (by decide) (by decide) (fun hmok => ?_)
              obtain ⟨t9, F9, f1, f2, f3, f4, f5, f6⟩ := flq17
              exact ⟨rfl, rfl, rfl, rfl, rfl, rfl, Or.inl ⟨t9, F9, f1, f2, f3, f4, f5, show 0 ≤ (Mr 53 11) ∧ (Mr 53 11) ≤ 400 by omega⟩, (frS_trans hfr9 (show frS s Mr (mu (mu Mr 53 13 2) 53 14 (Mr 57 (Mr 53 11))) from ⟨fun i i1 i2 => (by rw [mu_i _ _ _ (by omega), mu_i _ _ _ (by omega)]), fun z z1 z2 z3 z4 z5 z6 => (by rw [mu_z _ _ _ z4, mu_z _ _ _ z3]), fun z hz => ⟨(by rw [mu_i _ _ _ (by decide), mu_i _ _ _ (by decide)]), (by rw [mu_i _ _ _ (by decide), mu_i _ _ _ (by decide)])⟩, fun i i1 i2 z hz => (by rcases (show i = 62 ∨ i = 63 ∨ i = 64 ∨ i = 65 ∨ i = 66 by omega) with h9 | h9 | h9 | h9 | h9; (subst h9; rw [mu_i _ _ _ (by decide), mu_i _ _ _ (by decide)]); (subst h9; rw [mu_i _ _ _ (by decide), mu_i _ _ _ (by decide)]); (subst h9; rw [mu_i _ _ _ (by decide), mu_i _ _ _ (by decide)]); (subst h9; rw [mu_i _ _ _ (by decide), mu_i _ _ _ (by decide)]); (subst h9; rw [mu_i _ _ _ (by decide), mu_i _ _ _ (by decide)])), fun i i1 i2 z hz => (by rw [mu_i _ _ _ (by omega), mu_i _ _ _ (by omega)]), fun z hz => ⟨(by rw [mu_i _ _ _ (by decide), mu_i _ _ _ (by decide)]), (by rw [mu_i _ _ _ (by decide), mu_i _ _ _ (by decide)])⟩⟩))⟩
            · skip
              replace e15 : M14 = (mu Mr 53 11 ((Mr 53 11) + 1)) := e15.trans (mNext_go (show (Mr 53 11) ≠ 400 from ht16))
              subst e15
              obtain ⟨pn9, zn9, dn9, hLn⟩ := LQ_con hQ (by omega) (by omega) (M' := (mu Mr 53 11 ((Mr 53 11) + 1))) (fun j hj => mu_i _ _ _ hj) (fun z hz => mu_z _ _ _ hz) (show Mr 53 11 + 1 = _ by omega)
              rw [if_pos (by omega)] at hLn
              refine v_goto X 201 dX12_tellRule_251 (by decide) ?_
              refine v_lv [2, 3, 0, 1] rfl ?_
              exact ih3 (mu Mr 53 11 ((Mr 53 11) + 1)) (tq + 1) (nr + 1) 1 pn9 zn9 dn9 cc kd q0 rcx (hLn) (by omega) ((frS_trans hfr9 (show frS s Mr (mu Mr 53 11 ((Mr 53 11) + 1)) from ⟨fun i i1 i2 => (by rw [mu_i _ _ _ (by omega)]), fun z z1 z2 z3 z4 z5 z6 => (by rw [mu_z _ _ _ z1]), fun z hz => ⟨(by rw [mu_i _ _ _ (by decide)]), (by rw [mu_i _ _ _ (by decide)])⟩, fun i i1 i2 z hz => (by rcases (show i = 62 ∨ i = 63 ∨ i = 64 ∨ i = 65 ∨ i = 66 by omega) with h9 | h9 | h9 | h9 | h9; (subst h9; rw [mu_i _ _ _ (by decide)]); (subst h9; rw [mu_i _ _ _ (by decide)]); (subst h9; rw [mu_i _ _ _ (by decide)]); (subst h9; rw [mu_i _ _ _ (by decide)]); (subst h9; rw [mu_i _ _ _ (by decide)])), fun i i1 i2 z hz => (by rw [mu_i _ _ _ (by omega)]), fun z hz => ⟨(by rw [mu_i _ _ _ (by decide)]), (by rw [mu_i _ _ _ (by decide)])⟩⟩))) (by omega) (hr16) (by omega)
          · skip
            replace b12 : ¬ Mr 56 (Mr 53 11) = 24 := fun z => b12 ⟨q13, z⟩
            have bk22 : kdT (bt f n) n tq ≠ 4 := fun z => b12 (cOf_key.2.2.2.2.1.mp (qC.trans z))
            refine v_istore_n X [(3, .int (iz 0)), (0, .ref (ad 53)), (1, .int (iz i0)), (2, .int (iz 1))] dX12_tellRule_223 rfl (by decide) rfl ?_
            refine v_iload_n X 0 dX12_tellRule_224 rfl rfl ?_
            refine v_if_ne X 237 dX12_tellRule_225 (by decide) ⟨by decide, by decide⟩ (fun q => absurd q (by decide)) (fun _ => ?_)
            refine v_aload_n X 1 dX12_tellRule_228 rfl rfl ?_
            refine v_bipush X dX12_tellRule_229 (by decide) ?_
            refine v_callV X [.int (iz 25)] hRm (c_X12_is _ _ _ hS 25 ⟨by decide, by decide⟩ (show 0 ≤ (Mr 53 11) ∧ (Mr 53 11) < 403 by omega)) (gV bw_20_18 bw_20_19 bw_20_20 bw_1_5 bw_20_21) rfl ddX12_is (by decide) (Std.lt hS rfl) (Std.k hS rfl rfl) ⟨rfl, by decide⟩ (Nat.le_of_ble_eq_true rfl) dX12_tellRule_231 (k_pB (fun b23 => ?_) (fun b23 => ?_))
            · skip
              replace b23 : Mr 56 (Mr 53 11) = 25 := b23.2
              have bk24 : kdT (bt f n) n tq = 5 := by rw [← qC, b23]; rfl
              refine v_if_eq X 241 dX12_tellRule_234 (by decide) ⟨by decide, by decide⟩ (fun q => absurd q (by decide)) (fun _ => ?_)
              refine v_iconst X dX12_tellRule_237 ?_
              refine v_goto X 242 dX12_tellRule_238 (by decide) ?_
              refine v_istore_n X [(2, .int (iz 1)), (3, .int (iz 0)), (0, .ref (ad 53)), (1, .int (iz i0))] dX12_tellRule_242 rfl (by decide) rfl ?_
              refine v_iload_n X 0 dX12_tellRule_243 rfl rfl ?_
              refine v_if_eq X 201 dX12_tellRule_244 (by decide) ⟨by decide, by decide⟩ (fun q => absurd q (by decide)) (fun _ => ?_)
              refine v_aload_n X 2 dX12_tellRule_247 rfl rfl ?_
              refine v_callV X [] hRm (c_X12_next _ _ _ hS (show 0 ≤ (Mr 53 11) ∧ (Mr 53 11) ≤ 400 by omega)) (gV bw_21_6 bw_21_7 bw_21_8 bw_1_5 bw_21_9) rfl ddX12_next (by decide) (Std.lt hS rfl) (Std.k hS rfl rfl) ⟨rfl, by decide⟩ (Nat.le_of_ble_eq_true rfl) dX12_tellRule_248 (k_eV (fun M25 e26 => ?_))
              by_cases ht27 : (Mr 53 11) = 400
              · skip
                replace e26 : M25 = (mu (mu Mr 53 13 2) 53 14 (Mr 57 (Mr 53 11))) := e26.trans (mNext_full (show (Mr 53 11) = 400 from ht27) (show ¬ 0 < (Mr 53 13) by omega))
                subst e26
                have flq28 : FlT (bt f n) n c0 (mu (mu Mr 53 13 2) 53 14 (Mr 57 (Mr 53 11))) := FlT_mk qG qc (Or.inr ⟨rfl, Or.inr (Or.inr (Or.inr ⟨ng3, Or.inr (Or.inr (Or.inr (Or.inr ⟨by decide, by decide, by decide, by omega⟩)))⟩)), Or.inl (by omega)⟩) rfl (show (Mr 57 (Mr 53 11)) = _ by exact qP) (show 0 ≤ (Mr 53 11) ∧ (Mr 53 11) ≤ 400 by omega)
                refine v_goto X 201 dX12_tellRule_251 (by decide) ?_
                refine v_iload_n X 0 dX12_tellRule_201 rfl rfl ?_
                refine v_if_eq X 254 dX12_tellRule_202 (by decide) ⟨by decide, by decide⟩ (fun q => absurd q (by decide)) (fun _ => ?_)
                refine v_aload_n X 2 dX12_tellRule_205 rfl rfl ?_
                refine gt_X12_fault X iwX12 (Std.lt hS rfl) (Std.k hS rfl rfl) (List.mem_cons_of_mem _ bw_19_13) dX12_tellRule_206 2 rfl (fun hr29 => ?_)
                refine v_if_ne X 254 dX12_tellRule_209 (by decide) ⟨by decide, by decide⟩ (fun _ => ?_) (fun q => absurd (by decide) q)
                refine v_aload_n X 2 dX12_tellRule_254 rfl rfl ?_
                refine v_iconst X dX12_tellRule_255 ?_
                refine v_callV X [.int (iz 4)] hRm (c_X12_must _ _ _ hS 4 ⟨by decide, by decide⟩ (show 0 ≤ (Mr 53 11) ∧ (Mr 53 11) ≤ 400 by omega)) (gV bw_21_23 bw_22_0 bw_22_1 bw_1_5 bw_22_2) rfl ddX12_must (by decide) (Std.lt hS rfl) (Std.k hS rfl rfl) ⟨rfl, by decide⟩ (Nat.le_of_ble_eq_true rfl) dX12_tellRule_256 (k_eV (fun M30 e31 => ?_))
                replace e31 : M30 = (mu (mu Mr 53 13 2) 53 14 (Mr 57 (Mr 53 11))) := e31.trans ((if_neg (fun z => absurd (show (2 : Int) = 0 from z.1) (by omega))).trans (mFail_y (show 0 < 2 by omega)))
                rw [e31]
                refine v_aload_n X 2 dX12_tellRule_259 rfl rfl ?_
                refine gt_X12_fault X iwX12 (Std.lt hS rfl) (Std.k hS rfl rfl) (List.mem_cons_of_mem _ bw_19_13) dX12_tellRule_260 2 rfl (fun hr32 => ?_)
                refine v_if_le X 267 dX12_tellRule_263 (by decide) ⟨by decide, by decide⟩ (fun q => absurd q (by decide)) (fun _ => ?_)
                refine hret _ _ _ _ _ _ _ _ _ _ _ none dX12_tellRule_266 ⟨rfl, rfl⟩ (by decide) (by decide) (fun hmok => ?_)
                obtain ⟨t9, F9, f1, f2, f3, f4, f5, f6⟩ := flq28
                exact ⟨rfl, rfl, rfl, rfl, rfl, rfl, Or.inl ⟨t9, F9, f1, f2, f3, f4, f5, show 0 ≤ (Mr 53 11) ∧ (Mr 53 11) ≤ 400 by omega⟩, (frS_trans hfr9 (show frS s Mr (mu (mu Mr 53 13 2) 53 14 (Mr 57 (Mr 53 11))) from ⟨fun i i1 i2 => (by rw [mu_i _ _ _ (by omega), mu_i _ _ _ (by omega)]), fun z z1 z2 z3 z4 z5 z6 => (by rw [mu_z _ _ _ z4, mu_z _ _ _ z3]), fun z hz => ⟨(by rw [mu_i _ _ _ (by decide), mu_i _ _ _ (by decide)]), (by rw [mu_i _ _ _ (by decide), mu_i _ _ _ (by decide)])⟩, fun i i1 i2 z hz => (by rcases (show i = 62 ∨ i = 63 ∨ i = 64 ∨ i = 65 ∨ i = 66 by omega) with h9 | h9 | h9 | h9 | h9; (subst h9; rw [mu_i _ _ _ (by decide), mu_i _ _ _ (by decide)]); (subst h9; rw [mu_i _ _ _ (by decide), mu_i _ _ _ (by decide)]); (subst h9; rw [mu_i _ _ _ (by decide), mu_i _ _ _ (by decide)]); (subst h9; rw [mu_i _ _ _ (by decide), mu_i _ _ _ (by decide)]); (subst h9; rw [mu_i _ _ _ (by decide), mu_i _ _ _ (by decide)])), fun i i1 i2 z hz => (by rw [mu_i _ _ _ (by omega), mu_i _ _ _ (by omega)]), fun z hz => ⟨(by rw [mu_i _ _ _ (by decide), mu_i _ _ _ (by decide)]), (by rw [mu_i _ _ _ (by decide), mu_i _ _ _ (by decide)])⟩⟩))⟩
              · skip
                replace e26 : M25 = (mu Mr 53 11 ((Mr 53 11) + 1)) := e26.trans (mNext_go (show (Mr 53 11) ≠ 400 from ht27))
                subst e26
                obtain ⟨pn9, zn9, dn9, hLn⟩ := LQ_con hQ (by omega) (by omega) (M' := (mu Mr 53 11 ((Mr 53 11) + 1))) (fun j hj => mu_i _ _ _ hj) (fun z hz => mu_z _ _ _ hz) (show Mr 53 11 + 1 = _ by omega)
                rw [if_neg (by omega)] at hLn
                refine v_goto X 201 dX12_tellRule_251 (by decide) ?_
                refine v_lv [2, 3, 0, 1] rfl ?_
                exact ih3 (mu Mr 53 11 ((Mr 53 11) + 1)) (tq + 1) (nr + 1) 0 pn9 zn9 dn9 cc kd q0 rcx (hLn) (by omega) ((frS_trans hfr9 (show frS s Mr (mu Mr 53 11 ((Mr 53 11) + 1)) from ⟨fun i i1 i2 => (by rw [mu_i _ _ _ (by omega)]), fun z z1 z2 z3 z4 z5 z6 => (by rw [mu_z _ _ _ z1]), fun z hz => ⟨(by rw [mu_i _ _ _ (by decide)]), (by rw [mu_i _ _ _ (by decide)])⟩, fun i i1 i2 z hz => (by rcases (show i = 62 ∨ i = 63 ∨ i = 64 ∨ i = 65 ∨ i = 66 by omega) with h9 | h9 | h9 | h9 | h9; (subst h9; rw [mu_i _ _ _ (by decide)]); (subst h9; rw [mu_i _ _ _ (by decide)]); (subst h9; rw [mu_i _ _ _ (by decide)]); (subst h9; rw [mu_i _ _ _ (by decide)]); (subst h9; rw [mu_i _ _ _ (by decide)])), fun i i1 i2 z hz => (by rw [mu_i _ _ _ (by omega)]), fun z hz => ⟨(by rw [mu_i _ _ _ (by decide)]), (by rw [mu_i _ _ _ (by decide)])⟩⟩))) (by omega) (hr16) (by omega)
            · skip
              replace b23 : ¬ Mr 56 (Mr 53 11) = 25 := fun z => b23 ⟨q13, z⟩
              have bk33 : kdT (bt f n) n tq ≠ 5 := fun z => b23 (cOf_key.2.2.2.2.2.1.mp (qC.trans z))
              refine v_if_eq X 241 dX12_tellRule_234 (by decide) ⟨by decide, by decide⟩ (fun _ => ?_) (fun q => absurd (by decide) q)
              refine v_iconst X dX12_tellRule_241 ?_
              refine v_istore_n X [(2, .int (iz 0)), (3, .int (iz 0)), (0, .ref (ad 53)), (1, .int (iz i0))] dX12_tellRule_242 rfl (by decide) rfl ?_
              refine v_iload_n X 0 dX12_tellRule_243 rfl rfl ?_
              refine v_if_eq X 201 dX12_tellRule_244 (by decide) ⟨by decide, by decide⟩ (fun _ => ?_) (fun q => absurd (by decide) q)
              refine v_iload_n X 0 dX12_tellRule_201 rfl rfl ?_
              refine v_if_eq X 254 dX12_tellRule_202 (by decide) ⟨by decide, by decide⟩ (fun _ => ?_) (fun q => absurd (by decide) q)
              refine v_aload_n X 2 dX12_tellRule_254 rfl rfl ?_
              refine v_iconst X dX12_tellRule_255 ?_
              refine v_callV X [.int (iz 4)] hRm (c_X12_must _ _ _ hS 4 ⟨by decide, by decide⟩ (show 0 ≤ (Mr 53 11) ∧ (Mr 53 11) ≤ 400 by omega)) (gV bw_21_23 bw_22_0 bw_22_1 bw_1_5 bw_22_2) rfl ddX12_must (by decide) (Std.lt hS rfl) (Std.k hS rfl rfl) ⟨rfl, by decide⟩ (Nat.le_of_ble_eq_true rfl) dX12_tellRule_256 (k_eV (fun M34 e35 => ?_))
              by_cases hm36 : (Mr 56 (Mr 53 11)) = 4
              · skip
                have bk38 : kdT (bt f n) n tq = 15 := by rw [← qC, hm36]; rfl
                by_cases ht37 : (Mr 53 11) = 400
                · skip
                  replace e35 : M34 = (mu (mu Mr 53 13 2) 53 14 (Mr 57 (Mr 53 11))) := e35.trans ((if_pos ⟨(show (Mr 53 13) = 0 by omega), hm36⟩).trans (mNext_full (show (Mr 53 11) = 400 from ht37) (show ¬ 0 < (Mr 53 13) by omega)))
                  subst e35
                  have flq39 : FlT (bt f n) n c0 (mu (mu Mr 53 13 2) 53 14 (Mr 57 (Mr 53 11))) := FlT_mk qG qc (Or.inr ⟨rfl, Or.inr (Or.inr (Or.inr ⟨ng3, Or.inr (Or.inr (Or.inr (Or.inr ⟨by decide, by decide, by decide, by omega⟩)))⟩)), Or.inl (by omega)⟩) rfl (show (Mr 57 (Mr 53 11)) = _ by exact qP) (show 0 ≤ (Mr 53 11) ∧ (Mr 53 11) ≤ 400 by omega)
                  refine v_aload_n X 2 dX12_tellRule_259 rfl rfl ?_
                  refine gt_X12_fault X iwX12 (Std.lt hS rfl) (Std.k hS rfl rfl) (List.mem_cons_of_mem _ bw_19_13) dX12_tellRule_260 2 rfl (fun hr40 => ?_)
                  refine v_if_le X 267 dX12_tellRule_263 (by decide) ⟨by decide, by decide⟩ (fun q => absurd q (by decide)) (fun _ => ?_)
                  refine hret _ _ _ _ _ _ _ _ _ _ _ none dX12_tellRule_266 ⟨rfl, rfl⟩ (by decide) (by decide) (fun hmok => ?_)
                  obtain ⟨t9, F9, f1, f2, f3, f4, f5, f6⟩ := flq39
                  exact ⟨rfl, rfl, rfl, rfl, rfl, rfl, Or.inl ⟨t9, F9, f1, f2, f3, f4, f5, show 0 ≤ (Mr 53 11) ∧ (Mr 53 11) ≤ 400 by omega⟩, (frS_trans hfr9 (show frS s Mr (mu (mu Mr 53 13 2) 53 14 (Mr 57 (Mr 53 11))) from ⟨fun i i1 i2 => (by rw [mu_i _ _ _ (by omega), mu_i _ _ _ (by omega)]), fun z z1 z2 z3 z4 z5 z6 => (by rw [mu_z _ _ _ z4, mu_z _ _ _ z3]), fun z hz => ⟨(by rw [mu_i _ _ _ (by decide), mu_i _ _ _ (by decide)]), (by rw [mu_i _ _ _ (by decide), mu_i _ _ _ (by decide)])⟩, fun i i1 i2 z hz => (by rcases (show i = 62 ∨ i = 63 ∨ i = 64 ∨ i = 65 ∨ i = 66 by omega) with h9 | h9 | h9 | h9 | h9; (subst h9; rw [mu_i _ _ _ (by decide), mu_i _ _ _ (by decide)]); (subst h9; rw [mu_i _ _ _ (by decide), mu_i _ _ _ (by decide)]); (subst h9; rw [mu_i _ _ _ (by decide), mu_i _ _ _ (by decide)]); (subst h9; rw [mu_i _ _ _ (by decide), mu_i _ _ _ (by decide)]); (subst h9; rw [mu_i _ _ _ (by decide), mu_i _ _ _ (by decide)])), fun i i1 i2 z hz => (by rw [mu_i _ _ _ (by omega), mu_i _ _ _ (by omega)]), fun z hz => ⟨(by rw [mu_i _ _ _ (by decide), mu_i _ _ _ (by decide)]), (by rw [mu_i _ _ _ (by decide), mu_i _ _ _ (by decide)])⟩⟩))⟩
                · skip
                  replace e35 : M34 = (mu Mr 53 11 ((Mr 53 11) + 1)) := e35.trans ((if_pos ⟨(show (Mr 53 13) = 0 by omega), hm36⟩).trans (mNext_go (show (Mr 53 11) ≠ 400 from ht37)))
                  subst e35
                  refine v_aload_n X 2 dX12_tellRule_259 rfl rfl ?_
                  refine gt_X12_fault X iwX12 (Std.lt hS rfl) (Std.k hS rfl rfl) (List.mem_cons_of_mem _ bw_19_13) dX12_tellRule_260 (Mr 53 13) rfl (fun hr41 => ?_)
                  refine v_if_le X 267 dX12_tellRule_263 (by decide) ⟨by omega, by omega⟩ (fun u42 => ?_) (fun q => absurd (by omega) q)
                  refine v_aload_n X 2 dX12_tellRule_267 rfl rfl ?_
                  refine gt_X12_relLast X iwX12 (Std.lt hS rfl) (Std.k hS rfl rfl) (List.mem_cons_of_mem _ bw_8_4) dX12_tellRule_268 66 (Std.r hS 25 rfl) ?_
                  refine v_iload_n X 3 dX12_tellRule_271 rfl rfl ?_
                  refine v_aload_n X 2 dX12_tellRule_272 rfl rfl ?_
                  refine gt_X12_relations X iwX12 (Std.lt hS rfl) (Std.k hS rfl rfl) (List.mem_cons_of_mem _ bw_8_5) dX12_tellRule_273 67 (Std.r hS 26 rfl) ?_
                  refine v_aload_n X 2 dX12_tellRule_276 rfl rfl ?_
                  refine gt_X12_side X iwX12 (Std.lt hS rfl) (Std.k hS rfl rfl) (List.mem_cons_of_mem _ bw_19_16) dX12_tellRule_277 (Mr 53 19) rfl (fun hr43 => ?_)
                  refine v_iald X (Mr 67 (Mr 53 19)) (Std.lt hS rfl) (Std.at hS rfl rfl) (by omega) (by omega) dX12_tellRule_280 rfl (fun hr44 => ?_)
                  refine v_iast X (Std.lt hS rfl) (Std.at hS rfl rfl) (by omega) (by omega) ⟨by omega, by omega⟩ dX12_tellRule_281 ?_
                  have z61b : Mr 61 (Mr 53 19) = rz := by rw [q19]; exact q61
                  refine v_aload_n X 2 dX12_tellRule_282 rfl rfl ?_
                  refine gt_X12_rules X iwX12 (Std.lt hS rfl) (Std.k hS rfl rfl) (List.mem_cons_of_mem _ bw_7_23) dX12_tellRule_283 61 (Std.r hS 20 rfl) ?_
                  refine v_aload_n X 2 dX12_tellRule_286 rfl rfl ?_
                  refine gt_X12_side X iwX12 (Std.lt hS rfl) (Std.k hS rfl rfl) (List.mem_cons_of_mem _ bw_19_16) dX12_tellRule_287 (Mr 53 19) rfl (fun hr45 => ?_)
                  refine v_dup2 X dX12_tellRule_290 rfl rfl ?_
                  refine v_iald X (Mr 61 (Mr 53 19)) (Std.lt hS rfl) (Std.at hS rfl rfl) (by omega) (by omega) dX12_tellRule_291 rfl (fun hr46 => ?_)
                  refine v_iconst X dX12_tellRule_292 ?_
                  refine v_iadd X dX12_tellRule_293 ?_
                  refine v_iast X (Std.lt hS rfl) (Std.at hS rfl rfl) (by omega) (by omega) ⟨by omega, by omega⟩ dX12_tellRule_294 ?_
                  refine hret _ _ _ _ _ _ _ _ _ _ _ none dX12_tellRule_295 ⟨rfl, rfl⟩ (by decide) (by decide) (fun hmok => ?_)
                  exact ⟨rfl, rfl, rfl, rfl, rfl, rfl, Or.inr ⟨tq + 1, by omega, LQ_end hQ hix ⟨r1, hr16⟩ (by omega) (by omega) (fun j j1 j2 j3 => by rw [mu_i _ _ _ j2, mu_i _ _ _ j3, mu_i _ _ _ j1]) (fun z hz => by rw [mu_i _ _ _ (by decide), mu_i _ _ _ (by decide), mu_z _ _ _ hz]) (show Mr 53 11 + 1 = _ by omega) (fun z => by rw [mu_i _ _ _ (by decide), ← q19]; rfl) (by rw [← q19, mu_s]; show Mr 61 (Mr 53 19) + 1 = rz + 1; rw [q19]; omega)⟩, (frS_trans hfr9 (show frS s Mr (mu (mu (mu Mr 53 11 ((Mr 53 11) + 1)) 66 i0 (Mr 67 (Mr 53 19))) 61 (Mr 53 19) ((Mr 61 (Mr 53 19)) + 1)) from ⟨fun i i1 i2 => (by rw [mu_i _ _ _ (by omega), mu_i _ _ _ (by omega), mu_i _ _ _ (by omega)]), fun z z1 z2 z3 z4 z5 z6 => (by rw [mu_i _ _ _ (by decide), mu_i _ _ _ (by decide), mu_z _ _ _ z1]), fun z hz => ⟨(by rw [mu_z _ _ _ (by rw [q19]; exact hz), mu_i _ _ _ (by decide), mu_i _ _ _ (by decide)]), (by rw [mu_i _ _ _ (by decide), mu_i _ _ _ (by decide), mu_i _ _ _ (by decide)])⟩, fun i i1 i2 z hz => (by rcases (show i = 62 ∨ i = 63 ∨ i = 64 ∨ i = 65 ∨ i = 66 by omega) with h9 | h9 | h9 | h9 | h9; (subst h9; rw [mu_i _ _ _ (by decide), mu_i _ _ _ (by decide), mu_i _ _ _ (by decide)]); (subst h9; rw [mu_i _ _ _ (by decide), mu_i _ _ _ (by decide), mu_i _ _ _ (by decide)]); (subst h9; rw [mu_i _ _ _ (by decide), mu_i _ _ _ (by decide), mu_i _ _ _ (by decide)]); (subst h9; rw [mu_i _ _ _ (by decide), mu_i _ _ _ (by decide), mu_i _ _ _ (by decide)]); (subst h9; rw [mu_i _ _ _ (by decide), mu_z _ _ _ (by omega), mu_i _ _ _ (by decide)])), fun i i1 i2 z hz => (by rw [mu_i _ _ _ (by omega), mu_i _ _ _ (by omega), mu_i _ _ _ (by omega)]), fun z hz => ⟨(by rw [mu_i _ _ _ (by decide), mu_i _ _ _ (by decide), mu_i _ _ _ (by decide)]), (by rw [mu_i _ _ _ (by decide), mu_i _ _ _ (by decide), mu_i _ _ _ (by decide)])⟩⟩))⟩
              · skip
                have bk47 : kdT (bt f n) n tq ≠ 15 := fun z => hm36 (cOf_key.2.2.2.2.2.2.1.mp (qC.trans z))
                replace e35 : M34 = (mu (mu Mr 53 13 1) 53 14 (Mr 57 (Mr 53 11))) := e35.trans ((if_neg (fun z => hm36 z.2)).trans (mFail_n (show ¬ 0 < (Mr 53 13) by omega)))
                subst e35
                have flq48 : FlT (bt f n) n c0 (mu (mu Mr 53 13 1) 53 14 (Mr 57 (Mr 53 11))) := FlT_mk qG qc (Or.inl ⟨rfl, fun z => by rw [goW_3 (by decide) (by decide) (by decide), goU_2 (by omega) (by decide) (by decide) (by decide)] at z; omega, fun z => absurd z.2 (by decide)⟩) rfl (show (Mr 57 (Mr 53 11)) = _ by exact qP) (show 0 ≤ (Mr 53 11) ∧ (Mr 53 11) ≤ 400 by omega)
                refine v_aload_n X 2 dX12_tellRule_259 rfl rfl ?_
                refine gt_X12_fault X iwX12 (Std.lt hS rfl) (Std.k hS rfl rfl) (List.mem_cons_of_mem _ bw_19_13) dX12_tellRule_260 1 rfl (fun hr49 => ?_)
                refine v_if_le X 267 dX12_tellRule_263 (by decide) ⟨by decide, by decide⟩ (fun q => absurd q (by decide)) (fun _ => ?_)
                refine hret _ _ _ _ _ _ _ _ _ _ _ none dX12_tellRule_266 ⟨rfl, rfl⟩ (by decide) (by decide) (fun hmok => ?_)
                obtain ⟨t9, F9, f1, f2, f3, f4, f5, f6⟩ := flq48
                exact ⟨rfl, rfl, rfl, rfl, rfl, rfl, Or.inl ⟨t9, F9, f1, f2, f3, f4, f5, show 0 ≤ (Mr 53 11) ∧ (Mr 53 11) ≤ 400 by omega⟩, (frS_trans hfr9 (show frS s Mr (mu (mu Mr 53 13 1) 53 14 (Mr 57 (Mr 53 11))) from ⟨fun i i1 i2 => (by rw [mu_i _ _ _ (by omega), mu_i _ _ _ (by omega)]), fun z z1 z2 z3 z4 z5 z6 => (by rw [mu_z _ _ _ z4, mu_z _ _ _ z3]), fun z hz => ⟨(by rw [mu_i _ _ _ (by decide), mu_i _ _ _ (by decide)]), (by rw [mu_i _ _ _ (by decide), mu_i _ _ _ (by decide)])⟩, fun i i1 i2 z hz => (by rcases (show i = 62 ∨ i = 63 ∨ i = 64 ∨ i = 65 ∨ i = 66 by omega) with h9 | h9 | h9 | h9 | h9; (subst h9; rw [mu_i _ _ _ (by decide), mu_i _ _ _ (by decide)]); (subst h9; rw [mu_i _ _ _ (by decide), mu_i _ _ _ (by decide)]); (subst h9; rw [mu_i _ _ _ (by decide), mu_i _ _ _ (by decide)]); (subst h9; rw [mu_i _ _ _ (by decide), mu_i _ _ _ (by decide)]); (subst h9; rw [mu_i _ _ _ (by decide), mu_i _ _ _ (by decide)])), fun i i1 i2 z hz => (by rw [mu_i _ _ _ (by omega), mu_i _ _ _ (by omega)]), fun z hz => ⟨(by rw [mu_i _ _ _ (by decide), mu_i _ _ _ (by decide)]), (by rw [mu_i _ _ _ (by decide), mu_i _ _ _ (by decide)])⟩⟩))⟩
    exact hl2 _ Mx t2 nr orf pend czx cdx cc kd q0 rcx (hL) (by omega) (hfx) (by omega) (hr16) (Nat.lt_succ_self _)
  refine v_aload_n X 0 dX12_tellRule_0 rfl rfl ?_
  refine v_bipush X dX12_tellRule_1 (by decide) ?_
  refine v_callV X [.int (iz 20)] hRm (c_X12_is _ _ _ hS 20 ⟨by decide, by decide⟩ (show 0 ≤ (M 53 11) ∧ (M 53 11) < 403 by omega)) (gV bw_20_18 bw_20_19 bw_20_20 bw_1_5 bw_20_21) rfl ddX12_is (by decide) (Std.lt hS rfl) (Std.k hS rfl rfl) ⟨rfl, by decide⟩ (Nat.le_of_ble_eq_true rfl) dX12_tellRule_3 (k_pB (fun b50 => ?_) (fun b50 => ?_))
  · skip
    replace b50 : M 56 (M 53 11) = 20 := b50.2
    have bk51 : kdT (bt f n) n t = 0 := by rw [← aC, b50]; rfl
    refine v_if_ne X 35 dX12_tellRule_6 (by decide) ⟨by decide, by decide⟩ (fun _ => ?_) (fun q => absurd (by decide) q)
    refine v_aload_n X 0 dX12_tellRule_35 rfl rfl ?_
    refine gt_X12_rules X iwX12 (Std.lt hS rfl) (Std.k hS rfl rfl) (List.mem_cons_of_mem _ bw_7_23) dX12_tellRule_36 61 (Std.r hS 20 rfl) ?_
    refine v_aload_n X 0 dX12_tellRule_39 rfl rfl ?_
    refine gt_X12_side X iwX12 (Std.lt hS rfl) (Std.k hS rfl rfl) (List.mem_cons_of_mem _ bw_19_16) dX12_tellRule_40 (M 53 19) rfl (fun hr52 => ?_)
    refine v_iald X (M 61 (M 53 19)) (Std.lt hS rfl) (Std.at hS rfl rfl) (by omega) (by omega) dX12_tellRule_43 rfl (fun hr53 => ?_)
    refine v_bipush X dX12_tellRule_44 (by decide) ?_
    refine v_icmp_ne X 54 dX12_tellRule_46 (by decide) ⟨by omega, by omega⟩ ⟨by decide, by decide⟩ (fun u54 => ?_) (fun u54 => ?_)
    · skip
      refine v_aload_n X 0 dX12_tellRule_54 rfl rfl ?_
      refine gt_X12_fault X iwX12 (Std.lt hS rfl) (Std.k hS rfl rfl) (List.mem_cons_of_mem _ bw_19_13) dX12_tellRule_55 (M 53 13) rfl (fun hr55 => ?_)
      refine v_if_le X 62 dX12_tellRule_58 (by decide) ⟨by omega, by omega⟩ (fun u56 => ?_) (fun q => absurd (by omega) q)
      have hr16 : rz < 16 := by omega
      refine v_bipush X dX12_tellRule_62 (by decide) ?_
      refine v_aload_n X 0 dX12_tellRule_64 rfl rfl ?_
      refine gt_X12_side X iwX12 (Std.lt hS rfl) (Std.k hS rfl rfl) (List.mem_cons_of_mem _ bw_19_16) dX12_tellRule_65 (M 53 19) rfl (fun hr57 => ?_)
      refine v_imul X dX12_tellRule_68 ?_
      refine v_aload_n X 0 dX12_tellRule_69 rfl rfl ?_
      refine gt_X12_rules X iwX12 (Std.lt hS rfl) (Std.k hS rfl rfl) (List.mem_cons_of_mem _ bw_7_23) dX12_tellRule_70 61 (Std.r hS 20 rfl) ?_
      refine v_aload_n X 0 dX12_tellRule_73 rfl rfl ?_
      refine gt_X12_side X iwX12 (Std.lt hS rfl) (Std.k hS rfl rfl) (List.mem_cons_of_mem _ bw_19_16) dX12_tellRule_74 (M 53 19) rfl (fun hr58 => ?_)
      refine v_iald X (M 61 (M 53 19)) (Std.lt hS rfl) (Std.at hS rfl rfl) (by omega) (by omega) dX12_tellRule_77 rfl (fun hr59 => ?_)
      refine v_iadd X dX12_tellRule_78 ?_
      refine v_istore_n X [(1, .int (iz ((16 * (M 53 19)) + (M 61 (M 53 19))))), (0, .ref (ad 53))] dX12_tellRule_79 rfl (by decide) rfl ?_
      rw [← hi0]
      refine v_aload_n X 1 dX12_tellRule_80 rfl rfl ?_
      refine gt_X12_ruleSort X iwX12 (Std.lt hS rfl) (Std.k hS rfl rfl) (List.mem_cons_of_mem _ bw_8_0) dX12_tellRule_81 62 (Std.r hS 21 rfl) ?_
      refine v_iload_n X 0 dX12_tellRule_84 rfl rfl ?_
      refine v_aload_n X 1 dX12_tellRule_85 rfl rfl ?_
      refine v_bipush X dX12_tellRule_86 (by decide) ?_
      refine v_callV X [.int (iz 20)] hRm (c_X12_is _ _ _ hS 20 ⟨by decide, by decide⟩ (show 0 ≤ (M 53 11) ∧ (M 53 11) < 403 by omega)) (gV bw_20_18 bw_20_19 bw_20_20 bw_1_5 bw_20_21) rfl ddX12_is (by decide) (Std.lt hS rfl) (Std.k hS rfl rfl) ⟨rfl, by decide⟩ (Nat.le_of_ble_eq_true rfl) dX12_tellRule_88 (k_pB (fun b60 => ?_) (fun b60 => ?_))
      · skip
        replace b60 : M 56 (M 53 11) = 20 := b60.2
        refine v_if_eq X 98 dX12_tellRule_91 (by decide) ⟨by decide, by decide⟩ (fun q => absurd q (by decide)) (fun _ => ?_)
        refine v_iconst X dX12_tellRule_94 ?_
        refine v_goto X 112 dX12_tellRule_95 (by decide) ?_
        refine v_iast X (Std.lt hS rfl) (Std.at hS rfl rfl) (by omega) (by omega) ⟨by decide, by decide⟩ dX12_tellRule_112 ?_
        refine v_aload_n X 1 dX12_tellRule_113 rfl rfl ?_
        refine v_callV X [] hRm (c_X12_next _ _ _ hS (show 0 ≤ (M 53 11) ∧ (M 53 11) ≤ 400 by omega)) (gV bw_21_6 bw_21_7 bw_21_8 bw_1_5 bw_21_9) rfl ddX12_next (by decide) (Std.lt hS rfl) (Std.k hS rfl rfl) ⟨rfl, by decide⟩ (Nat.le_of_ble_eq_true rfl) dX12_tellRule_114 (k_eV (fun M61 e62 => ?_))
        by_cases ht63 : (M 53 11) = 400
        · skip
          replace e62 : M61 = (mu (mu (mu M 62 i0 0) 53 13 2) 53 14 (M 57 (M 53 11))) := e62.trans (mNext_full (show (M 53 11) = 400 from ht63) (show ¬ 0 < (M 53 13) by omega))
          subst e62
          have flq64 : FlT (bt f n) n c0 (mu (mu (mu M 62 i0 0) 53 13 2) 53 14 (M 57 (M 53 11))) := FlT_mk hG hc (Or.inr ⟨rfl, Or.inl ⟨rfl, by omega⟩, Or.inl (by omega)⟩) rfl (show (M 57 (M 53 11)) = _ by exact aP) (show 0 ≤ (M 53 11) ∧ (M 53 11) ≤ 400 by omega)
          refine v_aload_n X 1 dX12_tellRule_117 rfl rfl ?_
          refine gt_X12_ruleFrom X iwX12 (Std.lt hS rfl) (Std.k hS rfl rfl) (List.mem_cons_of_mem _ bw_8_1) dX12_tellRule_118 63 (Std.r hS 22 rfl) ?_
          refine v_iload_n X 0 dX12_tellRule_121 rfl rfl ?_
          refine v_aload_n X 1 dX12_tellRule_122 rfl rfl ?_
          refine gt_X12_codes X iwX12 (Std.lt hS rfl) (Std.k hS rfl rfl) (List.mem_cons_of_mem _ bw_19_17) dX12_tellRule_123 (M 53 32) rfl (fun hr65 => ?_)
          refine v_iast X (Std.lt hS rfl) (Std.at hS rfl rfl) (by omega) (by omega) ⟨by omega, by omega⟩ dX12_tellRule_126 ?_
          refine v_aload_n X 1 dX12_tellRule_127 rfl rfl ?_
          refine gt_X12_ruleSort X iwX12 (Std.lt hS rfl) (Std.k hS rfl rfl) (List.mem_cons_of_mem _ bw_8_0) dX12_tellRule_128 62 (Std.r hS 21 rfl) ?_
          refine v_iload_n X 0 dX12_tellRule_131 rfl rfl ?_
          refine v_iald X 0 (Std.lt hS rfl) (Std.at hS rfl rfl) (by omega) (by omega) dX12_tellRule_132 (by simp [mu, mrow]) (fun hr66 => ?_)
          refine v_if_le X 140 dX12_tellRule_133 (by decide) ⟨by decide, by decide⟩ (fun _ => ?_) (fun q => absurd (by decide) q)
          refine v_aload_n X 1 dX12_tellRule_140 rfl rfl ?_
          refine gt_X12_ruleTo X iwX12 (Std.lt hS rfl) (Std.k hS rfl rfl) (List.mem_cons_of_mem _ bw_8_2) dX12_tellRule_141 64 (Std.r hS 23 rfl) ?_
          refine v_iload_n X 0 dX12_tellRule_144 rfl rfl ?_
          refine v_aload_n X 1 dX12_tellRule_145 rfl rfl ?_
          refine gt_X12_codes X iwX12 (Std.lt hS rfl) (Std.k hS rfl rfl) (List.mem_cons_of_mem _ bw_19_17) dX12_tellRule_146 (M 53 32) rfl (fun hr67 => ?_)
          refine v_iast X (Std.lt hS rfl) (Std.at hS rfl rfl) (by omega) (by omega) ⟨by omega, by omega⟩ dX12_tellRule_149 ?_
          refine v_aload_n X 1 dX12_tellRule_150 rfl rfl ?_
          refine gt_X12_relFirst X iwX12 (Std.lt hS rfl) (Std.k hS rfl rfl) (List.mem_cons_of_mem _ bw_8_3) dX12_tellRule_151 65 (Std.r hS 24 rfl) ?_
          refine v_iload_n X 0 dX12_tellRule_154 rfl rfl ?_
          refine v_aload_n X 1 dX12_tellRule_155 rfl rfl ?_
          refine gt_X12_relations X iwX12 (Std.lt hS rfl) (Std.k hS rfl rfl) (List.mem_cons_of_mem _ bw_8_5) dX12_tellRule_156 67 (Std.r hS 26 rfl) ?_
          refine v_aload_n X 1 dX12_tellRule_159 rfl rfl ?_
          refine gt_X12_side X iwX12 (Std.lt hS rfl) (Std.k hS rfl rfl) (List.mem_cons_of_mem _ bw_19_16) dX12_tellRule_160 (M 53 19) rfl (fun hr68 => ?_)
          refine v_iald X (M 67 (M 53 19)) (Std.lt hS rfl) (Std.at hS rfl rfl) (by omega) (by omega) dX12_tellRule_163 rfl (fun hr69 => ?_)
          refine v_iast X (Std.lt hS rfl) (Std.at hS rfl rfl) (by omega) (by omega) ⟨by omega, by omega⟩ dX12_tellRule_164 ?_
          refine v_aload_n X 1 dX12_tellRule_165 rfl rfl ?_
          refine gt_X12_ruleSort X iwX12 (Std.lt hS rfl) (Std.k hS rfl rfl) (List.mem_cons_of_mem _ bw_8_0) dX12_tellRule_166 62 (Std.r hS 21 rfl) ?_
          refine v_iload_n X 0 dX12_tellRule_169 rfl rfl ?_
          refine v_iald X 0 (Std.lt hS rfl) (Std.at hS rfl rfl) (by omega) (by omega) dX12_tellRule_170 (by simp [mu, mrow]) (fun hr70 => ?_)
          refine v_if_eq X 183 dX12_tellRule_171 (by decide) ⟨by decide, by decide⟩ (fun _ => ?_) (fun q => absurd (by decide) q)
          refine v_iconst X dX12_tellRule_183 ?_
          refine v_goto X 188 dX12_tellRule_184 (by decide) ?_
          refine v_istore_n X [(2, .int (iz 1)), (1, .int (iz i0)), (0, .ref (ad 53))] dX12_tellRule_188 rfl (by decide) rfl ?_
          refine v_iload_n X 0 dX12_tellRule_189 rfl rfl ?_
          refine v_if_eq X 199 dX12_tellRule_190 (by decide) ⟨by decide, by decide⟩ (fun q => absurd q (by decide)) (fun _ => ?_)
          refine v_aload_n X 2 dX12_tellRule_193 rfl rfl ?_
          refine v_bipush X dX12_tellRule_194 (by decide) ?_
          refine v_callV X [.int (iz 21)] hRm (c_X12_must _ _ _ hS 21 ⟨by decide, by decide⟩ (show 0 ≤ (M 53 11) ∧ (M 53 11) ≤ 400 by omega)) (gV bw_21_23 bw_22_0 bw_22_1 bw_1_5 bw_22_2) rfl ddX12_must (by decide) (Std.lt hS rfl) (Std.k hS rfl rfl) ⟨rfl, by decide⟩ (Nat.le_of_ble_eq_true rfl) dX12_tellRule_196 (k_eV (fun M71 e72 => ?_))
          replace e72 : M71 = (mu (mu (mu (mu (mu (mu M 62 i0 0) 53 13 2) 53 14 (M 57 (M 53 11))) 63 i0 (M 53 32)) 64 i0 (M 53 32)) 65 i0 (M 67 (M 53 19))) := e72.trans ((if_neg (fun z => absurd (show (2 : Int) = 0 from z.1) (by omega))).trans (mFail_y (show 0 < 2 by omega)))
          rw [e72]
          refine v_iconst X dX12_tellRule_199 ?_
          refine v_istore_n X [(3, .int (iz 1)), (2, .int (iz 1)), (1, .int (iz i0)), (0, .ref (ad 53))] dX12_tellRule_200 rfl (by decide) rfl ?_
          refine v_iload_n X 1 dX12_tellRule_201 rfl rfl ?_
          refine v_if_eq X 254 dX12_tellRule_202 (by decide) ⟨by decide, by decide⟩ (fun q => absurd q (by decide)) (fun _ => ?_)
          refine v_aload_n X 3 dX12_tellRule_205 rfl rfl ?_
          refine gt_X12_fault X iwX12 (Std.lt hS rfl) (Std.k hS rfl rfl) (List.mem_cons_of_mem _ bw_19_13) dX12_tellRule_206 2 rfl (fun hr73 => ?_)
          refine v_if_ne X 254 dX12_tellRule_209 (by decide) ⟨by decide, by decide⟩ (fun _ => ?_) (fun q => absurd (by decide) q)
          refine v_aload_n X 3 dX12_tellRule_254 rfl rfl ?_
          refine v_iconst X dX12_tellRule_255 ?_
          refine v_callV X [.int (iz 4)] hRm (c_X12_must _ _ _ hS 4 ⟨by decide, by decide⟩ (show 0 ≤ (M 53 11) ∧ (M 53 11) ≤ 400 by omega)) (gV bw_21_23 bw_22_0 bw_22_1 bw_1_5 bw_22_2) rfl ddX12_must (by decide) (Std.lt hS rfl) (Std.k hS rfl rfl) ⟨rfl, by decide⟩ (Nat.le_of_ble_eq_true rfl) dX12_tellRule_256 (k_eV (fun M74 e75 => ?_))
          replace e75 : M74 = (mu (mu (mu (mu (mu (mu M 62 i0 0) 53 13 2) 53 14 (M 57 (M 53 11))) 63 i0 (M 53 32)) 64 i0 (M 53 32)) 65 i0 (M 67 (M 53 19))) := e75.trans ((if_neg (fun z => absurd (show (2 : Int) = 0 from z.1) (by omega))).trans (mFail_y (show 0 < 2 by omega)))
          rw [e75]
          refine v_aload_n X 3 dX12_tellRule_259 rfl rfl ?_
          refine gt_X12_fault X iwX12 (Std.lt hS rfl) (Std.k hS rfl rfl) (List.mem_cons_of_mem _ bw_19_13) dX12_tellRule_260 2 rfl (fun hr76 => ?_)
          refine v_if_le X 267 dX12_tellRule_263 (by decide) ⟨by decide, by decide⟩ (fun q => absurd q (by decide)) (fun _ => ?_)
          refine hret _ _ _ _ _ _ _ _ _ _ _ none dX12_tellRule_266 ⟨rfl, rfl⟩ (by decide) (by decide) (fun hmok => ?_)
          obtain ⟨t9, F9, f1, f2, f3, f4, f5, f6⟩ := flq64
          exact ⟨rfl, rfl, rfl, rfl, rfl, rfl, Or.inl ⟨t9, F9, f1, f2, f3, f4, f5, show 0 ≤ (M 53 11) ∧ (M 53 11) ≤ 400 by omega⟩, (frS_trans (frS_refl _ _) (show frS s M (mu (mu (mu (mu (mu (mu M 62 i0 0) 53 13 2) 53 14 (M 57 (M 53 11))) 63 i0 (M 53 32)) 64 i0 (M 53 32)) 65 i0 (M 67 (M 53 19))) from ⟨fun i i1 i2 => (by rw [mu_i _ _ _ (by omega), mu_i _ _ _ (by omega), mu_i _ _ _ (by omega), mu_i _ _ _ (by omega), mu_i _ _ _ (by omega), mu_i _ _ _ (by omega)]), fun z z1 z2 z3 z4 z5 z6 => (by rw [mu_i _ _ _ (by decide), mu_i _ _ _ (by decide), mu_i _ _ _ (by decide), mu_z _ _ _ z4, mu_z _ _ _ z3, mu_i _ _ _ (by decide)]), fun z hz => ⟨(by rw [mu_i _ _ _ (by decide), mu_i _ _ _ (by decide), mu_i _ _ _ (by decide), mu_i _ _ _ (by decide), mu_i _ _ _ (by decide), mu_i _ _ _ (by decide)]), (by rw [mu_i _ _ _ (by decide), mu_i _ _ _ (by decide), mu_i _ _ _ (by decide), mu_i _ _ _ (by decide), mu_i _ _ _ (by decide), mu_i _ _ _ (by decide)])⟩, fun i i1 i2 z hz => (by rcases (show i = 62 ∨ i = 63 ∨ i = 64 ∨ i = 65 ∨ i = 66 by omega) with h9 | h9 | h9 | h9 | h9; (subst h9; rw [mu_i _ _ _ (by decide), mu_i _ _ _ (by decide), mu_i _ _ _ (by decide), mu_i _ _ _ (by decide), mu_i _ _ _ (by decide), mu_z _ _ _ (by omega)]); (subst h9; rw [mu_i _ _ _ (by decide), mu_i _ _ _ (by decide), mu_z _ _ _ (by omega), mu_i _ _ _ (by decide), mu_i _ _ _ (by decide), mu_i _ _ _ (by decide)]); (subst h9; rw [mu_i _ _ _ (by decide), mu_z _ _ _ (by omega), mu_i _ _ _ (by decide), mu_i _ _ _ (by decide), mu_i _ _ _ (by decide), mu_i _ _ _ (by decide)]); (subst h9; rw [mu_z _ _ _ (by omega), mu_i _ _ _ (by decide), mu_i _ _ _ (by decide), mu_i _ _ _ (by decide), mu_i _ _ _ (by decide), mu_i _ _ _ (by decide)]); (subst h9; rw [mu_i _ _ _ (by decide), mu_i _ _ _ (by decide), mu_i _ _ _ (by decide), mu_i _ _ _ (by decide), mu_i _ _ _ (by decide), mu_i _ _ _ (by decide)])), fun i i1 i2 z hz => (by rw [mu_i _ _ _ (by omega), mu_i _ _ _ (by omega), mu_i _ _ _ (by omega), mu_i _ _ _ (by omega), mu_i _ _ _ (by omega), mu_i _ _ _ (by omega)]), fun z hz => ⟨(by rw [mu_i _ _ _ (by decide), mu_i _ _ _ (by decide), mu_i _ _ _ (by decide), mu_i _ _ _ (by decide), mu_i _ _ _ (by decide), mu_i _ _ _ (by decide)]), (by rw [mu_i _ _ _ (by decide), mu_i _ _ _ (by decide), mu_i _ _ _ (by decide), mu_i _ _ _ (by decide), mu_i _ _ _ (by decide), mu_i _ _ _ (by decide)])⟩⟩))⟩
        · skip
          replace e62 : M61 = (mu (mu M 62 i0 0) 53 11 ((M 53 11) + 1)) := e62.trans (mNext_go (show (M 53 11) ≠ 400 from ht63))
          subst e62
          have hkd : kdT (bt f n) n t = 0 := by omega
          have hI := st_rule hG hc (by omega) hr16 (by omega)
          rw [hkd] at hI
          replace hI : GT (bt f n) n c0 (t + 1) ∧ cm (bt f n) n c0 (t + 1) = (1, 1, 0, [], cz0, cd0, rz, fu rk rz 0, fu rs rz cz0, fu rc rz cz0, re) := hI
          have iK := GT_tok hI.1 hT
          rw [show ((t + 1 : Nat) : Int) = M 53 11 + 1 by omega] at iK
          obtain ⟨iC, iP, iV⟩ := iK
          refine v_aload_n X 1 dX12_tellRule_117 rfl rfl ?_
          refine gt_X12_ruleFrom X iwX12 (Std.lt hS rfl) (Std.k hS rfl rfl) (List.mem_cons_of_mem _ bw_8_1) dX12_tellRule_118 63 (Std.r hS 22 rfl) ?_
          refine v_iload_n X 0 dX12_tellRule_121 rfl rfl ?_
          refine v_aload_n X 1 dX12_tellRule_122 rfl rfl ?_
          refine gt_X12_codes X iwX12 (Std.lt hS rfl) (Std.k hS rfl rfl) (List.mem_cons_of_mem _ bw_19_17) dX12_tellRule_123 (M 53 32) rfl (fun hr77 => ?_)
          refine v_iast X (Std.lt hS rfl) (Std.at hS rfl rfl) (by omega) (by omega) ⟨by omega, by omega⟩ dX12_tellRule_126 ?_
          refine v_aload_n X 1 dX12_tellRule_127 rfl rfl ?_
          refine gt_X12_ruleSort X iwX12 (Std.lt hS rfl) (Std.k hS rfl rfl) (List.mem_cons_of_mem _ bw_8_0) dX12_tellRule_128 62 (Std.r hS 21 rfl) ?_
          refine v_iload_n X 0 dX12_tellRule_131 rfl rfl ?_
          refine v_iald X 0 (Std.lt hS rfl) (Std.at hS rfl rfl) (by omega) (by omega) dX12_tellRule_132 (by simp [mu, mrow]) (fun hr78 => ?_)
          refine v_if_le X 140 dX12_tellRule_133 (by decide) ⟨by decide, by decide⟩ (fun _ => ?_) (fun q => absurd (by decide) q)
          refine v_aload_n X 1 dX12_tellRule_140 rfl rfl ?_
          refine gt_X12_ruleTo X iwX12 (Std.lt hS rfl) (Std.k hS rfl rfl) (List.mem_cons_of_mem _ bw_8_2) dX12_tellRule_141 64 (Std.r hS 23 rfl) ?_
          refine v_iload_n X 0 dX12_tellRule_144 rfl rfl ?_
          refine v_aload_n X 1 dX12_tellRule_145 rfl rfl ?_
          refine gt_X12_codes X iwX12 (Std.lt hS rfl) (Std.k hS rfl rfl) (List.mem_cons_of_mem _ bw_19_17) dX12_tellRule_146 (M 53 32) rfl (fun hr79 => ?_)
          refine v_iast X (Std.lt hS rfl) (Std.at hS rfl rfl) (by omega) (by omega) ⟨by omega, by omega⟩ dX12_tellRule_149 ?_
          refine v_aload_n X 1 dX12_tellRule_150 rfl rfl ?_
          refine gt_X12_relFirst X iwX12 (Std.lt hS rfl) (Std.k hS rfl rfl) (List.mem_cons_of_mem _ bw_8_3) dX12_tellRule_151 65 (Std.r hS 24 rfl) ?_
          refine v_iload_n X 0 dX12_tellRule_154 rfl rfl ?_
          refine v_aload_n X 1 dX12_tellRule_155 rfl rfl ?_
          refine gt_X12_relations X iwX12 (Std.lt hS rfl) (Std.k hS rfl rfl) (List.mem_cons_of_mem _ bw_8_5) dX12_tellRule_156 67 (Std.r hS 26 rfl) ?_
          refine v_aload_n X 1 dX12_tellRule_159 rfl rfl ?_
          refine gt_X12_side X iwX12 (Std.lt hS rfl) (Std.k hS rfl rfl) (List.mem_cons_of_mem _ bw_19_16) dX12_tellRule_160 (M 53 19) rfl (fun hr80 => ?_)
          refine v_iald X (M 67 (M 53 19)) (Std.lt hS rfl) (Std.at hS rfl rfl) (by omega) (by omega) dX12_tellRule_163 rfl (fun hr81 => ?_)
          refine v_iast X (Std.lt hS rfl) (Std.at hS rfl rfl) (by omega) (by omega) ⟨by omega, by omega⟩ dX12_tellRule_164 ?_
          refine v_aload_n X 1 dX12_tellRule_165 rfl rfl ?_
          refine gt_X12_ruleSort X iwX12 (Std.lt hS rfl) (Std.k hS rfl rfl) (List.mem_cons_of_mem _ bw_8_0) dX12_tellRule_166 62 (Std.r hS 21 rfl) ?_
          refine v_iload_n X 0 dX12_tellRule_169 rfl rfl ?_
          refine v_iald X 0 (Std.lt hS rfl) (Std.at hS rfl rfl) (by omega) (by omega) dX12_tellRule_170 (by simp [mu, mrow]) (fun hr82 => ?_)
          refine v_if_eq X 183 dX12_tellRule_171 (by decide) ⟨by decide, by decide⟩ (fun _ => ?_) (fun q => absurd (by decide) q)
          refine v_iconst X dX12_tellRule_183 ?_
          refine v_goto X 188 dX12_tellRule_184 (by decide) ?_
          refine v_istore_n X [(2, .int (iz 1)), (1, .int (iz i0)), (0, .ref (ad 53))] dX12_tellRule_188 rfl (by decide) rfl ?_
          refine v_iload_n X 0 dX12_tellRule_189 rfl rfl ?_
          refine v_if_eq X 199 dX12_tellRule_190 (by decide) ⟨by decide, by decide⟩ (fun q => absurd q (by decide)) (fun _ => ?_)
          refine v_aload_n X 2 dX12_tellRule_193 rfl rfl ?_
          refine v_bipush X dX12_tellRule_194 (by decide) ?_
          refine v_callV X [.int (iz 21)] hRm (c_X12_must _ _ _ hS 21 ⟨by decide, by decide⟩ (show 0 ≤ ((M 53 11) + 1) ∧ ((M 53 11) + 1) ≤ 400 by omega)) (gV bw_21_23 bw_22_0 bw_22_1 bw_1_5 bw_22_2) rfl ddX12_must (by decide) (Std.lt hS rfl) (Std.k hS rfl rfl) ⟨rfl, by decide⟩ (Nat.le_of_ble_eq_true rfl) dX12_tellRule_196 (k_eV (fun M83 e84 => ?_))
          by_cases hm85 : (M 56 ((M 53 11) + 1)) = 21
          · skip
            have bk87 : kdT (bt f n) n (t + 1) = 3 := by rw [← iC, hm85]; rfl
            by_cases ht86 : ((M 53 11) + 1) = 400
            · skip
              replace e84 : M83 = (mu (mu (mu (mu (mu (mu (mu M 62 i0 0) 53 11 ((M 53 11) + 1)) 63 i0 (M 53 32)) 64 i0 (M 53 32)) 65 i0 (M 67 (M 53 19))) 53 13 2) 53 14 (M 57 ((M 53 11) + 1))) := e84.trans ((if_pos ⟨(show (M 53 13) = 0 by omega), hm85⟩).trans (mNext_full (show ((M 53 11) + 1) = 400 from ht86) (show ¬ 0 < (M 53 13) by omega)))
              subst e84
              have flq88 : FlT (bt f n) n c0 (mu (mu (mu (mu (mu (mu (mu M 62 i0 0) 53 11 ((M 53 11) + 1)) 63 i0 (M 53 32)) 64 i0 (M 53 32)) 65 i0 (M 67 (M 53 19))) 53 13 2) 53 14 (M 57 ((M 53 11) + 1))) := FlT_mk hI.1 hI.2 (Or.inr ⟨rfl, Or.inr (Or.inl ⟨rfl, by omega⟩), Or.inl (by omega)⟩) rfl (show (M 57 ((M 53 11) + 1)) = _ by exact iP) (show 0 ≤ ((M 53 11) + 1) ∧ ((M 53 11) + 1) ≤ 400 by omega)
              refine v_iconst X dX12_tellRule_199 ?_
              refine v_istore_n X [(3, .int (iz 1)), (2, .int (iz 1)), (1, .int (iz i0)), (0, .ref (ad 53))] dX12_tellRule_200 rfl (by decide) rfl ?_
              refine v_iload_n X 1 dX12_tellRule_201 rfl rfl ?_
              refine v_if_eq X 254 dX12_tellRule_202 (by decide) ⟨by decide, by decide⟩ (fun q => absurd q (by decide)) (fun _ => ?_)
              refine v_aload_n X 3 dX12_tellRule_205 rfl rfl ?_
              refine gt_X12_fault X iwX12 (Std.lt hS rfl) (Std.k hS rfl rfl) (List.mem_cons_of_mem _ bw_19_13) dX12_tellRule_206 2 rfl (fun hr89 => ?_)
              refine v_if_ne X 254 dX12_tellRule_209 (by decide) ⟨by decide, by decide⟩ (fun _ => ?_) (fun q => absurd (by decide) q)
              refine v_aload_n X 3 dX12_tellRule_254 rfl rfl ?_
              refine v_iconst X dX12_tellRule_255 ?_
              refine v_callV X [.int (iz 4)] hRm (c_X12_must _ _ _ hS 4 ⟨by decide, by decide⟩ (show 0 ≤ ((M 53 11) + 1) ∧ ((M 53 11) + 1) ≤ 400 by omega)) (gV bw_21_23 bw_22_0 bw_22_1 bw_1_5 bw_22_2) rfl ddX12_must (by decide) (Std.lt hS rfl) (Std.k hS rfl rfl) ⟨rfl, by decide⟩ (Nat.le_of_ble_eq_true rfl) dX12_tellRule_256 (k_eV (fun M90 e91 => ?_))
              replace e91 : M90 = (mu (mu (mu (mu (mu (mu (mu M 62 i0 0) 53 11 ((M 53 11) + 1)) 63 i0 (M 53 32)) 64 i0 (M 53 32)) 65 i0 (M 67 (M 53 19))) 53 13 2) 53 14 (M 57 ((M 53 11) + 1))) := e91.trans ((if_neg (fun z => absurd (show (2 : Int) = 0 from z.1) (by omega))).trans (mFail_y (show 0 < 2 by omega)))
              rw [e91]
              refine v_aload_n X 3 dX12_tellRule_259 rfl rfl ?_
              refine gt_X12_fault X iwX12 (Std.lt hS rfl) (Std.k hS rfl rfl) (List.mem_cons_of_mem _ bw_19_13) dX12_tellRule_260 2 rfl (fun hr92 => ?_)
              refine v_if_le X 267 dX12_tellRule_263 (by decide) ⟨by decide, by decide⟩ (fun q => absurd q (by decide)) (fun _ => ?_)
              refine hret _ _ _ _ _ _ _ _ _ _ _ none dX12_tellRule_266 ⟨rfl, rfl⟩ (by decide) (by decide) (fun hmok => ?_)
              obtain ⟨t9, F9, f1, f2, f3, f4, f5, f6⟩ := flq88
              exact ⟨rfl, rfl, rfl, rfl, rfl, rfl, Or.inl ⟨t9, F9, f1, f2, f3, f4, f5, show 0 ≤ ((M 53 11) + 1) ∧ ((M 53 11) + 1) ≤ 400 by omega⟩, (frS_trans (frS_refl _ _) (show frS s M (mu (mu (mu (mu (mu (mu (mu M 62 i0 0) 53 11 ((M 53 11) + 1)) 63 i0 (M 53 32)) 64 i0 (M 53 32)) 65 i0 (M 67 (M 53 19))) 53 13 2) 53 14 (M 57 ((M 53 11) + 1))) from ⟨fun i i1 i2 => (by rw [mu_i _ _ _ (by omega), mu_i _ _ _ (by omega), mu_i _ _ _ (by omega), mu_i _ _ _ (by omega), mu_i _ _ _ (by omega), mu_i _ _ _ (by omega), mu_i _ _ _ (by omega)]), fun z z1 z2 z3 z4 z5 z6 => (by rw [mu_z _ _ _ z4, mu_z _ _ _ z3, mu_i _ _ _ (by decide), mu_i _ _ _ (by decide), mu_i _ _ _ (by decide), mu_z _ _ _ z1, mu_i _ _ _ (by decide)]), fun z hz => ⟨(by rw [mu_i _ _ _ (by decide), mu_i _ _ _ (by decide), mu_i _ _ _ (by decide), mu_i _ _ _ (by decide), mu_i _ _ _ (by decide), mu_i _ _ _ (by decide), mu_i _ _ _ (by decide)]), (by rw [mu_i _ _ _ (by decide), mu_i _ _ _ (by decide), mu_i _ _ _ (by decide), mu_i _ _ _ (by decide), mu_i _ _ _ (by decide), mu_i _ _ _ (by decide), mu_i _ _ _ (by decide)])⟩, fun i i1 i2 z hz => (by rcases (show i = 62 ∨ i = 63 ∨ i = 64 ∨ i = 65 ∨ i = 66 by omega) with h9 | h9 | h9 | h9 | h9; (subst h9; rw [mu_i _ _ _ (by decide), mu_i _ _ _ (by decide), mu_i _ _ _ (by decide), mu_i _ _ _ (by decide), mu_i _ _ _ (by decide), mu_i _ _ _ (by decide), mu_z _ _ _ (by omega)]); (subst h9; rw [mu_i _ _ _ (by decide), mu_i _ _ _ (by decide), mu_i _ _ _ (by decide), mu_i _ _ _ (by decide), mu_z _ _ _ (by omega), mu_i _ _ _ (by decide), mu_i _ _ _ (by decide)]); (subst h9; rw [mu_i _ _ _ (by decide), mu_i _ _ _ (by decide), mu_i _ _ _ (by decide), mu_z _ _ _ (by omega), mu_i _ _ _ (by decide), mu_i _ _ _ (by decide), mu_i _ _ _ (by decide)]); (subst h9; rw [mu_i _ _ _ (by decide), mu_i _ _ _ (by decide), mu_z _ _ _ (by omega), mu_i _ _ _ (by decide), mu_i _ _ _ (by decide), mu_i _ _ _ (by decide), mu_i _ _ _ (by decide)]); (subst h9; rw [mu_i _ _ _ (by decide), mu_i _ _ _ (by decide), mu_i _ _ _ (by decide), mu_i _ _ _ (by decide), mu_i _ _ _ (by decide), mu_i _ _ _ (by decide), mu_i _ _ _ (by decide)])), fun i i1 i2 z hz => (by rw [mu_i _ _ _ (by omega), mu_i _ _ _ (by omega), mu_i _ _ _ (by omega), mu_i _ _ _ (by omega), mu_i _ _ _ (by omega), mu_i _ _ _ (by omega), mu_i _ _ _ (by omega)]), fun z hz => ⟨(by rw [mu_i _ _ _ (by decide), mu_i _ _ _ (by decide), mu_i _ _ _ (by decide), mu_i _ _ _ (by decide), mu_i _ _ _ (by decide), mu_i _ _ _ (by decide), mu_i _ _ _ (by decide)]), (by rw [mu_i _ _ _ (by decide), mu_i _ _ _ (by decide), mu_i _ _ _ (by decide), mu_i _ _ _ (by decide), mu_i _ _ _ (by decide), mu_i _ _ _ (by decide), mu_i _ _ _ (by decide)])⟩⟩))⟩
            · skip
              replace e84 : M83 = (mu (mu (mu (mu (mu (mu M 62 i0 0) 53 11 ((M 53 11) + 1)) 63 i0 (M 53 32)) 64 i0 (M 53 32)) 65 i0 (M 67 (M 53 19))) 53 11 (((M 53 11) + 1) + 1)) := e84.trans ((if_pos ⟨(show (M 53 13) = 0 by omega), hm85⟩).trans (mNext_go (show ((M 53 11) + 1) ≠ 400 from ht86)))
              subst e84
              have hJ := st_if1 hI.1 hI.2 (by omega) (by omega)
              refine v_iconst X dX12_tellRule_199 ?_
              refine v_istore_n X [(3, .int (iz 1)), (2, .int (iz 1)), (1, .int (iz i0)), (0, .ref (ad 53))] dX12_tellRule_200 rfl (by decide) rfl ?_
              refine v_lv [3, 2, 1, 0] rfl ?_
              exact hj1 (mu (mu (mu (mu (mu (mu M 62 i0 0) 53 11 ((M 53 11) + 1)) 63 i0 (M 53 32)) 64 i0 (M 53 32)) 65 i0 (M 67 (M 53 19))) 53 11 (((M 53 11) + 1) + 1)) (t + 2) 0 1 ([]) cz0 cd0 cz0 0 (M 67 s) (fu rc rz cz0) (LI_0 hJ.1 hJ.2 (HM_0 hAll ⟨b1, b2, b3, b4⟩ hO hix hz0 (show frI i0 M (mu (mu (mu (mu (mu (mu M 62 i0 0) 53 11 ((M 53 11) + 1)) 63 i0 (M 53 32)) 64 i0 (M 53 32)) 65 i0 (M 67 (M 53 19))) 53 11 (((M 53 11) + 1) + 1)) from ⟨fun j j1 j2 => (by rw [mu_i _ _ _ (by omega), mu_i _ _ _ (by omega), mu_i _ _ _ (by omega), mu_i _ _ _ (by omega), mu_i _ _ _ (by omega), mu_i _ _ _ (by omega)]), fun z z1 => (by rw [mu_z _ _ _ z1, mu_i _ _ _ (by decide), mu_i _ _ _ (by decide), mu_i _ _ _ (by decide), mu_z _ _ _ z1, mu_i _ _ _ (by decide)]), fun j j1 j2 z hz => (by rcases (show j = 62 ∨ j = 63 ∨ j = 64 ∨ j = 65 ∨ j = 66 by omega) with h9 | h9 | h9 | h9 | h9; (subst h9; rw [mu_i _ _ _ (by decide), mu_i _ _ _ (by decide), mu_i _ _ _ (by decide), mu_i _ _ _ (by decide), mu_i _ _ _ (by decide), mu_z _ _ _ hz]); (subst h9; rw [mu_i _ _ _ (by decide), mu_i _ _ _ (by decide), mu_i _ _ _ (by decide), mu_z _ _ _ hz, mu_i _ _ _ (by decide), mu_i _ _ _ (by decide)]); (subst h9; rw [mu_i _ _ _ (by decide), mu_i _ _ _ (by decide), mu_z _ _ _ hz, mu_i _ _ _ (by decide), mu_i _ _ _ (by decide), mu_i _ _ _ (by decide)]); (subst h9; rw [mu_i _ _ _ (by decide), mu_z _ _ _ hz, mu_i _ _ _ (by decide), mu_i _ _ _ (by decide), mu_i _ _ _ (by decide), mu_i _ _ _ (by decide)]); (subst h9; rw [mu_i _ _ _ (by decide), mu_i _ _ _ (by decide), mu_i _ _ _ (by decide), mu_i _ _ _ (by decide), mu_i _ _ _ (by decide), mu_i _ _ _ (by decide)]))⟩) (by rw [mu_i _ _ _ (by decide), mu_i _ _ _ (by decide), mu_i _ _ _ (by decide), mu_i _ _ _ (by decide), mu_i _ _ _ (by decide), mu_s]) (by rw [mu_i _ _ _ (by decide), mu_s, a19]) (show M 53 11 + 1 + 1 = _ by omega) (by omega)) rfl) (by omega) ((frS_trans (frS_refl _ _) (show frS s M (mu (mu (mu (mu (mu (mu M 62 i0 0) 53 11 ((M 53 11) + 1)) 63 i0 (M 53 32)) 64 i0 (M 53 32)) 65 i0 (M 67 (M 53 19))) 53 11 (((M 53 11) + 1) + 1)) from ⟨fun i i1 i2 => (by rw [mu_i _ _ _ (by omega), mu_i _ _ _ (by omega), mu_i _ _ _ (by omega), mu_i _ _ _ (by omega), mu_i _ _ _ (by omega), mu_i _ _ _ (by omega)]), fun z z1 z2 z3 z4 z5 z6 => (by rw [mu_z _ _ _ z1, mu_i _ _ _ (by decide), mu_i _ _ _ (by decide), mu_i _ _ _ (by decide), mu_z _ _ _ z1, mu_i _ _ _ (by decide)]), fun z hz => ⟨(by rw [mu_i _ _ _ (by decide), mu_i _ _ _ (by decide), mu_i _ _ _ (by decide), mu_i _ _ _ (by decide), mu_i _ _ _ (by decide), mu_i _ _ _ (by decide)]), (by rw [mu_i _ _ _ (by decide), mu_i _ _ _ (by decide), mu_i _ _ _ (by decide), mu_i _ _ _ (by decide), mu_i _ _ _ (by decide), mu_i _ _ _ (by decide)])⟩, fun i i1 i2 z hz => (by rcases (show i = 62 ∨ i = 63 ∨ i = 64 ∨ i = 65 ∨ i = 66 by omega) with h9 | h9 | h9 | h9 | h9; (subst h9; rw [mu_i _ _ _ (by decide), mu_i _ _ _ (by decide), mu_i _ _ _ (by decide), mu_i _ _ _ (by decide), mu_i _ _ _ (by decide), mu_z _ _ _ (by omega)]); (subst h9; rw [mu_i _ _ _ (by decide), mu_i _ _ _ (by decide), mu_i _ _ _ (by decide), mu_z _ _ _ (by omega), mu_i _ _ _ (by decide), mu_i _ _ _ (by decide)]); (subst h9; rw [mu_i _ _ _ (by decide), mu_i _ _ _ (by decide), mu_z _ _ _ (by omega), mu_i _ _ _ (by decide), mu_i _ _ _ (by decide), mu_i _ _ _ (by decide)]); (subst h9; rw [mu_i _ _ _ (by decide), mu_z _ _ _ (by omega), mu_i _ _ _ (by decide), mu_i _ _ _ (by decide), mu_i _ _ _ (by decide), mu_i _ _ _ (by decide)]); (subst h9; rw [mu_i _ _ _ (by decide), mu_i _ _ _ (by decide), mu_i _ _ _ (by decide), mu_i _ _ _ (by decide), mu_i _ _ _ (by decide), mu_i _ _ _ (by decide)])), fun i i1 i2 z hz => (by rw [mu_i _ _ _ (by omega), mu_i _ _ _ (by omega), mu_i _ _ _ (by omega), mu_i _ _ _ (by omega), mu_i _ _ _ (by omega), mu_i _ _ _ (by omega)]), fun z hz => ⟨(by rw [mu_i _ _ _ (by decide), mu_i _ _ _ (by decide), mu_i _ _ _ (by decide), mu_i _ _ _ (by decide), mu_i _ _ _ (by decide), mu_i _ _ _ (by decide)]), (by rw [mu_i _ _ _ (by decide), mu_i _ _ _ (by decide), mu_i _ _ _ (by decide), mu_i _ _ _ (by decide), mu_i _ _ _ (by decide), mu_i _ _ _ (by decide)])⟩⟩))) (by omega) (hr16) 
          · skip
            have bk93 : kdT (bt f n) n (t + 1) ≠ 3 := fun z => hm85 (cOf_key.2.1.mp (iC.trans z))
            replace e84 : M83 = (mu (mu (mu (mu (mu (mu (mu M 62 i0 0) 53 11 ((M 53 11) + 1)) 63 i0 (M 53 32)) 64 i0 (M 53 32)) 65 i0 (M 67 (M 53 19))) 53 13 1) 53 14 (M 57 ((M 53 11) + 1))) := e84.trans ((if_neg (fun z => hm85 z.2)).trans (mFail_n (show ¬ 0 < (M 53 13) by omega)))
            subst e84
            have flq94 : FlT (bt f n) n c0 (mu (mu (mu (mu (mu (mu (mu M 62 i0 0) 53 11 ((M 53 11) + 1)) 63 i0 (M 53 32)) 64 i0 (M 53 32)) 65 i0 (M 67 (M 53 19))) 53 13 1) 53 14 (M 57 ((M 53 11) + 1))) := FlT_mk hI.1 hI.2 (Or.inl ⟨rfl, fun z => by rw [goW_1 rfl] at z; omega, fun z => absurd z.2 (by decide)⟩) rfl (show (M 57 ((M 53 11) + 1)) = _ by exact iP) (show 0 ≤ ((M 53 11) + 1) ∧ ((M 53 11) + 1) ≤ 400 by omega)
            refine v_iconst X dX12_tellRule_199 ?_
            refine v_istore_n X [(3, .int (iz 1)), (2, .int (iz 1)), (1, .int (iz i0)), (0, .ref (ad 53))] dX12_tellRule_200 rfl (by decide) rfl ?_
            refine v_iload_n X 1 dX12_tellRule_201 rfl rfl ?_
            refine v_if_eq X 254 dX12_tellRule_202 (by decide) ⟨by decide, by decide⟩ (fun q => absurd q (by decide)) (fun _ => ?_)
            refine v_aload_n X 3 dX12_tellRule_205 rfl rfl ?_
            refine gt_X12_fault X iwX12 (Std.lt hS rfl) (Std.k hS rfl rfl) (List.mem_cons_of_mem _ bw_19_13) dX12_tellRule_206 1 rfl (fun hr95 => ?_)
            refine v_if_ne X 254 dX12_tellRule_209 (by decide) ⟨by decide, by decide⟩ (fun _ => ?_) (fun q => absurd (by decide) q)
            refine v_aload_n X 3 dX12_tellRule_254 rfl rfl ?_
            refine v_iconst X dX12_tellRule_255 ?_
            refine v_callV X [.int (iz 4)] hRm (c_X12_must _ _ _ hS 4 ⟨by decide, by decide⟩ (show 0 ≤ ((M 53 11) + 1) ∧ ((M 53 11) + 1) ≤ 400 by omega)) (gV bw_21_23 bw_22_0 bw_22_1 bw_1_5 bw_22_2) rfl ddX12_must (by decide) (Std.lt hS rfl) (Std.k hS rfl rfl) ⟨rfl, by decide⟩ (Nat.le_of_ble_eq_true rfl) dX12_tellRule_256 (k_eV (fun M96 e97 => ?_))
            replace e97 : M96 = (mu (mu (mu (mu (mu (mu (mu M 62 i0 0) 53 11 ((M 53 11) + 1)) 63 i0 (M 53 32)) 64 i0 (M 53 32)) 65 i0 (M 67 (M 53 19))) 53 13 1) 53 14 (M 57 ((M 53 11) + 1))) := e97.trans ((if_neg (fun z => absurd (show (1 : Int) = 0 from z.1) (by omega))).trans (mFail_y (show 0 < 1 by omega)))
            rw [e97]
            refine v_aload_n X 3 dX12_tellRule_259 rfl rfl ?_
            refine gt_X12_fault X iwX12 (Std.lt hS rfl) (Std.k hS rfl rfl) (List.mem_cons_of_mem _ bw_19_13) dX12_tellRule_260 1 rfl (fun hr98 => ?_)
            refine v_if_le X 267 dX12_tellRule_263 (by decide) ⟨by decide, by decide⟩ (fun q => absurd q (by decide)) (fun _ => ?_)
            refine hret _ _ _ _ _ _ _ _ _ _ _ none dX12_tellRule_266 ⟨rfl, rfl⟩ (by decide) (by decide) (fun hmok => ?_)
            obtain ⟨t9, F9, f1, f2, f3, f4, f5, f6⟩ := flq94
            exact ⟨rfl, rfl, rfl, rfl, rfl, rfl, Or.inl ⟨t9, F9, f1, f2, f3, f4, f5, show 0 ≤ ((M 53 11) + 1) ∧ ((M 53 11) + 1) ≤ 400 by omega⟩, (frS_trans (frS_refl _ _) (show frS s M (mu (mu (mu (mu (mu (mu (mu M 62 i0 0) 53 11 ((M 53 11) + 1)) 63 i0 (M 53 32)) 64 i0 (M 53 32)) 65 i0 (M 67 (M 53 19))) 53 13 1) 53 14 (M 57 ((M 53 11) + 1))) from ⟨fun i i1 i2 => (by rw [mu_i _ _ _ (by omega), mu_i _ _ _ (by omega), mu_i _ _ _ (by omega), mu_i _ _ _ (by omega), mu_i _ _ _ (by omega), mu_i _ _ _ (by omega), mu_i _ _ _ (by omega)]), fun z z1 z2 z3 z4 z5 z6 => (by rw [mu_z _ _ _ z4, mu_z _ _ _ z3, mu_i _ _ _ (by decide), mu_i _ _ _ (by decide), mu_i _ _ _ (by decide), mu_z _ _ _ z1, mu_i _ _ _ (by decide)]), fun z hz => ⟨(by rw [mu_i _ _ _ (by decide), mu_i _ _ _ (by decide), mu_i _ _ _ (by decide), mu_i _ _ _ (by decide), mu_i _ _ _ (by decide), mu_i _ _ _ (by decide), mu_i _ _ _ (by decide)]), (by rw [mu_i _ _ _ (by decide), mu_i _ _ _ (by decide), mu_i _ _ _ (by decide), mu_i _ _ _ (by decide), mu_i _ _ _ (by decide), mu_i _ _ _ (by decide), mu_i _ _ _ (by decide)])⟩, fun i i1 i2 z hz => (by rcases (show i = 62 ∨ i = 63 ∨ i = 64 ∨ i = 65 ∨ i = 66 by omega) with h9 | h9 | h9 | h9 | h9; (subst h9; rw [mu_i _ _ _ (by decide), mu_i _ _ _ (by decide), mu_i _ _ _ (by decide), mu_i _ _ _ (by decide), mu_i _ _ _ (by decide), mu_i _ _ _ (by decide), mu_z _ _ _ (by omega)]); (subst h9; rw [mu_i _ _ _ (by decide), mu_i _ _ _ (by decide), mu_i _ _ _ (by decide), mu_i _ _ _ (by decide), mu_z _ _ _ (by omega), mu_i _ _ _ (by decide), mu_i _ _ _ (by decide)]); (subst h9; rw [mu_i _ _ _ (by decide), mu_i _ _ _ (by decide), mu_i _ _ _ (by decide), mu_z _ _ _ (by omega), mu_i _ _ _ (by decide), mu_i _ _ _ (by decide), mu_i _ _ _ (by decide)]); (subst h9; rw [mu_i _ _ _ (by decide), mu_i _ _ _ (by decide), mu_z _ _ _ (by omega), mu_i _ _ _ (by decide), mu_i _ _ _ (by decide), mu_i _ _ _ (by decide), mu_i _ _ _ (by decide)]); (subst h9; rw [mu_i _ _ _ (by decide), mu_i _ _ _ (by decide), mu_i _ _ _ (by decide), mu_i _ _ _ (by decide), mu_i _ _ _ (by decide), mu_i _ _ _ (by decide), mu_i _ _ _ (by decide)])), fun i i1 i2 z hz => (by rw [mu_i _ _ _ (by omega), mu_i _ _ _ (by omega), mu_i _ _ _ (by omega), mu_i _ _ _ (by omega), mu_i _ _ _ (by omega), mu_i _ _ _ (by omega), mu_i _ _ _ (by omega)]), fun z hz => ⟨(by rw [mu_i _ _ _ (by decide), mu_i _ _ _ (by decide), mu_i _ _ _ (by decide), mu_i _ _ _ (by decide), mu_i _ _ _ (by decide), mu_i _ _ _ (by decide), mu_i _ _ _ (by decide)]), (by rw [mu_i _ _ _ (by decide), mu_i _ _ _ (by decide), mu_i _ _ _ (by decide), mu_i _ _ _ (by decide), mu_i _ _ _ (by decide), mu_i _ _ _ (by decide), mu_i _ _ _ (by decide)])⟩⟩))⟩
      · skip
        replace b60 : ¬ M 56 (M 53 11) = 20 := fun z => b60 ⟨a13, z⟩
        exfalso; omega
    · skip
      refine v_aload_n X 0 dX12_tellRule_49 rfl rfl ?_
      refine v_iconst X dX12_tellRule_50 ?_
      refine v_callV X [.int (iz 2)] hRm (c_X12_fail _ _ _ hS 2 ⟨by decide, by decide⟩ (show 0 ≤ (M 53 11) ∧ (M 53 11) < 403 by omega)) (gV bw_21_2 bw_21_3 bw_21_4 bw_1_5 bw_21_5) rfl ddX12_fail (by decide) (Std.lt hS rfl) (Std.k hS rfl rfl) ⟨rfl, by decide⟩ (Nat.le_of_ble_eq_true rfl) dX12_tellRule_51 (k_eV (fun M99 e100 => ?_))
      replace e100 : M99 = (mu (mu M 53 13 2) 53 14 (M 57 (M 53 11))) := e100.trans (mFail_n (show ¬ 0 < (M 53 13) by omega))
      subst e100
      have flq101 : FlT (bt f n) n c0 (mu (mu M 53 13 2) 53 14 (M 57 (M 53 11))) := FlT_mk hG hc (Or.inr ⟨rfl, Or.inl ⟨rfl, by omega⟩, Or.inr (Or.inl ⟨rfl, (show 16 ≤ rz by omega)⟩)⟩) rfl (show (M 57 (M 53 11)) = _ by exact aP) (show 0 ≤ (M 53 11) ∧ (M 53 11) ≤ 400 by omega)
      refine v_aload_n X 0 dX12_tellRule_54 rfl rfl ?_
      refine gt_X12_fault X iwX12 (Std.lt hS rfl) (Std.k hS rfl rfl) (List.mem_cons_of_mem _ bw_19_13) dX12_tellRule_55 2 rfl (fun hr102 => ?_)
      refine v_if_le X 62 dX12_tellRule_58 (by decide) ⟨by decide, by decide⟩ (fun q => absurd q (by decide)) (fun _ => ?_)
      refine hret _ _ _ _ _ _ _ _ _ _ _ none dX12_tellRule_61 ⟨rfl, rfl⟩ (by decide) (by decide) (fun hmok => ?_)
      obtain ⟨t9, F9, f1, f2, f3, f4, f5, f6⟩ := flq101
      exact ⟨rfl, rfl, rfl, rfl, rfl, rfl, Or.inl ⟨t9, F9, f1, f2, f3, f4, f5, show 0 ≤ (M 53 11) ∧ (M 53 11) ≤ 400 by omega⟩, (frS_trans (frS_refl _ _) (show frS s M (mu (mu M 53 13 2) 53 14 (M 57 (M 53 11))) from ⟨fun i i1 i2 => (by rw [mu_i _ _ _ (by omega), mu_i _ _ _ (by omega)]), fun z z1 z2 z3 z4 z5 z6 => (by rw [mu_z _ _ _ z4, mu_z _ _ _ z3]), fun z hz => ⟨(by rw [mu_i _ _ _ (by decide), mu_i _ _ _ (by decide)]), (by rw [mu_i _ _ _ (by decide), mu_i _ _ _ (by decide)])⟩, fun i i1 i2 z hz => (by rcases (show i = 62 ∨ i = 63 ∨ i = 64 ∨ i = 65 ∨ i = 66 by omega) with h9 | h9 | h9 | h9 | h9; (subst h9; rw [mu_i _ _ _ (by decide), mu_i _ _ _ (by decide)]); (subst h9; rw [mu_i _ _ _ (by decide), mu_i _ _ _ (by decide)]); (subst h9; rw [mu_i _ _ _ (by decide), mu_i _ _ _ (by decide)]); (subst h9; rw [mu_i _ _ _ (by decide), mu_i _ _ _ (by decide)]); (subst h9; rw [mu_i _ _ _ (by decide), mu_i _ _ _ (by decide)])), fun i i1 i2 z hz => (by rw [mu_i _ _ _ (by omega), mu_i _ _ _ (by omega)]), fun z hz => ⟨(by rw [mu_i _ _ _ (by decide), mu_i _ _ _ (by decide)]), (by rw [mu_i _ _ _ (by decide), mu_i _ _ _ (by decide)])⟩⟩))⟩
  · skip
    replace b50 : ¬ M 56 (M 53 11) = 20 := fun z => b50 ⟨a13, z⟩
    have bk103 : kdT (bt f n) n t ≠ 0 := fun z => b50 (cOf_key.1.mp (aC.trans z))
    refine v_if_ne X 35 dX12_tellRule_6 (by decide) ⟨by decide, by decide⟩ (fun q => absurd q (by decide)) (fun _ => ?_)
    refine v_aload_n X 0 dX12_tellRule_9 rfl rfl ?_
    refine v_bipush X dX12_tellRule_10 (by decide) ?_
    refine v_callV X [.int (iz 22)] hRm (c_X12_is _ _ _ hS 22 ⟨by decide, by decide⟩ (show 0 ≤ (M 53 11) ∧ (M 53 11) < 403 by omega)) (gV bw_20_18 bw_20_19 bw_20_20 bw_1_5 bw_20_21) rfl ddX12_is (by decide) (Std.lt hS rfl) (Std.k hS rfl rfl) ⟨rfl, by decide⟩ (Nat.le_of_ble_eq_true rfl) dX12_tellRule_12 (k_pB (fun b104 => ?_) (fun b104 => ?_))
    · skip
      replace b104 : M 56 (M 53 11) = 22 := b104.2
      have bk105 : kdT (bt f n) n t = 1 := by rw [← aC, b104]; rfl
      refine v_if_ne X 35 dX12_tellRule_15 (by decide) ⟨by decide, by decide⟩ (fun _ => ?_) (fun q => absurd (by decide) q)
      refine v_aload_n X 0 dX12_tellRule_35 rfl rfl ?_
      refine gt_X12_rules X iwX12 (Std.lt hS rfl) (Std.k hS rfl rfl) (List.mem_cons_of_mem _ bw_7_23) dX12_tellRule_36 61 (Std.r hS 20 rfl) ?_
      refine v_aload_n X 0 dX12_tellRule_39 rfl rfl ?_
      refine gt_X12_side X iwX12 (Std.lt hS rfl) (Std.k hS rfl rfl) (List.mem_cons_of_mem _ bw_19_16) dX12_tellRule_40 (M 53 19) rfl (fun hr106 => ?_)
      refine v_iald X (M 61 (M 53 19)) (Std.lt hS rfl) (Std.at hS rfl rfl) (by omega) (by omega) dX12_tellRule_43 rfl (fun hr107 => ?_)
      refine v_bipush X dX12_tellRule_44 (by decide) ?_
      refine v_icmp_ne X 54 dX12_tellRule_46 (by decide) ⟨by omega, by omega⟩ ⟨by decide, by decide⟩ (fun u108 => ?_) (fun u108 => ?_)
      · skip
        refine v_aload_n X 0 dX12_tellRule_54 rfl rfl ?_
        refine gt_X12_fault X iwX12 (Std.lt hS rfl) (Std.k hS rfl rfl) (List.mem_cons_of_mem _ bw_19_13) dX12_tellRule_55 (M 53 13) rfl (fun hr109 => ?_)
        refine v_if_le X 62 dX12_tellRule_58 (by decide) ⟨by omega, by omega⟩ (fun u110 => ?_) (fun q => absurd (by omega) q)
        have hr16 : rz < 16 := by omega
        refine v_bipush X dX12_tellRule_62 (by decide) ?_
        refine v_aload_n X 0 dX12_tellRule_64 rfl rfl ?_
        refine gt_X12_side X iwX12 (Std.lt hS rfl) (Std.k hS rfl rfl) (List.mem_cons_of_mem _ bw_19_16) dX12_tellRule_65 (M 53 19) rfl (fun hr111 => ?_)
        refine v_imul X dX12_tellRule_68 ?_
        refine v_aload_n X 0 dX12_tellRule_69 rfl rfl ?_
        refine gt_X12_rules X iwX12 (Std.lt hS rfl) (Std.k hS rfl rfl) (List.mem_cons_of_mem _ bw_7_23) dX12_tellRule_70 61 (Std.r hS 20 rfl) ?_
        refine v_aload_n X 0 dX12_tellRule_73 rfl rfl ?_
        refine gt_X12_side X iwX12 (Std.lt hS rfl) (Std.k hS rfl rfl) (List.mem_cons_of_mem _ bw_19_16) dX12_tellRule_74 (M 53 19) rfl (fun hr112 => ?_)
        refine v_iald X (M 61 (M 53 19)) (Std.lt hS rfl) (Std.at hS rfl rfl) (by omega) (by omega) dX12_tellRule_77 rfl (fun hr113 => ?_)
        refine v_iadd X dX12_tellRule_78 ?_
        refine v_istore_n X [(1, .int (iz ((16 * (M 53 19)) + (M 61 (M 53 19))))), (0, .ref (ad 53))] dX12_tellRule_79 rfl (by decide) rfl ?_
        rw [← hi0]
        refine v_aload_n X 1 dX12_tellRule_80 rfl rfl ?_
        refine gt_X12_ruleSort X iwX12 (Std.lt hS rfl) (Std.k hS rfl rfl) (List.mem_cons_of_mem _ bw_8_0) dX12_tellRule_81 62 (Std.r hS 21 rfl) ?_
        refine v_iload_n X 0 dX12_tellRule_84 rfl rfl ?_
        refine v_aload_n X 1 dX12_tellRule_85 rfl rfl ?_
        refine v_bipush X dX12_tellRule_86 (by decide) ?_
        refine v_callV X [.int (iz 20)] hRm (c_X12_is _ _ _ hS 20 ⟨by decide, by decide⟩ (show 0 ≤ (M 53 11) ∧ (M 53 11) < 403 by omega)) (gV bw_20_18 bw_20_19 bw_20_20 bw_1_5 bw_20_21) rfl ddX12_is (by decide) (Std.lt hS rfl) (Std.k hS rfl rfl) ⟨rfl, by decide⟩ (Nat.le_of_ble_eq_true rfl) dX12_tellRule_88 (k_pB (fun b114 => ?_) (fun b114 => ?_))
        · skip
          replace b114 : M 56 (M 53 11) = 20 := b114.2
          exfalso; omega
        · skip
          replace b114 : ¬ M 56 (M 53 11) = 20 := fun z => b114 ⟨a13, z⟩
          have bk115 : kdT (bt f n) n t ≠ 0 := fun z => b114 (cOf_key.1.mp (aC.trans z))
          refine v_if_eq X 98 dX12_tellRule_91 (by decide) ⟨by decide, by decide⟩ (fun _ => ?_) (fun q => absurd (by decide) q)
          refine v_aload_n X 1 dX12_tellRule_98 rfl rfl ?_
          refine v_bipush X dX12_tellRule_99 (by decide) ?_
          refine v_callV X [.int (iz 22)] hRm (c_X12_is _ _ _ hS 22 ⟨by decide, by decide⟩ (show 0 ≤ (M 53 11) ∧ (M 53 11) < 403 by omega)) (gV bw_20_18 bw_20_19 bw_20_20 bw_1_5 bw_20_21) rfl ddX12_is (by decide) (Std.lt hS rfl) (Std.k hS rfl rfl) ⟨rfl, by decide⟩ (Nat.le_of_ble_eq_true rfl) dX12_tellRule_101 (k_pB (fun b116 => ?_) (fun b116 => ?_))
          · skip
            replace b116 : M 56 (M 53 11) = 22 := b116.2
            refine v_if_eq X 111 dX12_tellRule_104 (by decide) ⟨by decide, by decide⟩ (fun q => absurd q (by decide)) (fun _ => ?_)
            refine v_iconst X dX12_tellRule_107 ?_
            refine v_goto X 112 dX12_tellRule_108 (by decide) ?_
            refine v_iast X (Std.lt hS rfl) (Std.at hS rfl rfl) (by omega) (by omega) ⟨by decide, by decide⟩ dX12_tellRule_112 ?_
            refine v_aload_n X 1 dX12_tellRule_113 rfl rfl ?_
            refine v_callV X [] hRm (c_X12_next _ _ _ hS (show 0 ≤ (M 53 11) ∧ (M 53 11) ≤ 400 by omega)) (gV bw_21_6 bw_21_7 bw_21_8 bw_1_5 bw_21_9) rfl ddX12_next (by decide) (Std.lt hS rfl) (Std.k hS rfl rfl) ⟨rfl, by decide⟩ (Nat.le_of_ble_eq_true rfl) dX12_tellRule_114 (k_eV (fun M117 e118 => ?_))
            by_cases ht119 : (M 53 11) = 400
            · skip
              replace e118 : M117 = (mu (mu (mu M 62 i0 1) 53 13 2) 53 14 (M 57 (M 53 11))) := e118.trans (mNext_full (show (M 53 11) = 400 from ht119) (show ¬ 0 < (M 53 13) by omega))
              subst e118
              have flq120 : FlT (bt f n) n c0 (mu (mu (mu M 62 i0 1) 53 13 2) 53 14 (M 57 (M 53 11))) := FlT_mk hG hc (Or.inr ⟨rfl, Or.inl ⟨rfl, by omega⟩, Or.inl (by omega)⟩) rfl (show (M 57 (M 53 11)) = _ by exact aP) (show 0 ≤ (M 53 11) ∧ (M 53 11) ≤ 400 by omega)
              refine v_aload_n X 1 dX12_tellRule_117 rfl rfl ?_
              refine gt_X12_ruleFrom X iwX12 (Std.lt hS rfl) (Std.k hS rfl rfl) (List.mem_cons_of_mem _ bw_8_1) dX12_tellRule_118 63 (Std.r hS 22 rfl) ?_
              refine v_iload_n X 0 dX12_tellRule_121 rfl rfl ?_
              refine v_aload_n X 1 dX12_tellRule_122 rfl rfl ?_
              refine gt_X12_codes X iwX12 (Std.lt hS rfl) (Std.k hS rfl rfl) (List.mem_cons_of_mem _ bw_19_17) dX12_tellRule_123 (M 53 32) rfl (fun hr121 => ?_)
              refine v_iast X (Std.lt hS rfl) (Std.at hS rfl rfl) (by omega) (by omega) ⟨by omega, by omega⟩ dX12_tellRule_126 ?_
              refine v_aload_n X 1 dX12_tellRule_127 rfl rfl ?_
              refine gt_X12_ruleSort X iwX12 (Std.lt hS rfl) (Std.k hS rfl rfl) (List.mem_cons_of_mem _ bw_8_0) dX12_tellRule_128 62 (Std.r hS 21 rfl) ?_
              refine v_iload_n X 0 dX12_tellRule_131 rfl rfl ?_
              refine v_iald X 1 (Std.lt hS rfl) (Std.at hS rfl rfl) (by omega) (by omega) dX12_tellRule_132 (by simp [mu, mrow]) (fun hr122 => ?_)
              refine v_if_le X 140 dX12_tellRule_133 (by decide) ⟨by decide, by decide⟩ (fun q => absurd q (by decide)) (fun _ => ?_)
              refine v_aload_n X 1 dX12_tellRule_136 rfl rfl ?_
              refine v_callV X [] hRm (c_X12_expression_f _ _ _ hS (show 0 < 2 by omega)) (gV bw_21_10 bw_21_11 bw_21_12 bw_1_5 bw_21_13) rfl ddX12_expression (by decide) (Std.lt hS rfl) (Std.k hS rfl rfl) ⟨rfl, by decide⟩ (Nat.le_of_ble_eq_true rfl) dX12_tellRule_137 (k_eV (fun M124 e123 => ?_))
              replace e123 : M124 = (mu (mu (mu (mu (mu M 62 i0 1) 53 13 2) 53 14 (M 57 (M 53 11))) 63 i0 (M 53 32)) 53 36 0) := e123
              subst e123
              refine v_aload_n X 1 dX12_tellRule_140 rfl rfl ?_
              refine gt_X12_ruleTo X iwX12 (Std.lt hS rfl) (Std.k hS rfl rfl) (List.mem_cons_of_mem _ bw_8_2) dX12_tellRule_141 64 (Std.r hS 23 rfl) ?_
              refine v_iload_n X 0 dX12_tellRule_144 rfl rfl ?_
              refine v_aload_n X 1 dX12_tellRule_145 rfl rfl ?_
              refine gt_X12_codes X iwX12 (Std.lt hS rfl) (Std.k hS rfl rfl) (List.mem_cons_of_mem _ bw_19_17) dX12_tellRule_146 (M 53 32) rfl (fun hr125 => ?_)
              refine v_iast X (Std.lt hS rfl) (Std.at hS rfl rfl) (by omega) (by omega) ⟨by omega, by omega⟩ dX12_tellRule_149 ?_
              refine v_aload_n X 1 dX12_tellRule_150 rfl rfl ?_
              refine gt_X12_relFirst X iwX12 (Std.lt hS rfl) (Std.k hS rfl rfl) (List.mem_cons_of_mem _ bw_8_3) dX12_tellRule_151 65 (Std.r hS 24 rfl) ?_
              refine v_iload_n X 0 dX12_tellRule_154 rfl rfl ?_
              refine v_aload_n X 1 dX12_tellRule_155 rfl rfl ?_
              refine gt_X12_relations X iwX12 (Std.lt hS rfl) (Std.k hS rfl rfl) (List.mem_cons_of_mem _ bw_8_5) dX12_tellRule_156 67 (Std.r hS 26 rfl) ?_
              refine v_aload_n X 1 dX12_tellRule_159 rfl rfl ?_
              refine gt_X12_side X iwX12 (Std.lt hS rfl) (Std.k hS rfl rfl) (List.mem_cons_of_mem _ bw_19_16) dX12_tellRule_160 (M 53 19) rfl (fun hr126 => ?_)
              refine v_iald X (M 67 (M 53 19)) (Std.lt hS rfl) (Std.at hS rfl rfl) (by omega) (by omega) dX12_tellRule_163 rfl (fun hr127 => ?_)
              refine v_iast X (Std.lt hS rfl) (Std.at hS rfl rfl) (by omega) (by omega) ⟨by omega, by omega⟩ dX12_tellRule_164 ?_
              refine v_aload_n X 1 dX12_tellRule_165 rfl rfl ?_
              refine gt_X12_ruleSort X iwX12 (Std.lt hS rfl) (Std.k hS rfl rfl) (List.mem_cons_of_mem _ bw_8_0) dX12_tellRule_166 62 (Std.r hS 21 rfl) ?_
              refine v_iload_n X 0 dX12_tellRule_169 rfl rfl ?_
              refine v_iald X 1 (Std.lt hS rfl) (Std.at hS rfl rfl) (by omega) (by omega) dX12_tellRule_170 (by simp [mu, mrow]) (fun hr128 => ?_)
              refine v_if_eq X 183 dX12_tellRule_171 (by decide) ⟨by decide, by decide⟩ (fun q => absurd q (by decide)) (fun _ => ?_)
              refine v_aload_n X 1 dX12_tellRule_174 rfl rfl ?_
              refine v_bipush X dX12_tellRule_175 (by decide) ?_
              refine v_callV X [.int (iz 21)] hRm (c_X12_is _ _ _ hS 21 ⟨by decide, by decide⟩ (show 0 ≤ (M 53 11) ∧ (M 53 11) < 403 by omega)) (gV bw_20_18 bw_20_19 bw_20_20 bw_1_5 bw_20_21) rfl ddX12_is (by decide) (Std.lt hS rfl) (Std.k hS rfl rfl) ⟨rfl, by decide⟩ (Nat.le_of_ble_eq_true rfl) dX12_tellRule_177 (k_pB (fun q => absurd (show (2 : Int) = 0 from q.1) (by omega)) (fun _ => ?_))
              refine v_if_eq X 187 dX12_tellRule_180 (by decide) ⟨by decide, by decide⟩ (fun _ => ?_) (fun q => absurd (by decide) q)
              refine v_iconst X dX12_tellRule_187 ?_
              refine v_istore_n X [(2, .int (iz 0)), (1, .int (iz i0)), (0, .ref (ad 53))] dX12_tellRule_188 rfl (by decide) rfl ?_
              refine v_iload_n X 0 dX12_tellRule_189 rfl rfl ?_
              refine v_if_eq X 199 dX12_tellRule_190 (by decide) ⟨by decide, by decide⟩ (fun _ => ?_) (fun q => absurd (by decide) q)
              refine v_iconst X dX12_tellRule_199 ?_
              refine v_istore_n X [(3, .int (iz 1)), (2, .int (iz 0)), (1, .int (iz i0)), (0, .ref (ad 53))] dX12_tellRule_200 rfl (by decide) rfl ?_
              refine v_iload_n X 1 dX12_tellRule_201 rfl rfl ?_
              refine v_if_eq X 254 dX12_tellRule_202 (by decide) ⟨by decide, by decide⟩ (fun _ => ?_) (fun q => absurd (by decide) q)
              refine v_aload_n X 3 dX12_tellRule_254 rfl rfl ?_
              refine v_iconst X dX12_tellRule_255 ?_
              refine v_callV X [.int (iz 4)] hRm (c_X12_must _ _ _ hS 4 ⟨by decide, by decide⟩ (show 0 ≤ (M 53 11) ∧ (M 53 11) ≤ 400 by omega)) (gV bw_21_23 bw_22_0 bw_22_1 bw_1_5 bw_22_2) rfl ddX12_must (by decide) (Std.lt hS rfl) (Std.k hS rfl rfl) ⟨rfl, by decide⟩ (Nat.le_of_ble_eq_true rfl) dX12_tellRule_256 (k_eV (fun M129 e130 => ?_))
              replace e130 : M129 = (mu (mu (mu (mu (mu (mu (mu M 62 i0 1) 53 13 2) 53 14 (M 57 (M 53 11))) 63 i0 (M 53 32)) 53 36 0) 64 i0 (M 53 32)) 65 i0 (M 67 (M 53 19))) := e130.trans ((if_neg (fun z => absurd (show (2 : Int) = 0 from z.1) (by omega))).trans (mFail_y (show 0 < 2 by omega)))
              rw [e130]
              refine v_aload_n X 3 dX12_tellRule_259 rfl rfl ?_
              refine gt_X12_fault X iwX12 (Std.lt hS rfl) (Std.k hS rfl rfl) (List.mem_cons_of_mem _ bw_19_13) dX12_tellRule_260 2 rfl (fun hr131 => ?_)
              refine v_if_le X 267 dX12_tellRule_263 (by decide) ⟨by decide, by decide⟩ (fun q => absurd q (by decide)) (fun _ => ?_)
              refine hret _ _ _ _ _ _ _ _ _ _ _ none dX12_tellRule_266 ⟨rfl, rfl⟩ (by decide) (by decide) (fun hmok => ?_)
              obtain ⟨t9, F9, f1, f2, f3, f4, f5, f6⟩ := flq120
              exact ⟨rfl, rfl, rfl, rfl, rfl, rfl, Or.inl ⟨t9, F9, f1, f2, f3, f4, f5, show 0 ≤ (M 53 11) ∧ (M 53 11) ≤ 400 by omega⟩, (frS_trans (frS_refl _ _) (show frS s M (mu (mu (mu (mu (mu (mu (mu M 62 i0 1) 53 13 2) 53 14 (M 57 (M 53 11))) 63 i0 (M 53 32)) 53 36 0) 64 i0 (M 53 32)) 65 i0 (M 67 (M 53 19))) from ⟨fun i i1 i2 => (by rw [mu_i _ _ _ (by omega), mu_i _ _ _ (by omega), mu_i _ _ _ (by omega), mu_i _ _ _ (by omega), mu_i _ _ _ (by omega), mu_i _ _ _ (by omega), mu_i _ _ _ (by omega)]), fun z z1 z2 z3 z4 z5 z6 => (by rw [mu_i _ _ _ (by decide), mu_i _ _ _ (by decide), mu_z _ _ _ z6, mu_i _ _ _ (by decide), mu_z _ _ _ z4, mu_z _ _ _ z3, mu_i _ _ _ (by decide)]), fun z hz => ⟨(by rw [mu_i _ _ _ (by decide), mu_i _ _ _ (by decide), mu_i _ _ _ (by decide), mu_i _ _ _ (by decide), mu_i _ _ _ (by decide), mu_i _ _ _ (by decide), mu_i _ _ _ (by decide)]), (by rw [mu_i _ _ _ (by decide), mu_i _ _ _ (by decide), mu_i _ _ _ (by decide), mu_i _ _ _ (by decide), mu_i _ _ _ (by decide), mu_i _ _ _ (by decide), mu_i _ _ _ (by decide)])⟩, fun i i1 i2 z hz => (by rcases (show i = 62 ∨ i = 63 ∨ i = 64 ∨ i = 65 ∨ i = 66 by omega) with h9 | h9 | h9 | h9 | h9; (subst h9; rw [mu_i _ _ _ (by decide), mu_i _ _ _ (by decide), mu_i _ _ _ (by decide), mu_i _ _ _ (by decide), mu_i _ _ _ (by decide), mu_i _ _ _ (by decide), mu_z _ _ _ (by omega)]); (subst h9; rw [mu_i _ _ _ (by decide), mu_i _ _ _ (by decide), mu_i _ _ _ (by decide), mu_z _ _ _ (by omega), mu_i _ _ _ (by decide), mu_i _ _ _ (by decide), mu_i _ _ _ (by decide)]); (subst h9; rw [mu_i _ _ _ (by decide), mu_z _ _ _ (by omega), mu_i _ _ _ (by decide), mu_i _ _ _ (by decide), mu_i _ _ _ (by decide), mu_i _ _ _ (by decide), mu_i _ _ _ (by decide)]); (subst h9; rw [mu_z _ _ _ (by omega), mu_i _ _ _ (by decide), mu_i _ _ _ (by decide), mu_i _ _ _ (by decide), mu_i _ _ _ (by decide), mu_i _ _ _ (by decide), mu_i _ _ _ (by decide)]); (subst h9; rw [mu_i _ _ _ (by decide), mu_i _ _ _ (by decide), mu_i _ _ _ (by decide), mu_i _ _ _ (by decide), mu_i _ _ _ (by decide), mu_i _ _ _ (by decide), mu_i _ _ _ (by decide)])), fun i i1 i2 z hz => (by rw [mu_i _ _ _ (by omega), mu_i _ _ _ (by omega), mu_i _ _ _ (by omega), mu_i _ _ _ (by omega), mu_i _ _ _ (by omega), mu_i _ _ _ (by omega), mu_i _ _ _ (by omega)]), fun z hz => ⟨(by rw [mu_i _ _ _ (by decide), mu_i _ _ _ (by decide), mu_i _ _ _ (by decide), mu_i _ _ _ (by decide), mu_i _ _ _ (by decide), mu_i _ _ _ (by decide), mu_i _ _ _ (by decide)]), (by rw [mu_i _ _ _ (by decide), mu_i _ _ _ (by decide), mu_i _ _ _ (by decide), mu_i _ _ _ (by decide), mu_i _ _ _ (by decide), mu_i _ _ _ (by decide), mu_i _ _ _ (by decide)])⟩⟩))⟩
            · skip
              replace e118 : M117 = (mu (mu M 62 i0 1) 53 11 ((M 53 11) + 1)) := e118.trans (mNext_go (show (M 53 11) ≠ 400 from ht119))
              subst e118
              have hkd : kdT (bt f n) n t = 1 := by omega
              have hI := st_rule hG hc (by omega) hr16 (by omega)
              rw [hkd] at hI
              replace hI : GT (bt f n) n c0 (t + 1) ∧ cm (bt f n) n c0 (t + 1) = (2, 0, 0, [], cz0, cd0, rz, fu rk rz 1, fu rs rz cz0, fu rc rz (-1), re) := hI
              refine v_aload_n X 1 dX12_tellRule_117 rfl rfl ?_
              refine gt_X12_ruleFrom X iwX12 (Std.lt hS rfl) (Std.k hS rfl rfl) (List.mem_cons_of_mem _ bw_8_1) dX12_tellRule_118 63 (Std.r hS 22 rfl) ?_
              refine v_iload_n X 0 dX12_tellRule_121 rfl rfl ?_
              refine v_aload_n X 1 dX12_tellRule_122 rfl rfl ?_
              refine gt_X12_codes X iwX12 (Std.lt hS rfl) (Std.k hS rfl rfl) (List.mem_cons_of_mem _ bw_19_17) dX12_tellRule_123 (M 53 32) rfl (fun hr132 => ?_)
              refine v_iast X (Std.lt hS rfl) (Std.at hS rfl rfl) (by omega) (by omega) ⟨by omega, by omega⟩ dX12_tellRule_126 ?_
              refine v_aload_n X 1 dX12_tellRule_127 rfl rfl ?_
              refine gt_X12_ruleSort X iwX12 (Std.lt hS rfl) (Std.k hS rfl rfl) (List.mem_cons_of_mem _ bw_8_0) dX12_tellRule_128 62 (Std.r hS 21 rfl) ?_
              refine v_iload_n X 0 dX12_tellRule_131 rfl rfl ?_
              refine v_iald X 1 (Std.lt hS rfl) (Std.at hS rfl rfl) (by omega) (by omega) dX12_tellRule_132 (by simp [mu, mrow]) (fun hr133 => ?_)
              refine v_if_le X 140 dX12_tellRule_133 (by decide) ⟨by decide, by decide⟩ (fun q => absurd q (by decide)) (fun _ => ?_)
              refine v_aload_n X 1 dX12_tellRule_136 rfl rfl ?_
              have hfI := (show frI i0 M (mu (mu (mu M 62 i0 1) 53 11 ((M 53 11) + 1)) 63 i0 (M 53 32)) from ⟨fun j j1 j2 => (by rw [mu_i _ _ _ (by omega), mu_i _ _ _ (by omega), mu_i _ _ _ (by omega)]), fun z z1 => (by rw [mu_i _ _ _ (by decide), mu_z _ _ _ z1, mu_i _ _ _ (by decide)]), fun j j1 j2 z hz => (by rcases (show j = 62 ∨ j = 63 ∨ j = 64 ∨ j = 65 ∨ j = 66 by omega) with h9 | h9 | h9 | h9 | h9; (subst h9; rw [mu_i _ _ _ (by decide), mu_i _ _ _ (by decide), mu_z _ _ _ hz]); (subst h9; rw [mu_z _ _ _ hz, mu_i _ _ _ (by decide), mu_i _ _ _ (by decide)]); (subst h9; rw [mu_i _ _ _ (by decide), mu_i _ _ _ (by decide), mu_i _ _ _ (by decide)]); (subst h9; rw [mu_i _ _ _ (by decide), mu_i _ _ _ (by decide), mu_i _ _ _ (by decide)]); (subst h9; rw [mu_i _ _ _ (by decide), mu_i _ _ _ (by decide), mu_i _ _ _ (by decide)]))⟩)
              have hfb := (frS_trans (frS_refl _ _) (show frS s M (mu (mu (mu M 62 i0 1) 53 11 ((M 53 11) + 1)) 63 i0 (M 53 32)) from ⟨fun i i1 i2 => (by rw [mu_i _ _ _ (by omega), mu_i _ _ _ (by omega), mu_i _ _ _ (by omega)]), fun z z1 z2 z3 z4 z5 z6 => (by rw [mu_i _ _ _ (by decide), mu_z _ _ _ z1, mu_i _ _ _ (by decide)]), fun z hz => ⟨(by rw [mu_i _ _ _ (by decide), mu_i _ _ _ (by decide), mu_i _ _ _ (by decide)]), (by rw [mu_i _ _ _ (by decide), mu_i _ _ _ (by decide), mu_i _ _ _ (by decide)])⟩, fun i i1 i2 z hz => (by rcases (show i = 62 ∨ i = 63 ∨ i = 64 ∨ i = 65 ∨ i = 66 by omega) with h9 | h9 | h9 | h9 | h9; (subst h9; rw [mu_i _ _ _ (by decide), mu_i _ _ _ (by decide), mu_z _ _ _ (by omega)]); (subst h9; rw [mu_z _ _ _ (by omega), mu_i _ _ _ (by decide), mu_i _ _ _ (by decide)]); (subst h9; rw [mu_i _ _ _ (by decide), mu_i _ _ _ (by decide), mu_i _ _ _ (by decide)]); (subst h9; rw [mu_i _ _ _ (by decide), mu_i _ _ _ (by decide), mu_i _ _ _ (by decide)]); (subst h9; rw [mu_i _ _ _ (by decide), mu_i _ _ _ (by decide), mu_i _ _ _ (by decide)])), fun i i1 i2 z hz => (by rw [mu_i _ _ _ (by omega), mu_i _ _ _ (by omega), mu_i _ _ _ (by omega)]), fun z hz => ⟨(by rw [mu_i _ _ _ (by decide), mu_i _ _ _ (by decide), mu_i _ _ _ (by decide)]), (by rw [mu_i _ _ _ (by decide), mu_i _ _ _ (by decide), mu_i _ _ _ (by decide)])⟩⟩))
              refine v_callV X [] hRm (c_X12_expression _ _ _ hS f n c0 0 [] cz0 cd0 (rz, fu rk rz 1, fu rs rz cz0, fu rc rz (-1), re) (M 53 32) (t + 1) ⟨fun x hx => by simp at hx, by decide, hz0, h0⟩ (frS_tok (frS_trans (frS_refl _ _) (show frS s M (mu (mu (mu M 62 i0 1) 53 11 ((M 53 11) + 1)) 63 i0 (M 53 32)) from ⟨fun i i1 i2 => (by rw [mu_i _ _ _ (by omega), mu_i _ _ _ (by omega), mu_i _ _ _ (by omega)]), fun z z1 z2 z3 z4 z5 z6 => (by rw [mu_i _ _ _ (by decide), mu_z _ _ _ z1, mu_i _ _ _ (by decide)]), fun z hz => ⟨(by rw [mu_i _ _ _ (by decide), mu_i _ _ _ (by decide), mu_i _ _ _ (by decide)]), (by rw [mu_i _ _ _ (by decide), mu_i _ _ _ (by decide), mu_i _ _ _ (by decide)])⟩, fun i i1 i2 z hz => (by rcases (show i = 62 ∨ i = 63 ∨ i = 64 ∨ i = 65 ∨ i = 66 by omega) with h9 | h9 | h9 | h9 | h9; (subst h9; rw [mu_i _ _ _ (by decide), mu_i _ _ _ (by decide), mu_z _ _ _ (by omega)]); (subst h9; rw [mu_z _ _ _ (by omega), mu_i _ _ _ (by decide), mu_i _ _ _ (by decide)]); (subst h9; rw [mu_i _ _ _ (by decide), mu_i _ _ _ (by decide), mu_i _ _ _ (by decide)]); (subst h9; rw [mu_i _ _ _ (by decide), mu_i _ _ _ (by decide), mu_i _ _ _ (by decide)]); (subst h9; rw [mu_i _ _ _ (by decide), mu_i _ _ _ (by decide), mu_i _ _ _ (by decide)])), fun i i1 i2 z hz => (by rw [mu_i _ _ _ (by omega), mu_i _ _ _ (by omega), mu_i _ _ _ (by omega)]), fun z hz => ⟨(by rw [mu_i _ _ _ (by decide), mu_i _ _ _ (by decide), mu_i _ _ _ (by decide)]), (by rw [mu_i _ _ _ (by decide), mu_i _ _ _ (by decide), mu_i _ _ _ (by decide)])⟩⟩)) hT) hI.1 hI.2 (show M 53 11 + 1 = _ by omega) (show M 53 12 = 0 from a12) (show M 53 13 = 0 from a13) (show M 53 32 = _ from rfl) (by omega)) (gV bw_21_10 bw_21_11 bw_21_12 bw_1_5 bw_21_13) rfl ddX12_expression (by decide) (Std.lt hS rfl) (Std.k hS rfl rfl) ⟨rfl, by decide⟩ (Nat.le_of_ble_eq_true rfl) dX12_tellRule_137 (k_eV (fun Mp e1 => ?_))
              obtain ⟨e1, ef1⟩ := e1
              have hfp : frS s M Mp := frS_trans hfb (frE_S ef1 (by omega) (by omega))
              have p19 : Mp 53 19 = s := (hfp.2.1 19 (by decide) (by decide) (by decide) (by decide) (by decide) (by decide)).trans a19
              have p62 : Mp 62 = (mu (mu (mu M 62 i0 1) 53 11 ((M 53 11) + 1)) 63 i0 (M 53 32)) 62 := ef1.1 62 (by decide) (by decide) (by decide) (by decide)
              have p62i : Mp 62 i0 = 1 := by rw [p62, mu_i _ _ _ (by decide), mu_i _ _ _ (by decide), mu_s]
              rcases e1 with efl | ⟨t1, ht1, ee⟩
              · skip
                have efp : 0 < Mp 53 13 := by obtain ⟨_, F9, _, _, f3, f4, _, _⟩ := efl; omega
                have efb : 0 ≤ Mp 53 11 ∧ Mp 53 11 ≤ 400 := by obtain ⟨_, F9, _, _, f3, f4, _, f6⟩ := efl; exact f6
                refine v_aload_n X 1 dX12_tellRule_140 rfl rfl ?_
                refine gt_X12_ruleTo X iwX12 (Std.lt hS rfl) (Std.k hS rfl rfl) (List.mem_cons_of_mem _ bw_8_2) dX12_tellRule_141 64 (Std.r hS 23 rfl) ?_
                refine v_iload_n X 0 dX12_tellRule_144 rfl rfl ?_
                refine v_aload_n X 1 dX12_tellRule_145 rfl rfl ?_
                refine gt_X12_codes X iwX12 (Std.lt hS rfl) (Std.k hS rfl rfl) (List.mem_cons_of_mem _ bw_19_17) dX12_tellRule_146 (Mp 53 32) rfl (fun hr134 => ?_)
                refine v_iast X (Std.lt hS rfl) (Std.at hS rfl rfl) (by omega) (by omega) ⟨by omega, by omega⟩ dX12_tellRule_149 ?_
                refine v_aload_n X 1 dX12_tellRule_150 rfl rfl ?_
                refine gt_X12_relFirst X iwX12 (Std.lt hS rfl) (Std.k hS rfl rfl) (List.mem_cons_of_mem _ bw_8_3) dX12_tellRule_151 65 (Std.r hS 24 rfl) ?_
                refine v_iload_n X 0 dX12_tellRule_154 rfl rfl ?_
                refine v_aload_n X 1 dX12_tellRule_155 rfl rfl ?_
                refine gt_X12_relations X iwX12 (Std.lt hS rfl) (Std.k hS rfl rfl) (List.mem_cons_of_mem _ bw_8_5) dX12_tellRule_156 67 (Std.r hS 26 rfl) ?_
                refine v_aload_n X 1 dX12_tellRule_159 rfl rfl ?_
                refine gt_X12_side X iwX12 (Std.lt hS rfl) (Std.k hS rfl rfl) (List.mem_cons_of_mem _ bw_19_16) dX12_tellRule_160 (Mp 53 19) rfl (fun hr135 => ?_)
                refine v_iald X (Mp 67 (Mp 53 19)) (Std.lt hS rfl) (Std.at hS rfl rfl) (by omega) (by omega) dX12_tellRule_163 rfl (fun hr136 => ?_)
                refine v_iast X (Std.lt hS rfl) (Std.at hS rfl rfl) (by omega) (by omega) ⟨by omega, by omega⟩ dX12_tellRule_164 ?_
                refine v_aload_n X 1 dX12_tellRule_165 rfl rfl ?_
                refine gt_X12_ruleSort X iwX12 (Std.lt hS rfl) (Std.k hS rfl rfl) (List.mem_cons_of_mem _ bw_8_0) dX12_tellRule_166 62 (Std.r hS 21 rfl) ?_
                refine v_iload_n X 0 dX12_tellRule_169 rfl rfl ?_
                refine v_iald X (Mp 62 i0) (Std.lt hS rfl) (Std.at hS rfl rfl) (by omega) (by omega) dX12_tellRule_170 rfl (fun hr137 => ?_)
                refine v_st (st' := [.int (iz 1)]) (by rw [show (Mp 62 i0) = (1 : Int) from p62i]) ?_
                refine v_if_eq X 183 dX12_tellRule_171 (by decide) ⟨by decide, by decide⟩ (fun q => absurd q (by decide)) (fun _ => ?_)
                refine v_aload_n X 1 dX12_tellRule_174 rfl rfl ?_
                refine v_bipush X dX12_tellRule_175 (by decide) ?_
                refine v_callV X [.int (iz 21)] hRm (c_X12_is _ _ _ hS 21 ⟨by decide, by decide⟩ (show 0 ≤ (Mp 53 11) ∧ (Mp 53 11) < 403 by omega)) (gV bw_20_18 bw_20_19 bw_20_20 bw_1_5 bw_20_21) rfl ddX12_is (by decide) (Std.lt hS rfl) (Std.k hS rfl rfl) ⟨rfl, by decide⟩ (Nat.le_of_ble_eq_true rfl) dX12_tellRule_177 (k_pB (fun q => absurd (show ((Mp 53 13) : Int) = 0 from q.1) (by omega)) (fun _ => ?_))
                refine v_if_eq X 187 dX12_tellRule_180 (by decide) ⟨by decide, by decide⟩ (fun _ => ?_) (fun q => absurd (by decide) q)
                refine v_iconst X dX12_tellRule_187 ?_
                refine v_istore_n X [(2, .int (iz 0)), (1, .int (iz i0)), (0, .ref (ad 53))] dX12_tellRule_188 rfl (by decide) rfl ?_
                refine v_iload_n X 0 dX12_tellRule_189 rfl rfl ?_
                refine v_if_eq X 199 dX12_tellRule_190 (by decide) ⟨by decide, by decide⟩ (fun _ => ?_) (fun q => absurd (by decide) q)
                refine v_iconst X dX12_tellRule_199 ?_
                refine v_istore_n X [(3, .int (iz 1)), (2, .int (iz 0)), (1, .int (iz i0)), (0, .ref (ad 53))] dX12_tellRule_200 rfl (by decide) rfl ?_
                refine v_iload_n X 1 dX12_tellRule_201 rfl rfl ?_
                refine v_if_eq X 254 dX12_tellRule_202 (by decide) ⟨by decide, by decide⟩ (fun _ => ?_) (fun q => absurd (by decide) q)
                refine v_aload_n X 3 dX12_tellRule_254 rfl rfl ?_
                refine v_iconst X dX12_tellRule_255 ?_
                refine v_callV X [.int (iz 4)] hRm (c_X12_must _ _ _ hS 4 ⟨by decide, by decide⟩ (show 0 ≤ (Mp 53 11) ∧ (Mp 53 11) ≤ 400 by omega)) (gV bw_21_23 bw_22_0 bw_22_1 bw_1_5 bw_22_2) rfl ddX12_must (by decide) (Std.lt hS rfl) (Std.k hS rfl rfl) ⟨rfl, by decide⟩ (Nat.le_of_ble_eq_true rfl) dX12_tellRule_256 (k_eV (fun M138 e139 => ?_))
                replace e139 : M138 = (mu (mu Mp 64 i0 (Mp 53 32)) 65 i0 (Mp 67 (Mp 53 19))) := e139.trans ((if_neg (fun z => absurd (show ((Mp 53 13) : Int) = 0 from z.1) (by omega))).trans (mFail_y (show 0 < (Mp 53 13) by omega)))
                rw [e139]
                refine v_aload_n X 3 dX12_tellRule_259 rfl rfl ?_
                refine gt_X12_fault X iwX12 (Std.lt hS rfl) (Std.k hS rfl rfl) (List.mem_cons_of_mem _ bw_19_13) dX12_tellRule_260 (Mp 53 13) rfl (fun hr140 => ?_)
                refine v_if_le X 267 dX12_tellRule_263 (by decide) ⟨by omega, by omega⟩ (fun q => absurd q (by omega)) (fun u141 => ?_)
                refine hret _ _ _ _ _ _ _ _ _ _ _ none dX12_tellRule_266 ⟨rfl, rfl⟩ (by decide) (by decide) (fun hmok => ?_)
                obtain ⟨t9, F9, f1, f2, f3, f4, f5, f6⟩ := efl
                exact ⟨rfl, rfl, rfl, rfl, rfl, rfl, Or.inl ⟨t9, F9, f1, f2, f3, f4, f5, show 0 ≤ (Mp 53 11) ∧ (Mp 53 11) ≤ 400 by omega⟩, (frS_trans hfp (show frS s Mp (mu (mu Mp 64 i0 (Mp 53 32)) 65 i0 (Mp 67 (Mp 53 19))) from ⟨fun i i1 i2 => (by rw [mu_i _ _ _ (by omega), mu_i _ _ _ (by omega)]), fun z z1 z2 z3 z4 z5 z6 => (by rw [mu_i _ _ _ (by decide), mu_i _ _ _ (by decide)]), fun z hz => ⟨(by rw [mu_i _ _ _ (by decide), mu_i _ _ _ (by decide)]), (by rw [mu_i _ _ _ (by decide), mu_i _ _ _ (by decide)])⟩, fun i i1 i2 z hz => (by rcases (show i = 62 ∨ i = 63 ∨ i = 64 ∨ i = 65 ∨ i = 66 by omega) with h9 | h9 | h9 | h9 | h9; (subst h9; rw [mu_i _ _ _ (by decide), mu_i _ _ _ (by decide)]); (subst h9; rw [mu_i _ _ _ (by decide), mu_i _ _ _ (by decide)]); (subst h9; rw [mu_i _ _ _ (by decide), mu_z _ _ _ (by omega)]); (subst h9; rw [mu_z _ _ _ (by omega), mu_i _ _ _ (by decide)]); (subst h9; rw [mu_i _ _ _ (by decide), mu_i _ _ _ (by decide)])), fun i i1 i2 z hz => (by rw [mu_i _ _ _ (by omega), mu_i _ _ _ (by omega)]), fun z hz => ⟨(by rw [mu_i _ _ _ (by decide), mu_i _ _ _ (by decide)]), (by rw [mu_i _ _ _ (by decide), mu_i _ _ _ (by decide)])⟩⟩))⟩
              · skip
                obtain ⟨w1, cz1, cd1, k1, eG, ⟨e11, e12, e13, e32⟩, ec, ew, ez, ea, eo, el, en⟩ := ee
                have e400 := eG.1
                have eK := GT_tok eG (frS_tok hfp hT)
                rw [← e11] at eK
                obtain ⟨eC, eP, eV9⟩ := eK
                simp only [List.length_nil] at el
                refine v_aload_n X 1 dX12_tellRule_140 rfl rfl ?_
                refine gt_X12_ruleTo X iwX12 (Std.lt hS rfl) (Std.k hS rfl rfl) (List.mem_cons_of_mem _ bw_8_2) dX12_tellRule_141 64 (Std.r hS 23 rfl) ?_
                refine v_iload_n X 0 dX12_tellRule_144 rfl rfl ?_
                refine v_aload_n X 1 dX12_tellRule_145 rfl rfl ?_
                refine gt_X12_codes X iwX12 (Std.lt hS rfl) (Std.k hS rfl rfl) (List.mem_cons_of_mem _ bw_19_17) dX12_tellRule_146 (Mp 53 32) rfl (fun hr142 => ?_)
                refine v_iast X (Std.lt hS rfl) (Std.at hS rfl rfl) (by omega) (by omega) ⟨by omega, by omega⟩ dX12_tellRule_149 ?_
                refine v_aload_n X 1 dX12_tellRule_150 rfl rfl ?_
                refine gt_X12_relFirst X iwX12 (Std.lt hS rfl) (Std.k hS rfl rfl) (List.mem_cons_of_mem _ bw_8_3) dX12_tellRule_151 65 (Std.r hS 24 rfl) ?_
                refine v_iload_n X 0 dX12_tellRule_154 rfl rfl ?_
                refine v_aload_n X 1 dX12_tellRule_155 rfl rfl ?_
                refine gt_X12_relations X iwX12 (Std.lt hS rfl) (Std.k hS rfl rfl) (List.mem_cons_of_mem _ bw_8_5) dX12_tellRule_156 67 (Std.r hS 26 rfl) ?_
                refine v_aload_n X 1 dX12_tellRule_159 rfl rfl ?_
                refine gt_X12_side X iwX12 (Std.lt hS rfl) (Std.k hS rfl rfl) (List.mem_cons_of_mem _ bw_19_16) dX12_tellRule_160 (Mp 53 19) rfl (fun hr143 => ?_)
                refine v_iald X (Mp 67 (Mp 53 19)) (Std.lt hS rfl) (Std.at hS rfl rfl) (by omega) (by omega) dX12_tellRule_163 rfl (fun hr144 => ?_)
                refine v_iast X (Std.lt hS rfl) (Std.at hS rfl rfl) (by omega) (by omega) ⟨by omega, by omega⟩ dX12_tellRule_164 ?_
                refine v_aload_n X 1 dX12_tellRule_165 rfl rfl ?_
                refine gt_X12_ruleSort X iwX12 (Std.lt hS rfl) (Std.k hS rfl rfl) (List.mem_cons_of_mem _ bw_8_0) dX12_tellRule_166 62 (Std.r hS 21 rfl) ?_
                refine v_iload_n X 0 dX12_tellRule_169 rfl rfl ?_
                refine v_iald X (Mp 62 i0) (Std.lt hS rfl) (Std.at hS rfl rfl) (by omega) (by omega) dX12_tellRule_170 rfl (fun hr145 => ?_)
                refine v_st (st' := [.int (iz 1)]) (by rw [show (Mp 62 i0) = (1 : Int) from p62i]) ?_
                refine v_if_eq X 183 dX12_tellRule_171 (by decide) ⟨by decide, by decide⟩ (fun q => absurd q (by decide)) (fun _ => ?_)
                refine v_aload_n X 1 dX12_tellRule_174 rfl rfl ?_
                refine v_bipush X dX12_tellRule_175 (by decide) ?_
                refine v_callV X [.int (iz 21)] hRm (c_X12_is _ _ _ hS 21 ⟨by decide, by decide⟩ (show 0 ≤ (Mp 53 11) ∧ (Mp 53 11) < 403 by omega)) (gV bw_20_18 bw_20_19 bw_20_20 bw_1_5 bw_20_21) rfl ddX12_is (by decide) (Std.lt hS rfl) (Std.k hS rfl rfl) ⟨rfl, by decide⟩ (Nat.le_of_ble_eq_true rfl) dX12_tellRule_177 (k_pB (fun b146 => ?_) (fun b146 => ?_))
                · skip
                  replace b146 : Mp 56 (Mp 53 11) = 21 := b146.2
                  have bk147 : kdT (bt f n) n t1 = 3 := by rw [← eC, b146]; rfl
                  refine v_if_eq X 187 dX12_tellRule_180 (by decide) ⟨by decide, by decide⟩ (fun q => absurd q (by decide)) (fun _ => ?_)
                  refine v_iconst X dX12_tellRule_183 ?_
                  refine v_goto X 188 dX12_tellRule_184 (by decide) ?_
                  refine v_istore_n X [(2, .int (iz 1)), (1, .int (iz i0)), (0, .ref (ad 53))] dX12_tellRule_188 rfl (by decide) rfl ?_
                  refine v_iload_n X 0 dX12_tellRule_189 rfl rfl ?_
                  refine v_if_eq X 199 dX12_tellRule_190 (by decide) ⟨by decide, by decide⟩ (fun q => absurd q (by decide)) (fun _ => ?_)
                  refine v_aload_n X 2 dX12_tellRule_193 rfl rfl ?_
                  refine v_bipush X dX12_tellRule_194 (by decide) ?_
                  refine v_callV X [.int (iz 21)] hRm (c_X12_must _ _ _ hS 21 ⟨by decide, by decide⟩ (show 0 ≤ (Mp 53 11) ∧ (Mp 53 11) ≤ 400 by omega)) (gV bw_21_23 bw_22_0 bw_22_1 bw_1_5 bw_22_2) rfl ddX12_must (by decide) (Std.lt hS rfl) (Std.k hS rfl rfl) ⟨rfl, by decide⟩ (Nat.le_of_ble_eq_true rfl) dX12_tellRule_196 (k_eV (fun M148 e149 => ?_))
                  by_cases hm150 : (Mp 56 (Mp 53 11)) = 21
                  · skip
                    by_cases ht151 : (Mp 53 11) = 400
                    · skip
                      replace e149 : M148 = (mu (mu (mu (mu Mp 64 i0 (Mp 53 32)) 65 i0 (Mp 67 (Mp 53 19))) 53 13 2) 53 14 (Mp 57 (Mp 53 11))) := e149.trans ((if_pos ⟨(show (Mp 53 13) = 0 by omega), hm150⟩).trans (mNext_full (show (Mp 53 11) = 400 from ht151) (show ¬ 0 < (Mp 53 13) by omega)))
                      subst e149
                      have flq152 : FlT (bt f n) n c0 (mu (mu (mu (mu Mp 64 i0 (Mp 53 32)) 65 i0 (Mp 67 (Mp 53 19))) 53 13 2) 53 14 (Mp 57 (Mp 53 11))) := FlT_mk eG ec (Or.inr ⟨rfl, Or.inr (Or.inr (Or.inr ⟨ng3, Or.inr (Or.inr (Or.inl ⟨by decide, rfl, by omega⟩))⟩)), Or.inl (by omega)⟩) rfl (show (Mp 57 (Mp 53 11)) = _ by exact eP) (show 0 ≤ (Mp 53 11) ∧ (Mp 53 11) ≤ 400 by omega)
                      refine v_iconst X dX12_tellRule_199 ?_
                      refine v_istore_n X [(3, .int (iz 1)), (2, .int (iz 1)), (1, .int (iz i0)), (0, .ref (ad 53))] dX12_tellRule_200 rfl (by decide) rfl ?_
                      refine v_iload_n X 1 dX12_tellRule_201 rfl rfl ?_
                      refine v_if_eq X 254 dX12_tellRule_202 (by decide) ⟨by decide, by decide⟩ (fun q => absurd q (by decide)) (fun _ => ?_)
                      refine v_aload_n X 3 dX12_tellRule_205 rfl rfl ?_
                      refine gt_X12_fault X iwX12 (Std.lt hS rfl) (Std.k hS rfl rfl) (List.mem_cons_of_mem _ bw_19_13) dX12_tellRule_206 2 rfl (fun hr153 => ?_)
                      refine v_if_ne X 254 dX12_tellRule_209 (by decide) ⟨by decide, by decide⟩ (fun _ => ?_) (fun q => absurd (by decide) q)
                      refine v_aload_n X 3 dX12_tellRule_254 rfl rfl ?_
                      refine v_iconst X dX12_tellRule_255 ?_
                      refine v_callV X [.int (iz 4)] hRm (c_X12_must _ _ _ hS 4 ⟨by decide, by decide⟩ (show 0 ≤ (Mp 53 11) ∧ (Mp 53 11) ≤ 400 by omega)) (gV bw_21_23 bw_22_0 bw_22_1 bw_1_5 bw_22_2) rfl ddX12_must (by decide) (Std.lt hS rfl) (Std.k hS rfl rfl) ⟨rfl, by decide⟩ (Nat.le_of_ble_eq_true rfl) dX12_tellRule_256 (k_eV (fun M154 e155 => ?_))
                      replace e155 : M154 = (mu (mu (mu (mu Mp 64 i0 (Mp 53 32)) 65 i0 (Mp 67 (Mp 53 19))) 53 13 2) 53 14 (Mp 57 (Mp 53 11))) := e155.trans ((if_neg (fun z => absurd (show (2 : Int) = 0 from z.1) (by omega))).trans (mFail_y (show 0 < 2 by omega)))
                      rw [e155]
                      refine v_aload_n X 3 dX12_tellRule_259 rfl rfl ?_
                      refine gt_X12_fault X iwX12 (Std.lt hS rfl) (Std.k hS rfl rfl) (List.mem_cons_of_mem _ bw_19_13) dX12_tellRule_260 2 rfl (fun hr156 => ?_)
                      refine v_if_le X 267 dX12_tellRule_263 (by decide) ⟨by decide, by decide⟩ (fun q => absurd q (by decide)) (fun _ => ?_)
                      refine hret _ _ _ _ _ _ _ _ _ _ _ none dX12_tellRule_266 ⟨rfl, rfl⟩ (by decide) (by decide) (fun hmok => ?_)
                      obtain ⟨t9, F9, f1, f2, f3, f4, f5, f6⟩ := flq152
                      exact ⟨rfl, rfl, rfl, rfl, rfl, rfl, Or.inl ⟨t9, F9, f1, f2, f3, f4, f5, show 0 ≤ (Mp 53 11) ∧ (Mp 53 11) ≤ 400 by omega⟩, (frS_trans hfp (show frS s Mp (mu (mu (mu (mu Mp 64 i0 (Mp 53 32)) 65 i0 (Mp 67 (Mp 53 19))) 53 13 2) 53 14 (Mp 57 (Mp 53 11))) from ⟨fun i i1 i2 => (by rw [mu_i _ _ _ (by omega), mu_i _ _ _ (by omega), mu_i _ _ _ (by omega), mu_i _ _ _ (by omega)]), fun z z1 z2 z3 z4 z5 z6 => (by rw [mu_z _ _ _ z4, mu_z _ _ _ z3, mu_i _ _ _ (by decide), mu_i _ _ _ (by decide)]), fun z hz => ⟨(by rw [mu_i _ _ _ (by decide), mu_i _ _ _ (by decide), mu_i _ _ _ (by decide), mu_i _ _ _ (by decide)]), (by rw [mu_i _ _ _ (by decide), mu_i _ _ _ (by decide), mu_i _ _ _ (by decide), mu_i _ _ _ (by decide)])⟩, fun i i1 i2 z hz => (by rcases (show i = 62 ∨ i = 63 ∨ i = 64 ∨ i = 65 ∨ i = 66 by omega) with h9 | h9 | h9 | h9 | h9; (subst h9; rw [mu_i _ _ _ (by decide), mu_i _ _ _ (by decide), mu_i _ _ _ (by decide), mu_i _ _ _ (by decide)]); (subst h9; rw [mu_i _ _ _ (by decide), mu_i _ _ _ (by decide), mu_i _ _ _ (by decide), mu_i _ _ _ (by decide)]); (subst h9; rw [mu_i _ _ _ (by decide), mu_i _ _ _ (by decide), mu_i _ _ _ (by decide), mu_z _ _ _ (by omega)]); (subst h9; rw [mu_i _ _ _ (by decide), mu_i _ _ _ (by decide), mu_z _ _ _ (by omega), mu_i _ _ _ (by decide)]); (subst h9; rw [mu_i _ _ _ (by decide), mu_i _ _ _ (by decide), mu_i _ _ _ (by decide), mu_i _ _ _ (by decide)])), fun i i1 i2 z hz => (by rw [mu_i _ _ _ (by omega), mu_i _ _ _ (by omega), mu_i _ _ _ (by omega), mu_i _ _ _ (by omega)]), fun z hz => ⟨(by rw [mu_i _ _ _ (by decide), mu_i _ _ _ (by decide), mu_i _ _ _ (by decide), mu_i _ _ _ (by decide)]), (by rw [mu_i _ _ _ (by decide), mu_i _ _ _ (by decide), mu_i _ _ _ (by decide), mu_i _ _ _ (by decide)])⟩⟩))⟩
                    · skip
                      replace e149 : M148 = (mu (mu (mu Mp 64 i0 (Mp 53 32)) 65 i0 (Mp 67 (Mp 53 19))) 53 11 ((Mp 53 11) + 1)) := e149.trans ((if_pos ⟨(show (Mp 53 13) = 0 by omega), hm150⟩).trans (mNext_go (show (Mp 53 11) ≠ 400 from ht151)))
                      subst e149
                      have hJ := st_if3 eG ec ew (by omega) hr16 (by omega)
                      refine v_iconst X dX12_tellRule_199 ?_
                      refine v_istore_n X [(3, .int (iz 1)), (2, .int (iz 1)), (1, .int (iz i0)), (0, .ref (ad 53))] dX12_tellRule_200 rfl (by decide) rfl ?_
                      refine v_lv [3, 2, 1, 0] rfl ?_
                      exact hj1 (mu (mu (mu Mp 64 i0 (Mp 53 32)) 65 i0 (Mp 67 (Mp 53 19))) 53 11 ((Mp 53 11) + 1)) (t1 + 1) 0 1 ([]) (cz0 + (k1 : Int)) (rlD 4 w1 cz1 cd1) (cz0 + (k1 : Int)) 1 (M 67 s) (fu (fu rc rz (-1)) rz (cz0 + (k1 : Int))) (LI_0 hJ.1 (by rw [hJ.2, ez]) (HM_11 (t' := t1 + 1) (HM_A (kd := 1) hAll ⟨b1, b2, b3, b4⟩ hs hO hix hz0 (by decide) rfl hfI ef1 (show frI i0 Mp (mu (mu Mp 64 i0 (Mp 53 32)) 65 i0 (Mp 67 (Mp 53 19))) from ⟨fun j j1 j2 => (by rw [mu_i _ _ _ (by omega), mu_i _ _ _ (by omega)]), fun z z1 => (by rw [mu_i _ _ _ (by decide), mu_i _ _ _ (by decide)]), fun j j1 j2 z hz => (by rcases (show j = 62 ∨ j = 63 ∨ j = 64 ∨ j = 65 ∨ j = 66 by omega) with h9 | h9 | h9 | h9 | h9; (subst h9; rw [mu_i _ _ _ (by decide), mu_i _ _ _ (by decide)]); (subst h9; rw [mu_i _ _ _ (by decide), mu_i _ _ _ (by decide)]); (subst h9; rw [mu_i _ _ _ (by decide), mu_z _ _ _ hz]); (subst h9; rw [mu_z _ _ _ hz, mu_i _ _ _ (by decide)]); (subst h9; rw [mu_i _ _ _ (by decide), mu_i _ _ _ (by decide)]))⟩) e11 e12 e13 e32 ez ea eo (by rw [mu_i _ _ _ (by decide), mu_i _ _ _ (by decide), mu_s]) rfl (by rw [mu_s]) rfl (by rw [mu_i _ _ _ (by decide), mu_s]) (by rw [mu_s, p19]) rfl (by omega)) (fun j hj => mu_i _ _ _ hj) (fun z hz => mu_z _ _ _ hz) (show Mp 53 11 + 1 = _ by omega) (by omega)) (show Mp 67 s = M 67 s from by rw [ef1.1 67 (by decide) (by decide) (by decide) (by decide)]; rfl)) (by omega) ((frS_trans hfp (show frS s Mp (mu (mu (mu Mp 64 i0 (Mp 53 32)) 65 i0 (Mp 67 (Mp 53 19))) 53 11 ((Mp 53 11) + 1)) from ⟨fun i i1 i2 => (by rw [mu_i _ _ _ (by omega), mu_i _ _ _ (by omega), mu_i _ _ _ (by omega)]), fun z z1 z2 z3 z4 z5 z6 => (by rw [mu_z _ _ _ z1, mu_i _ _ _ (by decide), mu_i _ _ _ (by decide)]), fun z hz => ⟨(by rw [mu_i _ _ _ (by decide), mu_i _ _ _ (by decide), mu_i _ _ _ (by decide)]), (by rw [mu_i _ _ _ (by decide), mu_i _ _ _ (by decide), mu_i _ _ _ (by decide)])⟩, fun i i1 i2 z hz => (by rcases (show i = 62 ∨ i = 63 ∨ i = 64 ∨ i = 65 ∨ i = 66 by omega) with h9 | h9 | h9 | h9 | h9; (subst h9; rw [mu_i _ _ _ (by decide), mu_i _ _ _ (by decide), mu_i _ _ _ (by decide)]); (subst h9; rw [mu_i _ _ _ (by decide), mu_i _ _ _ (by decide), mu_i _ _ _ (by decide)]); (subst h9; rw [mu_i _ _ _ (by decide), mu_i _ _ _ (by decide), mu_z _ _ _ (by omega)]); (subst h9; rw [mu_i _ _ _ (by decide), mu_z _ _ _ (by omega), mu_i _ _ _ (by decide)]); (subst h9; rw [mu_i _ _ _ (by decide), mu_i _ _ _ (by decide), mu_i _ _ _ (by decide)])), fun i i1 i2 z hz => (by rw [mu_i _ _ _ (by omega), mu_i _ _ _ (by omega), mu_i _ _ _ (by omega)]), fun z hz => ⟨(by rw [mu_i _ _ _ (by decide), mu_i _ _ _ (by decide), mu_i _ _ _ (by decide)]), (by rw [mu_i _ _ _ (by decide), mu_i _ _ _ (by decide), mu_i _ _ _ (by decide)])⟩⟩))) (by omega) (hr16) 
                  · skip
                    exfalso; omega
                · skip
                  replace b146 : ¬ Mp 56 (Mp 53 11) = 21 := fun z => b146 ⟨e13, z⟩
                  have bk157 : kdT (bt f n) n t1 ≠ 3 := fun z => b146 (cOf_key.2.1.mp (eC.trans z))
                  refine v_if_eq X 187 dX12_tellRule_180 (by decide) ⟨by decide, by decide⟩ (fun _ => ?_) (fun q => absurd (by decide) q)
                  refine v_iconst X dX12_tellRule_187 ?_
                  refine v_istore_n X [(2, .int (iz 0)), (1, .int (iz i0)), (0, .ref (ad 53))] dX12_tellRule_188 rfl (by decide) rfl ?_
                  refine v_iload_n X 0 dX12_tellRule_189 rfl rfl ?_
                  refine v_if_eq X 199 dX12_tellRule_190 (by decide) ⟨by decide, by decide⟩ (fun _ => ?_) (fun q => absurd (by decide) q)
                  refine v_iconst X dX12_tellRule_199 ?_
                  refine v_istore_n X [(3, .int (iz 1)), (2, .int (iz 0)), (1, .int (iz i0)), (0, .ref (ad 53))] dX12_tellRule_200 rfl (by decide) rfl ?_
                  refine v_iload_n X 1 dX12_tellRule_201 rfl rfl ?_
                  refine v_if_eq X 254 dX12_tellRule_202 (by decide) ⟨by decide, by decide⟩ (fun _ => ?_) (fun q => absurd (by decide) q)
                  refine v_aload_n X 3 dX12_tellRule_254 rfl rfl ?_
                  refine v_iconst X dX12_tellRule_255 ?_
                  refine v_callV X [.int (iz 4)] hRm (c_X12_must _ _ _ hS 4 ⟨by decide, by decide⟩ (show 0 ≤ (Mp 53 11) ∧ (Mp 53 11) ≤ 400 by omega)) (gV bw_21_23 bw_22_0 bw_22_1 bw_1_5 bw_22_2) rfl ddX12_must (by decide) (Std.lt hS rfl) (Std.k hS rfl rfl) ⟨rfl, by decide⟩ (Nat.le_of_ble_eq_true rfl) dX12_tellRule_256 (k_eV (fun M158 e159 => ?_))
                  by_cases hm160 : (Mp 56 (Mp 53 11)) = 4
                  · skip
                    have bk162 : kdT (bt f n) n t1 = 15 := by rw [← eC, hm160]; rfl
                    by_cases ht161 : (Mp 53 11) = 400
                    · skip
                      replace e159 : M158 = (mu (mu (mu (mu Mp 64 i0 (Mp 53 32)) 65 i0 (Mp 67 (Mp 53 19))) 53 13 2) 53 14 (Mp 57 (Mp 53 11))) := e159.trans ((if_pos ⟨(show (Mp 53 13) = 0 by omega), hm160⟩).trans (mNext_full (show (Mp 53 11) = 400 from ht161) (show ¬ 0 < (Mp 53 13) by omega)))
                      subst e159
                      have flq163 : FlT (bt f n) n c0 (mu (mu (mu (mu Mp 64 i0 (Mp 53 32)) 65 i0 (Mp 67 (Mp 53 19))) 53 13 2) 53 14 (Mp 57 (Mp 53 11))) := FlT_mk eG ec (Or.inr ⟨rfl, Or.inr (Or.inr (Or.inr ⟨ng3, Or.inr (Or.inr (Or.inl ⟨by decide, rfl, by omega⟩))⟩)), Or.inl (by omega)⟩) rfl (show (Mp 57 (Mp 53 11)) = _ by exact eP) (show 0 ≤ (Mp 53 11) ∧ (Mp 53 11) ≤ 400 by omega)
                      refine v_aload_n X 3 dX12_tellRule_259 rfl rfl ?_
                      refine gt_X12_fault X iwX12 (Std.lt hS rfl) (Std.k hS rfl rfl) (List.mem_cons_of_mem _ bw_19_13) dX12_tellRule_260 2 rfl (fun hr164 => ?_)
                      refine v_if_le X 267 dX12_tellRule_263 (by decide) ⟨by decide, by decide⟩ (fun q => absurd q (by decide)) (fun _ => ?_)
                      refine hret _ _ _ _ _ _ _ _ _ _ _ none dX12_tellRule_266 ⟨rfl, rfl⟩ (by decide) (by decide) (fun hmok => ?_)
                      obtain ⟨t9, F9, f1, f2, f3, f4, f5, f6⟩ := flq163
                      exact ⟨rfl, rfl, rfl, rfl, rfl, rfl, Or.inl ⟨t9, F9, f1, f2, f3, f4, f5, show 0 ≤ (Mp 53 11) ∧ (Mp 53 11) ≤ 400 by omega⟩, (frS_trans hfp (show frS s Mp (mu (mu (mu (mu Mp 64 i0 (Mp 53 32)) 65 i0 (Mp 67 (Mp 53 19))) 53 13 2) 53 14 (Mp 57 (Mp 53 11))) from ⟨fun i i1 i2 => (by rw [mu_i _ _ _ (by omega), mu_i _ _ _ (by omega), mu_i _ _ _ (by omega), mu_i _ _ _ (by omega)]), fun z z1 z2 z3 z4 z5 z6 => (by rw [mu_z _ _ _ z4, mu_z _ _ _ z3, mu_i _ _ _ (by decide), mu_i _ _ _ (by decide)]), fun z hz => ⟨(by rw [mu_i _ _ _ (by decide), mu_i _ _ _ (by decide), mu_i _ _ _ (by decide), mu_i _ _ _ (by decide)]), (by rw [mu_i _ _ _ (by decide), mu_i _ _ _ (by decide), mu_i _ _ _ (by decide), mu_i _ _ _ (by decide)])⟩, fun i i1 i2 z hz => (by rcases (show i = 62 ∨ i = 63 ∨ i = 64 ∨ i = 65 ∨ i = 66 by omega) with h9 | h9 | h9 | h9 | h9; (subst h9; rw [mu_i _ _ _ (by decide), mu_i _ _ _ (by decide), mu_i _ _ _ (by decide), mu_i _ _ _ (by decide)]); (subst h9; rw [mu_i _ _ _ (by decide), mu_i _ _ _ (by decide), mu_i _ _ _ (by decide), mu_i _ _ _ (by decide)]); (subst h9; rw [mu_i _ _ _ (by decide), mu_i _ _ _ (by decide), mu_i _ _ _ (by decide), mu_z _ _ _ (by omega)]); (subst h9; rw [mu_i _ _ _ (by decide), mu_i _ _ _ (by decide), mu_z _ _ _ (by omega), mu_i _ _ _ (by decide)]); (subst h9; rw [mu_i _ _ _ (by decide), mu_i _ _ _ (by decide), mu_i _ _ _ (by decide), mu_i _ _ _ (by decide)])), fun i i1 i2 z hz => (by rw [mu_i _ _ _ (by omega), mu_i _ _ _ (by omega), mu_i _ _ _ (by omega), mu_i _ _ _ (by omega)]), fun z hz => ⟨(by rw [mu_i _ _ _ (by decide), mu_i _ _ _ (by decide), mu_i _ _ _ (by decide), mu_i _ _ _ (by decide)]), (by rw [mu_i _ _ _ (by decide), mu_i _ _ _ (by decide), mu_i _ _ _ (by decide), mu_i _ _ _ (by decide)])⟩⟩))⟩
                    · skip
                      replace e159 : M158 = (mu (mu (mu Mp 64 i0 (Mp 53 32)) 65 i0 (Mp 67 (Mp 53 19))) 53 11 ((Mp 53 11) + 1)) := e159.trans ((if_pos ⟨(show (Mp 53 13) = 0 by omega), hm160⟩).trans (mNext_go (show (Mp 53 11) ≠ 400 from ht161)))
                      subst e159
                      refine v_aload_n X 3 dX12_tellRule_259 rfl rfl ?_
                      refine gt_X12_fault X iwX12 (Std.lt hS rfl) (Std.k hS rfl rfl) (List.mem_cons_of_mem _ bw_19_13) dX12_tellRule_260 (Mp 53 13) rfl (fun hr165 => ?_)
                      refine v_if_le X 267 dX12_tellRule_263 (by decide) ⟨by omega, by omega⟩ (fun u166 => ?_) (fun q => absurd (by omega) q)
                      refine v_aload_n X 3 dX12_tellRule_267 rfl rfl ?_
                      refine gt_X12_relLast X iwX12 (Std.lt hS rfl) (Std.k hS rfl rfl) (List.mem_cons_of_mem _ bw_8_4) dX12_tellRule_268 66 (Std.r hS 25 rfl) ?_
                      refine v_iload_n X 2 dX12_tellRule_271 rfl rfl ?_
                      refine v_aload_n X 3 dX12_tellRule_272 rfl rfl ?_
                      refine gt_X12_relations X iwX12 (Std.lt hS rfl) (Std.k hS rfl rfl) (List.mem_cons_of_mem _ bw_8_5) dX12_tellRule_273 67 (Std.r hS 26 rfl) ?_
                      refine v_aload_n X 3 dX12_tellRule_276 rfl rfl ?_
                      refine gt_X12_side X iwX12 (Std.lt hS rfl) (Std.k hS rfl rfl) (List.mem_cons_of_mem _ bw_19_16) dX12_tellRule_277 (Mp 53 19) rfl (fun hr167 => ?_)
                      refine v_iald X (Mp 67 (Mp 53 19)) (Std.lt hS rfl) (Std.at hS rfl rfl) (by omega) (by omega) dX12_tellRule_280 rfl (fun hr168 => ?_)
                      refine v_iast X (Std.lt hS rfl) (Std.at hS rfl rfl) (by omega) (by omega) ⟨by omega, by omega⟩ dX12_tellRule_281 ?_
                      have z61b : Mp 61 (Mp 53 19) = rz := by rw [p19, ef1.1 61 (by decide) (by decide) (by decide) (by decide)]; exact a61
                      refine v_aload_n X 3 dX12_tellRule_282 rfl rfl ?_
                      refine gt_X12_rules X iwX12 (Std.lt hS rfl) (Std.k hS rfl rfl) (List.mem_cons_of_mem _ bw_7_23) dX12_tellRule_283 61 (Std.r hS 20 rfl) ?_
                      refine v_aload_n X 3 dX12_tellRule_286 rfl rfl ?_
                      refine gt_X12_side X iwX12 (Std.lt hS rfl) (Std.k hS rfl rfl) (List.mem_cons_of_mem _ bw_19_16) dX12_tellRule_287 (Mp 53 19) rfl (fun hr169 => ?_)
                      refine v_dup2 X dX12_tellRule_290 rfl rfl ?_
                      refine v_iald X (Mp 61 (Mp 53 19)) (Std.lt hS rfl) (Std.at hS rfl rfl) (by omega) (by omega) dX12_tellRule_291 rfl (fun hr170 => ?_)
                      refine v_iconst X dX12_tellRule_292 ?_
                      refine v_iadd X dX12_tellRule_293 ?_
                      refine v_iast X (Std.lt hS rfl) (Std.at hS rfl rfl) (by omega) (by omega) ⟨by omega, by omega⟩ dX12_tellRule_294 ?_
                      refine hret _ _ _ _ _ _ _ _ _ _ _ none dX12_tellRule_295 ⟨rfl, rfl⟩ (by decide) (by decide) (fun hmok => ?_)
                      have p61 : Mp 61 s = rz := by rw [ef1.1 61 (by decide) (by decide) (by decide) (by decide)]; exact a61
                      exact ⟨rfl, rfl, rfl, rfl, rfl, rfl, Or.inr ⟨t1 + 1, by omega, A_end (HM_A (kd := 1) hAll ⟨b1, b2, b3, b4⟩ hs hO hix hz0 (by decide) rfl hfI ef1 (show frI i0 Mp (mu (mu Mp 64 i0 (Mp 53 32)) 65 i0 (Mp 67 (Mp 53 19))) from ⟨fun j j1 j2 => (by rw [mu_i _ _ _ (by omega), mu_i _ _ _ (by omega)]), fun z z1 => (by rw [mu_i _ _ _ (by decide), mu_i _ _ _ (by decide)]), fun j j1 j2 z hz => (by rcases (show j = 62 ∨ j = 63 ∨ j = 64 ∨ j = 65 ∨ j = 66 by omega) with h9 | h9 | h9 | h9 | h9; (subst h9; rw [mu_i _ _ _ (by decide), mu_i _ _ _ (by decide)]); (subst h9; rw [mu_i _ _ _ (by decide), mu_i _ _ _ (by decide)]); (subst h9; rw [mu_i _ _ _ (by decide), mu_z _ _ _ hz]); (subst h9; rw [mu_z _ _ _ hz, mu_i _ _ _ (by decide)]); (subst h9; rw [mu_i _ _ _ (by decide), mu_i _ _ _ (by decide)]))⟩) e11 e12 e13 e32 ez ea eo (by rw [mu_i _ _ _ (by decide), mu_i _ _ _ (by decide), mu_s]) rfl (by rw [mu_s]) rfl (by rw [mu_i _ _ _ (by decide), mu_s]) (by rw [mu_s, p19]) rfl (by omega)) (by decide) ez eG ec ew (show Mp 67 s = M 67 s from by rw [ef1.1 67 (by decide) (by decide) (by decide) (by decide)]; rfl) hix ⟨r1, hr16⟩ (by omega) (by omega) (fun j j1 j2 j3 => by rw [mu_i _ _ _ j2, mu_i _ _ _ j3, mu_i _ _ _ j1]) (fun z hz => by rw [mu_i _ _ _ (by decide), mu_i _ _ _ (by decide), mu_z _ _ _ hz]) (show Mp 53 11 + 1 = _ by omega) (fun z => by rw [mu_i _ _ _ (by decide), ← p19]; rfl) (by rw [← p19, mu_s]; show Mp 61 (Mp 53 19) + 1 = rz + 1; rw [p19]; omega)⟩, (frS_trans hfp (show frS s Mp (mu (mu (mu (mu (mu Mp 64 i0 (Mp 53 32)) 65 i0 (Mp 67 (Mp 53 19))) 53 11 ((Mp 53 11) + 1)) 66 i0 (Mp 67 (Mp 53 19))) 61 (Mp 53 19) ((Mp 61 (Mp 53 19)) + 1)) from ⟨fun i i1 i2 => (by rw [mu_i _ _ _ (by omega), mu_i _ _ _ (by omega), mu_i _ _ _ (by omega), mu_i _ _ _ (by omega), mu_i _ _ _ (by omega)]), fun z z1 z2 z3 z4 z5 z6 => (by rw [mu_i _ _ _ (by decide), mu_i _ _ _ (by decide), mu_z _ _ _ z1, mu_i _ _ _ (by decide), mu_i _ _ _ (by decide)]), fun z hz => ⟨(by rw [mu_z _ _ _ (by rw [p19]; exact hz), mu_i _ _ _ (by decide), mu_i _ _ _ (by decide), mu_i _ _ _ (by decide), mu_i _ _ _ (by decide)]), (by rw [mu_i _ _ _ (by decide), mu_i _ _ _ (by decide), mu_i _ _ _ (by decide), mu_i _ _ _ (by decide), mu_i _ _ _ (by decide)])⟩, fun i i1 i2 z hz => (by rcases (show i = 62 ∨ i = 63 ∨ i = 64 ∨ i = 65 ∨ i = 66 by omega) with h9 | h9 | h9 | h9 | h9; (subst h9; rw [mu_i _ _ _ (by decide), mu_i _ _ _ (by decide), mu_i _ _ _ (by decide), mu_i _ _ _ (by decide), mu_i _ _ _ (by decide)]); (subst h9; rw [mu_i _ _ _ (by decide), mu_i _ _ _ (by decide), mu_i _ _ _ (by decide), mu_i _ _ _ (by decide), mu_i _ _ _ (by decide)]); (subst h9; rw [mu_i _ _ _ (by decide), mu_i _ _ _ (by decide), mu_i _ _ _ (by decide), mu_i _ _ _ (by decide), mu_z _ _ _ (by omega)]); (subst h9; rw [mu_i _ _ _ (by decide), mu_i _ _ _ (by decide), mu_i _ _ _ (by decide), mu_z _ _ _ (by omega), mu_i _ _ _ (by decide)]); (subst h9; rw [mu_i _ _ _ (by decide), mu_z _ _ _ (by omega), mu_i _ _ _ (by decide), mu_i _ _ _ (by decide), mu_i _ _ _ (by decide)])), fun i i1 i2 z hz => (by rw [mu_i _ _ _ (by omega), mu_i _ _ _ (by omega), mu_i _ _ _ (by omega), mu_i _ _ _ (by omega), mu_i _ _ _ (by omega)]), fun z hz => ⟨(by rw [mu_i _ _ _ (by decide), mu_i _ _ _ (by decide), mu_i _ _ _ (by decide), mu_i _ _ _ (by decide), mu_i _ _ _ (by decide)]), (by rw [mu_i _ _ _ (by decide), mu_i _ _ _ (by decide), mu_i _ _ _ (by decide), mu_i _ _ _ (by decide), mu_i _ _ _ (by decide)])⟩⟩))⟩
                  · skip
                    have bk171 : kdT (bt f n) n t1 ≠ 15 := fun z => hm160 (cOf_key.2.2.2.2.2.2.1.mp (eC.trans z))
                    replace e159 : M158 = (mu (mu (mu (mu Mp 64 i0 (Mp 53 32)) 65 i0 (Mp 67 (Mp 53 19))) 53 13 1) 53 14 (Mp 57 (Mp 53 11))) := e159.trans ((if_neg (fun z => hm160 z.2)).trans (mFail_n (show ¬ 0 < (Mp 53 13) by omega)))
                    subst e159
                    have flq172 : FlT (bt f n) n c0 (mu (mu (mu (mu Mp 64 i0 (Mp 53 32)) 65 i0 (Mp 67 (Mp 53 19))) 53 13 1) 53 14 (Mp 57 (Mp 53 11))) := FlT_mk eG ec (Or.inl ⟨rfl, fun z => by rw [goW_3 (by decide) (by decide) (by decide), goU_0 (by omega) (by decide) rfl] at z; omega, fun z => absurd z.2 (by decide)⟩) rfl (show (Mp 57 (Mp 53 11)) = _ by exact eP) (show 0 ≤ (Mp 53 11) ∧ (Mp 53 11) ≤ 400 by omega)
                    refine v_aload_n X 3 dX12_tellRule_259 rfl rfl ?_
                    refine gt_X12_fault X iwX12 (Std.lt hS rfl) (Std.k hS rfl rfl) (List.mem_cons_of_mem _ bw_19_13) dX12_tellRule_260 1 rfl (fun hr173 => ?_)
                    refine v_if_le X 267 dX12_tellRule_263 (by decide) ⟨by decide, by decide⟩ (fun q => absurd q (by decide)) (fun _ => ?_)
                    refine hret _ _ _ _ _ _ _ _ _ _ _ none dX12_tellRule_266 ⟨rfl, rfl⟩ (by decide) (by decide) (fun hmok => ?_)
                    obtain ⟨t9, F9, f1, f2, f3, f4, f5, f6⟩ := flq172
                    exact ⟨rfl, rfl, rfl, rfl, rfl, rfl, Or.inl ⟨t9, F9, f1, f2, f3, f4, f5, show 0 ≤ (Mp 53 11) ∧ (Mp 53 11) ≤ 400 by omega⟩, (frS_trans hfp (show frS s Mp (mu (mu (mu (mu Mp 64 i0 (Mp 53 32)) 65 i0 (Mp 67 (Mp 53 19))) 53 13 1) 53 14 (Mp 57 (Mp 53 11))) from ⟨fun i i1 i2 => (by rw [mu_i _ _ _ (by omega), mu_i _ _ _ (by omega), mu_i _ _ _ (by omega), mu_i _ _ _ (by omega)]), fun z z1 z2 z3 z4 z5 z6 => (by rw [mu_z _ _ _ z4, mu_z _ _ _ z3, mu_i _ _ _ (by decide), mu_i _ _ _ (by decide)]), fun z hz => ⟨(by rw [mu_i _ _ _ (by decide), mu_i _ _ _ (by decide), mu_i _ _ _ (by decide), mu_i _ _ _ (by decide)]), (by rw [mu_i _ _ _ (by decide), mu_i _ _ _ (by decide), mu_i _ _ _ (by decide), mu_i _ _ _ (by decide)])⟩, fun i i1 i2 z hz => (by rcases (show i = 62 ∨ i = 63 ∨ i = 64 ∨ i = 65 ∨ i = 66 by omega) with h9 | h9 | h9 | h9 | h9; (subst h9; rw [mu_i _ _ _ (by decide), mu_i _ _ _ (by decide), mu_i _ _ _ (by decide), mu_i _ _ _ (by decide)]); (subst h9; rw [mu_i _ _ _ (by decide), mu_i _ _ _ (by decide), mu_i _ _ _ (by decide), mu_i _ _ _ (by decide)]); (subst h9; rw [mu_i _ _ _ (by decide), mu_i _ _ _ (by decide), mu_i _ _ _ (by decide), mu_z _ _ _ (by omega)]); (subst h9; rw [mu_i _ _ _ (by decide), mu_i _ _ _ (by decide), mu_z _ _ _ (by omega), mu_i _ _ _ (by decide)]); (subst h9; rw [mu_i _ _ _ (by decide), mu_i _ _ _ (by decide), mu_i _ _ _ (by decide), mu_i _ _ _ (by decide)])), fun i i1 i2 z hz => (by rw [mu_i _ _ _ (by omega), mu_i _ _ _ (by omega), mu_i _ _ _ (by omega), mu_i _ _ _ (by omega)]), fun z hz => ⟨(by rw [mu_i _ _ _ (by decide), mu_i _ _ _ (by decide), mu_i _ _ _ (by decide), mu_i _ _ _ (by decide)]), (by rw [mu_i _ _ _ (by decide), mu_i _ _ _ (by decide), mu_i _ _ _ (by decide), mu_i _ _ _ (by decide)])⟩⟩))⟩
          · skip
            replace b116 : ¬ M 56 (M 53 11) = 22 := fun z => b116 ⟨a13, z⟩
            exfalso; omega
      · skip
        refine v_aload_n X 0 dX12_tellRule_49 rfl rfl ?_
        refine v_iconst X dX12_tellRule_50 ?_
        refine v_callV X [.int (iz 2)] hRm (c_X12_fail _ _ _ hS 2 ⟨by decide, by decide⟩ (show 0 ≤ (M 53 11) ∧ (M 53 11) < 403 by omega)) (gV bw_21_2 bw_21_3 bw_21_4 bw_1_5 bw_21_5) rfl ddX12_fail (by decide) (Std.lt hS rfl) (Std.k hS rfl rfl) ⟨rfl, by decide⟩ (Nat.le_of_ble_eq_true rfl) dX12_tellRule_51 (k_eV (fun M174 e175 => ?_))
        replace e175 : M174 = (mu (mu M 53 13 2) 53 14 (M 57 (M 53 11))) := e175.trans (mFail_n (show ¬ 0 < (M 53 13) by omega))
        subst e175
        have flq176 : FlT (bt f n) n c0 (mu (mu M 53 13 2) 53 14 (M 57 (M 53 11))) := FlT_mk hG hc (Or.inr ⟨rfl, Or.inl ⟨rfl, by omega⟩, Or.inr (Or.inl ⟨rfl, (show 16 ≤ rz by omega)⟩)⟩) rfl (show (M 57 (M 53 11)) = _ by exact aP) (show 0 ≤ (M 53 11) ∧ (M 53 11) ≤ 400 by omega)
        refine v_aload_n X 0 dX12_tellRule_54 rfl rfl ?_
        refine gt_X12_fault X iwX12 (Std.lt hS rfl) (Std.k hS rfl rfl) (List.mem_cons_of_mem _ bw_19_13) dX12_tellRule_55 2 rfl (fun hr177 => ?_)
        refine v_if_le X 62 dX12_tellRule_58 (by decide) ⟨by decide, by decide⟩ (fun q => absurd q (by decide)) (fun _ => ?_)
        refine hret _ _ _ _ _ _ _ _ _ _ _ none dX12_tellRule_61 ⟨rfl, rfl⟩ (by decide) (by decide) (fun hmok => ?_)
        obtain ⟨t9, F9, f1, f2, f3, f4, f5, f6⟩ := flq176
        exact ⟨rfl, rfl, rfl, rfl, rfl, rfl, Or.inl ⟨t9, F9, f1, f2, f3, f4, f5, show 0 ≤ (M 53 11) ∧ (M 53 11) ≤ 400 by omega⟩, (frS_trans (frS_refl _ _) (show frS s M (mu (mu M 53 13 2) 53 14 (M 57 (M 53 11))) from ⟨fun i i1 i2 => (by rw [mu_i _ _ _ (by omega), mu_i _ _ _ (by omega)]), fun z z1 z2 z3 z4 z5 z6 => (by rw [mu_z _ _ _ z4, mu_z _ _ _ z3]), fun z hz => ⟨(by rw [mu_i _ _ _ (by decide), mu_i _ _ _ (by decide)]), (by rw [mu_i _ _ _ (by decide), mu_i _ _ _ (by decide)])⟩, fun i i1 i2 z hz => (by rcases (show i = 62 ∨ i = 63 ∨ i = 64 ∨ i = 65 ∨ i = 66 by omega) with h9 | h9 | h9 | h9 | h9; (subst h9; rw [mu_i _ _ _ (by decide), mu_i _ _ _ (by decide)]); (subst h9; rw [mu_i _ _ _ (by decide), mu_i _ _ _ (by decide)]); (subst h9; rw [mu_i _ _ _ (by decide), mu_i _ _ _ (by decide)]); (subst h9; rw [mu_i _ _ _ (by decide), mu_i _ _ _ (by decide)]); (subst h9; rw [mu_i _ _ _ (by decide), mu_i _ _ _ (by decide)])), fun i i1 i2 z hz => (by rw [mu_i _ _ _ (by omega), mu_i _ _ _ (by omega)]), fun z hz => ⟨(by rw [mu_i _ _ _ (by decide), mu_i _ _ _ (by decide)]), (by rw [mu_i _ _ _ (by decide), mu_i _ _ _ (by decide)])⟩⟩))⟩
    · skip
      replace b104 : ¬ M 56 (M 53 11) = 22 := fun z => b104 ⟨a13, z⟩
      have bk178 : kdT (bt f n) n t ≠ 1 := fun z => b104 (cOf_key.2.2.1.mp (aC.trans z))
      refine v_if_ne X 35 dX12_tellRule_15 (by decide) ⟨by decide, by decide⟩ (fun q => absurd q (by decide)) (fun _ => ?_)
      refine v_aload_n X 0 dX12_tellRule_18 rfl rfl ?_
      refine v_bipush X dX12_tellRule_19 (by decide) ?_
      refine v_callV X [.int (iz 23)] hRm (c_X12_is _ _ _ hS 23 ⟨by decide, by decide⟩ (show 0 ≤ (M 53 11) ∧ (M 53 11) < 403 by omega)) (gV bw_20_18 bw_20_19 bw_20_20 bw_1_5 bw_20_21) rfl ddX12_is (by decide) (Std.lt hS rfl) (Std.k hS rfl rfl) ⟨rfl, by decide⟩ (Nat.le_of_ble_eq_true rfl) dX12_tellRule_21 (k_pB (fun b179 => ?_) (fun b179 => ?_))
      · skip
        replace b179 : M 56 (M 53 11) = 23 := b179.2
        have bk180 : kdT (bt f n) n t = 2 := by rw [← aC, b179]; rfl
        refine v_if_ne X 35 dX12_tellRule_24 (by decide) ⟨by decide, by decide⟩ (fun _ => ?_) (fun q => absurd (by decide) q)
        refine v_aload_n X 0 dX12_tellRule_35 rfl rfl ?_
        refine gt_X12_rules X iwX12 (Std.lt hS rfl) (Std.k hS rfl rfl) (List.mem_cons_of_mem _ bw_7_23) dX12_tellRule_36 61 (Std.r hS 20 rfl) ?_
        refine v_aload_n X 0 dX12_tellRule_39 rfl rfl ?_
        refine gt_X12_side X iwX12 (Std.lt hS rfl) (Std.k hS rfl rfl) (List.mem_cons_of_mem _ bw_19_16) dX12_tellRule_40 (M 53 19) rfl (fun hr181 => ?_)
        refine v_iald X (M 61 (M 53 19)) (Std.lt hS rfl) (Std.at hS rfl rfl) (by omega) (by omega) dX12_tellRule_43 rfl (fun hr182 => ?_)
        refine v_bipush X dX12_tellRule_44 (by decide) ?_
        refine v_icmp_ne X 54 dX12_tellRule_46 (by decide) ⟨by omega, by omega⟩ ⟨by decide, by decide⟩ (fun u183 => ?_) (fun u183 => ?_)
        · skip
          refine v_aload_n X 0 dX12_tellRule_54 rfl rfl ?_
          refine gt_X12_fault X iwX12 (Std.lt hS rfl) (Std.k hS rfl rfl) (List.mem_cons_of_mem _ bw_19_13) dX12_tellRule_55 (M 53 13) rfl (fun hr184 => ?_)
          refine v_if_le X 62 dX12_tellRule_58 (by decide) ⟨by omega, by omega⟩ (fun u185 => ?_) (fun q => absurd (by omega) q)
          have hr16 : rz < 16 := by omega
          refine v_bipush X dX12_tellRule_62 (by decide) ?_
          refine v_aload_n X 0 dX12_tellRule_64 rfl rfl ?_
          refine gt_X12_side X iwX12 (Std.lt hS rfl) (Std.k hS rfl rfl) (List.mem_cons_of_mem _ bw_19_16) dX12_tellRule_65 (M 53 19) rfl (fun hr186 => ?_)
          refine v_imul X dX12_tellRule_68 ?_
          refine v_aload_n X 0 dX12_tellRule_69 rfl rfl ?_
          refine gt_X12_rules X iwX12 (Std.lt hS rfl) (Std.k hS rfl rfl) (List.mem_cons_of_mem _ bw_7_23) dX12_tellRule_70 61 (Std.r hS 20 rfl) ?_
          refine v_aload_n X 0 dX12_tellRule_73 rfl rfl ?_
          refine gt_X12_side X iwX12 (Std.lt hS rfl) (Std.k hS rfl rfl) (List.mem_cons_of_mem _ bw_19_16) dX12_tellRule_74 (M 53 19) rfl (fun hr187 => ?_)
          refine v_iald X (M 61 (M 53 19)) (Std.lt hS rfl) (Std.at hS rfl rfl) (by omega) (by omega) dX12_tellRule_77 rfl (fun hr188 => ?_)
          refine v_iadd X dX12_tellRule_78 ?_
          refine v_istore_n X [(1, .int (iz ((16 * (M 53 19)) + (M 61 (M 53 19))))), (0, .ref (ad 53))] dX12_tellRule_79 rfl (by decide) rfl ?_
          rw [← hi0]
          refine v_aload_n X 1 dX12_tellRule_80 rfl rfl ?_
          refine gt_X12_ruleSort X iwX12 (Std.lt hS rfl) (Std.k hS rfl rfl) (List.mem_cons_of_mem _ bw_8_0) dX12_tellRule_81 62 (Std.r hS 21 rfl) ?_
          refine v_iload_n X 0 dX12_tellRule_84 rfl rfl ?_
          refine v_aload_n X 1 dX12_tellRule_85 rfl rfl ?_
          refine v_bipush X dX12_tellRule_86 (by decide) ?_
          refine v_callV X [.int (iz 20)] hRm (c_X12_is _ _ _ hS 20 ⟨by decide, by decide⟩ (show 0 ≤ (M 53 11) ∧ (M 53 11) < 403 by omega)) (gV bw_20_18 bw_20_19 bw_20_20 bw_1_5 bw_20_21) rfl ddX12_is (by decide) (Std.lt hS rfl) (Std.k hS rfl rfl) ⟨rfl, by decide⟩ (Nat.le_of_ble_eq_true rfl) dX12_tellRule_88 (k_pB (fun b189 => ?_) (fun b189 => ?_))
          · skip
            replace b189 : M 56 (M 53 11) = 20 := b189.2
            exfalso; omega
          · skip
            replace b189 : ¬ M 56 (M 53 11) = 20 := fun z => b189 ⟨a13, z⟩
            have bk190 : kdT (bt f n) n t ≠ 0 := fun z => b189 (cOf_key.1.mp (aC.trans z))
            refine v_if_eq X 98 dX12_tellRule_91 (by decide) ⟨by decide, by decide⟩ (fun _ => ?_) (fun q => absurd (by decide) q)
            refine v_aload_n X 1 dX12_tellRule_98 rfl rfl ?_
            refine v_bipush X dX12_tellRule_99 (by decide) ?_
            refine v_callV X [.int (iz 22)] hRm (c_X12_is _ _ _ hS 22 ⟨by decide, by decide⟩ (show 0 ≤ (M 53 11) ∧ (M 53 11) < 403 by omega)) (gV bw_20_18 bw_20_19 bw_20_20 bw_1_5 bw_20_21) rfl ddX12_is (by decide) (Std.lt hS rfl) (Std.k hS rfl rfl) ⟨rfl, by decide⟩ (Nat.le_of_ble_eq_true rfl) dX12_tellRule_101 (k_pB (fun b191 => ?_) (fun b191 => ?_))
            · skip
              replace b191 : M 56 (M 53 11) = 22 := b191.2
              exfalso; omega
            · skip
              replace b191 : ¬ M 56 (M 53 11) = 22 := fun z => b191 ⟨a13, z⟩
              have bk192 : kdT (bt f n) n t ≠ 1 := fun z => b191 (cOf_key.2.2.1.mp (aC.trans z))
              refine v_if_eq X 111 dX12_tellRule_104 (by decide) ⟨by decide, by decide⟩ (fun _ => ?_) (fun q => absurd (by decide) q)
              refine v_iconst X dX12_tellRule_111 ?_
              refine v_iast X (Std.lt hS rfl) (Std.at hS rfl rfl) (by omega) (by omega) ⟨by decide, by decide⟩ dX12_tellRule_112 ?_
              refine v_aload_n X 1 dX12_tellRule_113 rfl rfl ?_
              refine v_callV X [] hRm (c_X12_next _ _ _ hS (show 0 ≤ (M 53 11) ∧ (M 53 11) ≤ 400 by omega)) (gV bw_21_6 bw_21_7 bw_21_8 bw_1_5 bw_21_9) rfl ddX12_next (by decide) (Std.lt hS rfl) (Std.k hS rfl rfl) ⟨rfl, by decide⟩ (Nat.le_of_ble_eq_true rfl) dX12_tellRule_114 (k_eV (fun M193 e194 => ?_))
              by_cases ht195 : (M 53 11) = 400
              · skip
                replace e194 : M193 = (mu (mu (mu M 62 i0 2) 53 13 2) 53 14 (M 57 (M 53 11))) := e194.trans (mNext_full (show (M 53 11) = 400 from ht195) (show ¬ 0 < (M 53 13) by omega))
                subst e194
                have flq196 : FlT (bt f n) n c0 (mu (mu (mu M 62 i0 2) 53 13 2) 53 14 (M 57 (M 53 11))) := FlT_mk hG hc (Or.inr ⟨rfl, Or.inl ⟨rfl, by omega⟩, Or.inl (by omega)⟩) rfl (show (M 57 (M 53 11)) = _ by exact aP) (show 0 ≤ (M 53 11) ∧ (M 53 11) ≤ 400 by omega)
                refine v_aload_n X 1 dX12_tellRule_117 rfl rfl ?_
                refine gt_X12_ruleFrom X iwX12 (Std.lt hS rfl) (Std.k hS rfl rfl) (List.mem_cons_of_mem _ bw_8_1) dX12_tellRule_118 63 (Std.r hS 22 rfl) ?_
                refine v_iload_n X 0 dX12_tellRule_121 rfl rfl ?_
                refine v_aload_n X 1 dX12_tellRule_122 rfl rfl ?_
                refine gt_X12_codes X iwX12 (Std.lt hS rfl) (Std.k hS rfl rfl) (List.mem_cons_of_mem _ bw_19_17) dX12_tellRule_123 (M 53 32) rfl (fun hr197 => ?_)
                refine v_iast X (Std.lt hS rfl) (Std.at hS rfl rfl) (by omega) (by omega) ⟨by omega, by omega⟩ dX12_tellRule_126 ?_
                refine v_aload_n X 1 dX12_tellRule_127 rfl rfl ?_
                refine gt_X12_ruleSort X iwX12 (Std.lt hS rfl) (Std.k hS rfl rfl) (List.mem_cons_of_mem _ bw_8_0) dX12_tellRule_128 62 (Std.r hS 21 rfl) ?_
                refine v_iload_n X 0 dX12_tellRule_131 rfl rfl ?_
                refine v_iald X 2 (Std.lt hS rfl) (Std.at hS rfl rfl) (by omega) (by omega) dX12_tellRule_132 (by simp [mu, mrow]) (fun hr198 => ?_)
                refine v_if_le X 140 dX12_tellRule_133 (by decide) ⟨by decide, by decide⟩ (fun q => absurd q (by decide)) (fun _ => ?_)
                refine v_aload_n X 1 dX12_tellRule_136 rfl rfl ?_
                refine v_callV X [] hRm (c_X12_expression_f _ _ _ hS (show 0 < 2 by omega)) (gV bw_21_10 bw_21_11 bw_21_12 bw_1_5 bw_21_13) rfl ddX12_expression (by decide) (Std.lt hS rfl) (Std.k hS rfl rfl) ⟨rfl, by decide⟩ (Nat.le_of_ble_eq_true rfl) dX12_tellRule_137 (k_eV (fun M200 e199 => ?_))
                replace e199 : M200 = (mu (mu (mu (mu (mu M 62 i0 2) 53 13 2) 53 14 (M 57 (M 53 11))) 63 i0 (M 53 32)) 53 36 0) := e199
                subst e199
                refine v_aload_n X 1 dX12_tellRule_140 rfl rfl ?_
                refine gt_X12_ruleTo X iwX12 (Std.lt hS rfl) (Std.k hS rfl rfl) (List.mem_cons_of_mem _ bw_8_2) dX12_tellRule_141 64 (Std.r hS 23 rfl) ?_
                refine v_iload_n X 0 dX12_tellRule_144 rfl rfl ?_
                refine v_aload_n X 1 dX12_tellRule_145 rfl rfl ?_
                refine gt_X12_codes X iwX12 (Std.lt hS rfl) (Std.k hS rfl rfl) (List.mem_cons_of_mem _ bw_19_17) dX12_tellRule_146 (M 53 32) rfl (fun hr201 => ?_)
                refine v_iast X (Std.lt hS rfl) (Std.at hS rfl rfl) (by omega) (by omega) ⟨by omega, by omega⟩ dX12_tellRule_149 ?_
                refine v_aload_n X 1 dX12_tellRule_150 rfl rfl ?_
                refine gt_X12_relFirst X iwX12 (Std.lt hS rfl) (Std.k hS rfl rfl) (List.mem_cons_of_mem _ bw_8_3) dX12_tellRule_151 65 (Std.r hS 24 rfl) ?_
                refine v_iload_n X 0 dX12_tellRule_154 rfl rfl ?_
                refine v_aload_n X 1 dX12_tellRule_155 rfl rfl ?_
                refine gt_X12_relations X iwX12 (Std.lt hS rfl) (Std.k hS rfl rfl) (List.mem_cons_of_mem _ bw_8_5) dX12_tellRule_156 67 (Std.r hS 26 rfl) ?_
                refine v_aload_n X 1 dX12_tellRule_159 rfl rfl ?_
                refine gt_X12_side X iwX12 (Std.lt hS rfl) (Std.k hS rfl rfl) (List.mem_cons_of_mem _ bw_19_16) dX12_tellRule_160 (M 53 19) rfl (fun hr202 => ?_)
                refine v_iald X (M 67 (M 53 19)) (Std.lt hS rfl) (Std.at hS rfl rfl) (by omega) (by omega) dX12_tellRule_163 rfl (fun hr203 => ?_)
                refine v_iast X (Std.lt hS rfl) (Std.at hS rfl rfl) (by omega) (by omega) ⟨by omega, by omega⟩ dX12_tellRule_164 ?_
                refine v_aload_n X 1 dX12_tellRule_165 rfl rfl ?_
                refine gt_X12_ruleSort X iwX12 (Std.lt hS rfl) (Std.k hS rfl rfl) (List.mem_cons_of_mem _ bw_8_0) dX12_tellRule_166 62 (Std.r hS 21 rfl) ?_
                refine v_iload_n X 0 dX12_tellRule_169 rfl rfl ?_
                refine v_iald X 2 (Std.lt hS rfl) (Std.at hS rfl rfl) (by omega) (by omega) dX12_tellRule_170 (by simp [mu, mrow]) (fun hr204 => ?_)
                refine v_if_eq X 183 dX12_tellRule_171 (by decide) ⟨by decide, by decide⟩ (fun q => absurd q (by decide)) (fun _ => ?_)
                refine v_aload_n X 1 dX12_tellRule_174 rfl rfl ?_
                refine v_bipush X dX12_tellRule_175 (by decide) ?_
                refine v_callV X [.int (iz 21)] hRm (c_X12_is _ _ _ hS 21 ⟨by decide, by decide⟩ (show 0 ≤ (M 53 11) ∧ (M 53 11) < 403 by omega)) (gV bw_20_18 bw_20_19 bw_20_20 bw_1_5 bw_20_21) rfl ddX12_is (by decide) (Std.lt hS rfl) (Std.k hS rfl rfl) ⟨rfl, by decide⟩ (Nat.le_of_ble_eq_true rfl) dX12_tellRule_177 (k_pB (fun q => absurd (show (2 : Int) = 0 from q.1) (by omega)) (fun _ => ?_))
                refine v_if_eq X 187 dX12_tellRule_180 (by decide) ⟨by decide, by decide⟩ (fun _ => ?_) (fun q => absurd (by decide) q)
                refine v_iconst X dX12_tellRule_187 ?_
                refine v_istore_n X [(2, .int (iz 0)), (1, .int (iz i0)), (0, .ref (ad 53))] dX12_tellRule_188 rfl (by decide) rfl ?_
                refine v_iload_n X 0 dX12_tellRule_189 rfl rfl ?_
                refine v_if_eq X 199 dX12_tellRule_190 (by decide) ⟨by decide, by decide⟩ (fun _ => ?_) (fun q => absurd (by decide) q)
                refine v_iconst X dX12_tellRule_199 ?_
                refine v_istore_n X [(3, .int (iz 1)), (2, .int (iz 0)), (1, .int (iz i0)), (0, .ref (ad 53))] dX12_tellRule_200 rfl (by decide) rfl ?_
                refine v_iload_n X 1 dX12_tellRule_201 rfl rfl ?_
                refine v_if_eq X 254 dX12_tellRule_202 (by decide) ⟨by decide, by decide⟩ (fun _ => ?_) (fun q => absurd (by decide) q)
                refine v_aload_n X 3 dX12_tellRule_254 rfl rfl ?_
                refine v_iconst X dX12_tellRule_255 ?_
                refine v_callV X [.int (iz 4)] hRm (c_X12_must _ _ _ hS 4 ⟨by decide, by decide⟩ (show 0 ≤ (M 53 11) ∧ (M 53 11) ≤ 400 by omega)) (gV bw_21_23 bw_22_0 bw_22_1 bw_1_5 bw_22_2) rfl ddX12_must (by decide) (Std.lt hS rfl) (Std.k hS rfl rfl) ⟨rfl, by decide⟩ (Nat.le_of_ble_eq_true rfl) dX12_tellRule_256 (k_eV (fun M205 e206 => ?_))
                replace e206 : M205 = (mu (mu (mu (mu (mu (mu (mu M 62 i0 2) 53 13 2) 53 14 (M 57 (M 53 11))) 63 i0 (M 53 32)) 53 36 0) 64 i0 (M 53 32)) 65 i0 (M 67 (M 53 19))) := e206.trans ((if_neg (fun z => absurd (show (2 : Int) = 0 from z.1) (by omega))).trans (mFail_y (show 0 < 2 by omega)))
                rw [e206]
                refine v_aload_n X 3 dX12_tellRule_259 rfl rfl ?_
                refine gt_X12_fault X iwX12 (Std.lt hS rfl) (Std.k hS rfl rfl) (List.mem_cons_of_mem _ bw_19_13) dX12_tellRule_260 2 rfl (fun hr207 => ?_)
                refine v_if_le X 267 dX12_tellRule_263 (by decide) ⟨by decide, by decide⟩ (fun q => absurd q (by decide)) (fun _ => ?_)
                refine hret _ _ _ _ _ _ _ _ _ _ _ none dX12_tellRule_266 ⟨rfl, rfl⟩ (by decide) (by decide) (fun hmok => ?_)
                obtain ⟨t9, F9, f1, f2, f3, f4, f5, f6⟩ := flq196
                exact ⟨rfl, rfl, rfl, rfl, rfl, rfl, Or.inl ⟨t9, F9, f1, f2, f3, f4, f5, show 0 ≤ (M 53 11) ∧ (M 53 11) ≤ 400 by omega⟩, (frS_trans (frS_refl _ _) (show frS s M (mu (mu (mu (mu (mu (mu (mu M 62 i0 2) 53 13 2) 53 14 (M 57 (M 53 11))) 63 i0 (M 53 32)) 53 36 0) 64 i0 (M 53 32)) 65 i0 (M 67 (M 53 19))) from ⟨fun i i1 i2 => (by rw [mu_i _ _ _ (by omega), mu_i _ _ _ (by omega), mu_i _ _ _ (by omega), mu_i _ _ _ (by omega), mu_i _ _ _ (by omega), mu_i _ _ _ (by omega), mu_i _ _ _ (by omega)]), fun z z1 z2 z3 z4 z5 z6 => (by rw [mu_i _ _ _ (by decide), mu_i _ _ _ (by decide), mu_z _ _ _ z6, mu_i _ _ _ (by decide), mu_z _ _ _ z4, mu_z _ _ _ z3, mu_i _ _ _ (by decide)]), fun z hz => ⟨(by rw [mu_i _ _ _ (by decide), mu_i _ _ _ (by decide), mu_i _ _ _ (by decide), mu_i _ _ _ (by decide), mu_i _ _ _ (by decide), mu_i _ _ _ (by decide), mu_i _ _ _ (by decide)]), (by rw [mu_i _ _ _ (by decide), mu_i _ _ _ (by decide), mu_i _ _ _ (by decide), mu_i _ _ _ (by decide), mu_i _ _ _ (by decide), mu_i _ _ _ (by decide), mu_i _ _ _ (by decide)])⟩, fun i i1 i2 z hz => (by rcases (show i = 62 ∨ i = 63 ∨ i = 64 ∨ i = 65 ∨ i = 66 by omega) with h9 | h9 | h9 | h9 | h9; (subst h9; rw [mu_i _ _ _ (by decide), mu_i _ _ _ (by decide), mu_i _ _ _ (by decide), mu_i _ _ _ (by decide), mu_i _ _ _ (by decide), mu_i _ _ _ (by decide), mu_z _ _ _ (by omega)]); (subst h9; rw [mu_i _ _ _ (by decide), mu_i _ _ _ (by decide), mu_i _ _ _ (by decide), mu_z _ _ _ (by omega), mu_i _ _ _ (by decide), mu_i _ _ _ (by decide), mu_i _ _ _ (by decide)]); (subst h9; rw [mu_i _ _ _ (by decide), mu_z _ _ _ (by omega), mu_i _ _ _ (by decide), mu_i _ _ _ (by decide), mu_i _ _ _ (by decide), mu_i _ _ _ (by decide), mu_i _ _ _ (by decide)]); (subst h9; rw [mu_z _ _ _ (by omega), mu_i _ _ _ (by decide), mu_i _ _ _ (by decide), mu_i _ _ _ (by decide), mu_i _ _ _ (by decide), mu_i _ _ _ (by decide), mu_i _ _ _ (by decide)]); (subst h9; rw [mu_i _ _ _ (by decide), mu_i _ _ _ (by decide), mu_i _ _ _ (by decide), mu_i _ _ _ (by decide), mu_i _ _ _ (by decide), mu_i _ _ _ (by decide), mu_i _ _ _ (by decide)])), fun i i1 i2 z hz => (by rw [mu_i _ _ _ (by omega), mu_i _ _ _ (by omega), mu_i _ _ _ (by omega), mu_i _ _ _ (by omega), mu_i _ _ _ (by omega), mu_i _ _ _ (by omega), mu_i _ _ _ (by omega)]), fun z hz => ⟨(by rw [mu_i _ _ _ (by decide), mu_i _ _ _ (by decide), mu_i _ _ _ (by decide), mu_i _ _ _ (by decide), mu_i _ _ _ (by decide), mu_i _ _ _ (by decide), mu_i _ _ _ (by decide)]), (by rw [mu_i _ _ _ (by decide), mu_i _ _ _ (by decide), mu_i _ _ _ (by decide), mu_i _ _ _ (by decide), mu_i _ _ _ (by decide), mu_i _ _ _ (by decide), mu_i _ _ _ (by decide)])⟩⟩))⟩
              · skip
                replace e194 : M193 = (mu (mu M 62 i0 2) 53 11 ((M 53 11) + 1)) := e194.trans (mNext_go (show (M 53 11) ≠ 400 from ht195))
                subst e194
                have hkd : kdT (bt f n) n t = 2 := by omega
                have hI := st_rule hG hc (by omega) hr16 (by omega)
                rw [hkd] at hI
                replace hI : GT (bt f n) n c0 (t + 1) ∧ cm (bt f n) n c0 (t + 1) = (2, 0, 0, [], cz0, cd0, rz, fu rk rz 2, fu rs rz cz0, fu rc rz (-1), re) := hI
                refine v_aload_n X 1 dX12_tellRule_117 rfl rfl ?_
                refine gt_X12_ruleFrom X iwX12 (Std.lt hS rfl) (Std.k hS rfl rfl) (List.mem_cons_of_mem _ bw_8_1) dX12_tellRule_118 63 (Std.r hS 22 rfl) ?_
                refine v_iload_n X 0 dX12_tellRule_121 rfl rfl ?_
                refine v_aload_n X 1 dX12_tellRule_122 rfl rfl ?_
                refine gt_X12_codes X iwX12 (Std.lt hS rfl) (Std.k hS rfl rfl) (List.mem_cons_of_mem _ bw_19_17) dX12_tellRule_123 (M 53 32) rfl (fun hr208 => ?_)
                refine v_iast X (Std.lt hS rfl) (Std.at hS rfl rfl) (by omega) (by omega) ⟨by omega, by omega⟩ dX12_tellRule_126 ?_
                refine v_aload_n X 1 dX12_tellRule_127 rfl rfl ?_
                refine gt_X12_ruleSort X iwX12 (Std.lt hS rfl) (Std.k hS rfl rfl) (List.mem_cons_of_mem _ bw_8_0) dX12_tellRule_128 62 (Std.r hS 21 rfl) ?_
                refine v_iload_n X 0 dX12_tellRule_131 rfl rfl ?_
                refine v_iald X 2 (Std.lt hS rfl) (Std.at hS rfl rfl) (by omega) (by omega) dX12_tellRule_132 (by simp [mu, mrow]) (fun hr209 => ?_)
                refine v_if_le X 140 dX12_tellRule_133 (by decide) ⟨by decide, by decide⟩ (fun q => absurd q (by decide)) (fun _ => ?_)
                refine v_aload_n X 1 dX12_tellRule_136 rfl rfl ?_
                have hfI := (show frI i0 M (mu (mu (mu M 62 i0 2) 53 11 ((M 53 11) + 1)) 63 i0 (M 53 32)) from ⟨fun j j1 j2 => (by rw [mu_i _ _ _ (by omega), mu_i _ _ _ (by omega), mu_i _ _ _ (by omega)]), fun z z1 => (by rw [mu_i _ _ _ (by decide), mu_z _ _ _ z1, mu_i _ _ _ (by decide)]), fun j j1 j2 z hz => (by rcases (show j = 62 ∨ j = 63 ∨ j = 64 ∨ j = 65 ∨ j = 66 by omega) with h9 | h9 | h9 | h9 | h9; (subst h9; rw [mu_i _ _ _ (by decide), mu_i _ _ _ (by decide), mu_z _ _ _ hz]); (subst h9; rw [mu_z _ _ _ hz, mu_i _ _ _ (by decide), mu_i _ _ _ (by decide)]); (subst h9; rw [mu_i _ _ _ (by decide), mu_i _ _ _ (by decide), mu_i _ _ _ (by decide)]); (subst h9; rw [mu_i _ _ _ (by decide), mu_i _ _ _ (by decide), mu_i _ _ _ (by decide)]); (subst h9; rw [mu_i _ _ _ (by decide), mu_i _ _ _ (by decide), mu_i _ _ _ (by decide)]))⟩)
                have hfb := (frS_trans (frS_refl _ _) (show frS s M (mu (mu (mu M 62 i0 2) 53 11 ((M 53 11) + 1)) 63 i0 (M 53 32)) from ⟨fun i i1 i2 => (by rw [mu_i _ _ _ (by omega), mu_i _ _ _ (by omega), mu_i _ _ _ (by omega)]), fun z z1 z2 z3 z4 z5 z6 => (by rw [mu_i _ _ _ (by decide), mu_z _ _ _ z1, mu_i _ _ _ (by decide)]), fun z hz => ⟨(by rw [mu_i _ _ _ (by decide), mu_i _ _ _ (by decide), mu_i _ _ _ (by decide)]), (by rw [mu_i _ _ _ (by decide), mu_i _ _ _ (by decide), mu_i _ _ _ (by decide)])⟩, fun i i1 i2 z hz => (by rcases (show i = 62 ∨ i = 63 ∨ i = 64 ∨ i = 65 ∨ i = 66 by omega) with h9 | h9 | h9 | h9 | h9; (subst h9; rw [mu_i _ _ _ (by decide), mu_i _ _ _ (by decide), mu_z _ _ _ (by omega)]); (subst h9; rw [mu_z _ _ _ (by omega), mu_i _ _ _ (by decide), mu_i _ _ _ (by decide)]); (subst h9; rw [mu_i _ _ _ (by decide), mu_i _ _ _ (by decide), mu_i _ _ _ (by decide)]); (subst h9; rw [mu_i _ _ _ (by decide), mu_i _ _ _ (by decide), mu_i _ _ _ (by decide)]); (subst h9; rw [mu_i _ _ _ (by decide), mu_i _ _ _ (by decide), mu_i _ _ _ (by decide)])), fun i i1 i2 z hz => (by rw [mu_i _ _ _ (by omega), mu_i _ _ _ (by omega), mu_i _ _ _ (by omega)]), fun z hz => ⟨(by rw [mu_i _ _ _ (by decide), mu_i _ _ _ (by decide), mu_i _ _ _ (by decide)]), (by rw [mu_i _ _ _ (by decide), mu_i _ _ _ (by decide), mu_i _ _ _ (by decide)])⟩⟩))
                refine v_callV X [] hRm (c_X12_expression _ _ _ hS f n c0 0 [] cz0 cd0 (rz, fu rk rz 2, fu rs rz cz0, fu rc rz (-1), re) (M 53 32) (t + 1) ⟨fun x hx => by simp at hx, by decide, hz0, h0⟩ (frS_tok (frS_trans (frS_refl _ _) (show frS s M (mu (mu (mu M 62 i0 2) 53 11 ((M 53 11) + 1)) 63 i0 (M 53 32)) from ⟨fun i i1 i2 => (by rw [mu_i _ _ _ (by omega), mu_i _ _ _ (by omega), mu_i _ _ _ (by omega)]), fun z z1 z2 z3 z4 z5 z6 => (by rw [mu_i _ _ _ (by decide), mu_z _ _ _ z1, mu_i _ _ _ (by decide)]), fun z hz => ⟨(by rw [mu_i _ _ _ (by decide), mu_i _ _ _ (by decide), mu_i _ _ _ (by decide)]), (by rw [mu_i _ _ _ (by decide), mu_i _ _ _ (by decide), mu_i _ _ _ (by decide)])⟩, fun i i1 i2 z hz => (by rcases (show i = 62 ∨ i = 63 ∨ i = 64 ∨ i = 65 ∨ i = 66 by omega) with h9 | h9 | h9 | h9 | h9; (subst h9; rw [mu_i _ _ _ (by decide), mu_i _ _ _ (by decide), mu_z _ _ _ (by omega)]); (subst h9; rw [mu_z _ _ _ (by omega), mu_i _ _ _ (by decide), mu_i _ _ _ (by decide)]); (subst h9; rw [mu_i _ _ _ (by decide), mu_i _ _ _ (by decide), mu_i _ _ _ (by decide)]); (subst h9; rw [mu_i _ _ _ (by decide), mu_i _ _ _ (by decide), mu_i _ _ _ (by decide)]); (subst h9; rw [mu_i _ _ _ (by decide), mu_i _ _ _ (by decide), mu_i _ _ _ (by decide)])), fun i i1 i2 z hz => (by rw [mu_i _ _ _ (by omega), mu_i _ _ _ (by omega), mu_i _ _ _ (by omega)]), fun z hz => ⟨(by rw [mu_i _ _ _ (by decide), mu_i _ _ _ (by decide), mu_i _ _ _ (by decide)]), (by rw [mu_i _ _ _ (by decide), mu_i _ _ _ (by decide), mu_i _ _ _ (by decide)])⟩⟩)) hT) hI.1 hI.2 (show M 53 11 + 1 = _ by omega) (show M 53 12 = 0 from a12) (show M 53 13 = 0 from a13) (show M 53 32 = _ from rfl) (by omega)) (gV bw_21_10 bw_21_11 bw_21_12 bw_1_5 bw_21_13) rfl ddX12_expression (by decide) (Std.lt hS rfl) (Std.k hS rfl rfl) ⟨rfl, by decide⟩ (Nat.le_of_ble_eq_true rfl) dX12_tellRule_137 (k_eV (fun Mp e1 => ?_))
                obtain ⟨e1, ef1⟩ := e1
                have hfp : frS s M Mp := frS_trans hfb (frE_S ef1 (by omega) (by omega))
                have p19 : Mp 53 19 = s := (hfp.2.1 19 (by decide) (by decide) (by decide) (by decide) (by decide) (by decide)).trans a19
                have p62 : Mp 62 = (mu (mu (mu M 62 i0 2) 53 11 ((M 53 11) + 1)) 63 i0 (M 53 32)) 62 := ef1.1 62 (by decide) (by decide) (by decide) (by decide)
                have p62i : Mp 62 i0 = 2 := by rw [p62, mu_i _ _ _ (by decide), mu_i _ _ _ (by decide), mu_s]
                rcases e1 with efl | ⟨t1, ht1, ee⟩
                · skip
                  have efp : 0 < Mp 53 13 := by obtain ⟨_, F9, _, _, f3, f4, _, _⟩ := efl; omega
                  have efb : 0 ≤ Mp 53 11 ∧ Mp 53 11 ≤ 400 := by obtain ⟨_, F9, _, _, f3, f4, _, f6⟩ := efl; exact f6
                  refine v_aload_n X 1 dX12_tellRule_140 rfl rfl ?_
                  refine gt_X12_ruleTo X iwX12 (Std.lt hS rfl) (Std.k hS rfl rfl) (List.mem_cons_of_mem _ bw_8_2) dX12_tellRule_141 64 (Std.r hS 23 rfl) ?_
                  refine v_iload_n X 0 dX12_tellRule_144 rfl rfl ?_
                  refine v_aload_n X 1 dX12_tellRule_145 rfl rfl ?_
                  refine gt_X12_codes X iwX12 (Std.lt hS rfl) (Std.k hS rfl rfl) (List.mem_cons_of_mem _ bw_19_17) dX12_tellRule_146 (Mp 53 32) rfl (fun hr210 => ?_)
                  refine v_iast X (Std.lt hS rfl) (Std.at hS rfl rfl) (by omega) (by omega) ⟨by omega, by omega⟩ dX12_tellRule_149 ?_
                  refine v_aload_n X 1 dX12_tellRule_150 rfl rfl ?_
                  refine gt_X12_relFirst X iwX12 (Std.lt hS rfl) (Std.k hS rfl rfl) (List.mem_cons_of_mem _ bw_8_3) dX12_tellRule_151 65 (Std.r hS 24 rfl) ?_
                  refine v_iload_n X 0 dX12_tellRule_154 rfl rfl ?_
                  refine v_aload_n X 1 dX12_tellRule_155 rfl rfl ?_
                  refine gt_X12_relations X iwX12 (Std.lt hS rfl) (Std.k hS rfl rfl) (List.mem_cons_of_mem _ bw_8_5) dX12_tellRule_156 67 (Std.r hS 26 rfl) ?_
                  refine v_aload_n X 1 dX12_tellRule_159 rfl rfl ?_
                  refine gt_X12_side X iwX12 (Std.lt hS rfl) (Std.k hS rfl rfl) (List.mem_cons_of_mem _ bw_19_16) dX12_tellRule_160 (Mp 53 19) rfl (fun hr211 => ?_)
                  refine v_iald X (Mp 67 (Mp 53 19)) (Std.lt hS rfl) (Std.at hS rfl rfl) (by omega) (by omega) dX12_tellRule_163 rfl (fun hr212 => ?_)
                  refine v_iast X (Std.lt hS rfl) (Std.at hS rfl rfl) (by omega) (by omega) ⟨by omega, by omega⟩ dX12_tellRule_164 ?_
                  refine v_aload_n X 1 dX12_tellRule_165 rfl rfl ?_
                  refine gt_X12_ruleSort X iwX12 (Std.lt hS rfl) (Std.k hS rfl rfl) (List.mem_cons_of_mem _ bw_8_0) dX12_tellRule_166 62 (Std.r hS 21 rfl) ?_
                  refine v_iload_n X 0 dX12_tellRule_169 rfl rfl ?_
                  refine v_iald X (Mp 62 i0) (Std.lt hS rfl) (Std.at hS rfl rfl) (by omega) (by omega) dX12_tellRule_170 rfl (fun hr213 => ?_)
                  refine v_st (st' := [.int (iz 2)]) (by rw [show (Mp 62 i0) = (2 : Int) from p62i]) ?_
                  refine v_if_eq X 183 dX12_tellRule_171 (by decide) ⟨by decide, by decide⟩ (fun q => absurd q (by decide)) (fun _ => ?_)
                  refine v_aload_n X 1 dX12_tellRule_174 rfl rfl ?_
                  refine v_bipush X dX12_tellRule_175 (by decide) ?_
                  refine v_callV X [.int (iz 21)] hRm (c_X12_is _ _ _ hS 21 ⟨by decide, by decide⟩ (show 0 ≤ (Mp 53 11) ∧ (Mp 53 11) < 403 by omega)) (gV bw_20_18 bw_20_19 bw_20_20 bw_1_5 bw_20_21) rfl ddX12_is (by decide) (Std.lt hS rfl) (Std.k hS rfl rfl) ⟨rfl, by decide⟩ (Nat.le_of_ble_eq_true rfl) dX12_tellRule_177 (k_pB (fun q => absurd (show ((Mp 53 13) : Int) = 0 from q.1) (by omega)) (fun _ => ?_))
                  refine v_if_eq X 187 dX12_tellRule_180 (by decide) ⟨by decide, by decide⟩ (fun _ => ?_) (fun q => absurd (by decide) q)
                  refine v_iconst X dX12_tellRule_187 ?_
                  refine v_istore_n X [(2, .int (iz 0)), (1, .int (iz i0)), (0, .ref (ad 53))] dX12_tellRule_188 rfl (by decide) rfl ?_
                  refine v_iload_n X 0 dX12_tellRule_189 rfl rfl ?_
                  refine v_if_eq X 199 dX12_tellRule_190 (by decide) ⟨by decide, by decide⟩ (fun _ => ?_) (fun q => absurd (by decide) q)
                  refine v_iconst X dX12_tellRule_199 ?_
                  refine v_istore_n X [(3, .int (iz 1)), (2, .int (iz 0)), (1, .int (iz i0)), (0, .ref (ad 53))] dX12_tellRule_200 rfl (by decide) rfl ?_
                  refine v_iload_n X 1 dX12_tellRule_201 rfl rfl ?_
                  refine v_if_eq X 254 dX12_tellRule_202 (by decide) ⟨by decide, by decide⟩ (fun _ => ?_) (fun q => absurd (by decide) q)
                  refine v_aload_n X 3 dX12_tellRule_254 rfl rfl ?_
                  refine v_iconst X dX12_tellRule_255 ?_
                  refine v_callV X [.int (iz 4)] hRm (c_X12_must _ _ _ hS 4 ⟨by decide, by decide⟩ (show 0 ≤ (Mp 53 11) ∧ (Mp 53 11) ≤ 400 by omega)) (gV bw_21_23 bw_22_0 bw_22_1 bw_1_5 bw_22_2) rfl ddX12_must (by decide) (Std.lt hS rfl) (Std.k hS rfl rfl) ⟨rfl, by decide⟩ (Nat.le_of_ble_eq_true rfl) dX12_tellRule_256 (k_eV (fun M214 e215 => ?_))
                  replace e215 : M214 = (mu (mu Mp 64 i0 (Mp 53 32)) 65 i0 (Mp 67 (Mp 53 19))) := e215.trans ((if_neg (fun z => absurd (show ((Mp 53 13) : Int) = 0 from z.1) (by omega))).trans (mFail_y (show 0 < (Mp 53 13) by omega)))
                  rw [e215]
                  refine v_aload_n X 3 dX12_tellRule_259 rfl rfl ?_
                  refine gt_X12_fault X iwX12 (Std.lt hS rfl) (Std.k hS rfl rfl) (List.mem_cons_of_mem _ bw_19_13) dX12_tellRule_260 (Mp 53 13) rfl (fun hr216 => ?_)
                  refine v_if_le X 267 dX12_tellRule_263 (by decide) ⟨by omega, by omega⟩ (fun q => absurd q (by omega)) (fun u217 => ?_)
                  refine hret _ _ _ _ _ _ _ _ _ _ _ none dX12_tellRule_266 ⟨rfl, rfl⟩ (by decide) (by decide) (fun hmok => ?_)
                  obtain ⟨t9, F9, f1, f2, f3, f4, f5, f6⟩ := efl
                  exact ⟨rfl, rfl, rfl, rfl, rfl, rfl, Or.inl ⟨t9, F9, f1, f2, f3, f4, f5, show 0 ≤ (Mp 53 11) ∧ (Mp 53 11) ≤ 400 by omega⟩, (frS_trans hfp (show frS s Mp (mu (mu Mp 64 i0 (Mp 53 32)) 65 i0 (Mp 67 (Mp 53 19))) from ⟨fun i i1 i2 => (by rw [mu_i _ _ _ (by omega), mu_i _ _ _ (by omega)]), fun z z1 z2 z3 z4 z5 z6 => (by rw [mu_i _ _ _ (by decide), mu_i _ _ _ (by decide)]), fun z hz => ⟨(by rw [mu_i _ _ _ (by decide), mu_i _ _ _ (by decide)]), (by rw [mu_i _ _ _ (by decide), mu_i _ _ _ (by decide)])⟩, fun i i1 i2 z hz => (by rcases (show i = 62 ∨ i = 63 ∨ i = 64 ∨ i = 65 ∨ i = 66 by omega) with h9 | h9 | h9 | h9 | h9; (subst h9; rw [mu_i _ _ _ (by decide), mu_i _ _ _ (by decide)]); (subst h9; rw [mu_i _ _ _ (by decide), mu_i _ _ _ (by decide)]); (subst h9; rw [mu_i _ _ _ (by decide), mu_z _ _ _ (by omega)]); (subst h9; rw [mu_z _ _ _ (by omega), mu_i _ _ _ (by decide)]); (subst h9; rw [mu_i _ _ _ (by decide), mu_i _ _ _ (by decide)])), fun i i1 i2 z hz => (by rw [mu_i _ _ _ (by omega), mu_i _ _ _ (by omega)]), fun z hz => ⟨(by rw [mu_i _ _ _ (by decide), mu_i _ _ _ (by decide)]), (by rw [mu_i _ _ _ (by decide), mu_i _ _ _ (by decide)])⟩⟩))⟩
                · skip
                  obtain ⟨w1, cz1, cd1, k1, eG, ⟨e11, e12, e13, e32⟩, ec, ew, ez, ea, eo, el, en⟩ := ee
                  have e400 := eG.1
                  have eK := GT_tok eG (frS_tok hfp hT)
                  rw [← e11] at eK
                  obtain ⟨eC, eP, eV9⟩ := eK
                  simp only [List.length_nil] at el
                  refine v_aload_n X 1 dX12_tellRule_140 rfl rfl ?_
                  refine gt_X12_ruleTo X iwX12 (Std.lt hS rfl) (Std.k hS rfl rfl) (List.mem_cons_of_mem _ bw_8_2) dX12_tellRule_141 64 (Std.r hS 23 rfl) ?_
                  refine v_iload_n X 0 dX12_tellRule_144 rfl rfl ?_
                  refine v_aload_n X 1 dX12_tellRule_145 rfl rfl ?_
                  refine gt_X12_codes X iwX12 (Std.lt hS rfl) (Std.k hS rfl rfl) (List.mem_cons_of_mem _ bw_19_17) dX12_tellRule_146 (Mp 53 32) rfl (fun hr218 => ?_)
                  refine v_iast X (Std.lt hS rfl) (Std.at hS rfl rfl) (by omega) (by omega) ⟨by omega, by omega⟩ dX12_tellRule_149 ?_
                  refine v_aload_n X 1 dX12_tellRule_150 rfl rfl ?_
                  refine gt_X12_relFirst X iwX12 (Std.lt hS rfl) (Std.k hS rfl rfl) (List.mem_cons_of_mem _ bw_8_3) dX12_tellRule_151 65 (Std.r hS 24 rfl) ?_
                  refine v_iload_n X 0 dX12_tellRule_154 rfl rfl ?_
                  refine v_aload_n X 1 dX12_tellRule_155 rfl rfl ?_
                  refine gt_X12_relations X iwX12 (Std.lt hS rfl) (Std.k hS rfl rfl) (List.mem_cons_of_mem _ bw_8_5) dX12_tellRule_156 67 (Std.r hS 26 rfl) ?_
                  refine v_aload_n X 1 dX12_tellRule_159 rfl rfl ?_
                  refine gt_X12_side X iwX12 (Std.lt hS rfl) (Std.k hS rfl rfl) (List.mem_cons_of_mem _ bw_19_16) dX12_tellRule_160 (Mp 53 19) rfl (fun hr219 => ?_)
                  refine v_iald X (Mp 67 (Mp 53 19)) (Std.lt hS rfl) (Std.at hS rfl rfl) (by omega) (by omega) dX12_tellRule_163 rfl (fun hr220 => ?_)
                  refine v_iast X (Std.lt hS rfl) (Std.at hS rfl rfl) (by omega) (by omega) ⟨by omega, by omega⟩ dX12_tellRule_164 ?_
                  refine v_aload_n X 1 dX12_tellRule_165 rfl rfl ?_
                  refine gt_X12_ruleSort X iwX12 (Std.lt hS rfl) (Std.k hS rfl rfl) (List.mem_cons_of_mem _ bw_8_0) dX12_tellRule_166 62 (Std.r hS 21 rfl) ?_
                  refine v_iload_n X 0 dX12_tellRule_169 rfl rfl ?_
                  refine v_iald X (Mp 62 i0) (Std.lt hS rfl) (Std.at hS rfl rfl) (by omega) (by omega) dX12_tellRule_170 rfl (fun hr221 => ?_)
                  refine v_st (st' := [.int (iz 2)]) (by rw [show (Mp 62 i0) = (2 : Int) from p62i]) ?_
                  refine v_if_eq X 183 dX12_tellRule_171 (by decide) ⟨by decide, by decide⟩ (fun q => absurd q (by decide)) (fun _ => ?_)
                  refine v_aload_n X 1 dX12_tellRule_174 rfl rfl ?_
                  refine v_bipush X dX12_tellRule_175 (by decide) ?_
                  refine v_callV X [.int (iz 21)] hRm (c_X12_is _ _ _ hS 21 ⟨by decide, by decide⟩ (show 0 ≤ (Mp 53 11) ∧ (Mp 53 11) < 403 by omega)) (gV bw_20_18 bw_20_19 bw_20_20 bw_1_5 bw_20_21) rfl ddX12_is (by decide) (Std.lt hS rfl) (Std.k hS rfl rfl) ⟨rfl, by decide⟩ (Nat.le_of_ble_eq_true rfl) dX12_tellRule_177 (k_pB (fun b222 => ?_) (fun b222 => ?_))
                  · skip
                    replace b222 : Mp 56 (Mp 53 11) = 21 := b222.2
                    have bk223 : kdT (bt f n) n t1 = 3 := by rw [← eC, b222]; rfl
                    refine v_if_eq X 187 dX12_tellRule_180 (by decide) ⟨by decide, by decide⟩ (fun q => absurd q (by decide)) (fun _ => ?_)
                    refine v_iconst X dX12_tellRule_183 ?_
                    refine v_goto X 188 dX12_tellRule_184 (by decide) ?_
                    refine v_istore_n X [(2, .int (iz 1)), (1, .int (iz i0)), (0, .ref (ad 53))] dX12_tellRule_188 rfl (by decide) rfl ?_
                    refine v_iload_n X 0 dX12_tellRule_189 rfl rfl ?_
                    refine v_if_eq X 199 dX12_tellRule_190 (by decide) ⟨by decide, by decide⟩ (fun q => absurd q (by decide)) (fun _ => ?_)
                    refine v_aload_n X 2 dX12_tellRule_193 rfl rfl ?_
                    refine v_bipush X dX12_tellRule_194 (by decide) ?_
                    refine v_callV X [.int (iz 21)] hRm (c_X12_must _ _ _ hS 21 ⟨by decide, by decide⟩ (show 0 ≤ (Mp 53 11) ∧ (Mp 53 11) ≤ 400 by omega)) (gV bw_21_23 bw_22_0 bw_22_1 bw_1_5 bw_22_2) rfl ddX12_must (by decide) (Std.lt hS rfl) (Std.k hS rfl rfl) ⟨rfl, by decide⟩ (Nat.le_of_ble_eq_true rfl) dX12_tellRule_196 (k_eV (fun M224 e225 => ?_))
                    by_cases hm226 : (Mp 56 (Mp 53 11)) = 21
                    · skip
                      by_cases ht227 : (Mp 53 11) = 400
                      · skip
                        replace e225 : M224 = (mu (mu (mu (mu Mp 64 i0 (Mp 53 32)) 65 i0 (Mp 67 (Mp 53 19))) 53 13 2) 53 14 (Mp 57 (Mp 53 11))) := e225.trans ((if_pos ⟨(show (Mp 53 13) = 0 by omega), hm226⟩).trans (mNext_full (show (Mp 53 11) = 400 from ht227) (show ¬ 0 < (Mp 53 13) by omega)))
                        subst e225
                        have flq228 : FlT (bt f n) n c0 (mu (mu (mu (mu Mp 64 i0 (Mp 53 32)) 65 i0 (Mp 67 (Mp 53 19))) 53 13 2) 53 14 (Mp 57 (Mp 53 11))) := FlT_mk eG ec (Or.inr ⟨rfl, Or.inr (Or.inr (Or.inr ⟨ng3, Or.inr (Or.inr (Or.inl ⟨by decide, rfl, by omega⟩))⟩)), Or.inl (by omega)⟩) rfl (show (Mp 57 (Mp 53 11)) = _ by exact eP) (show 0 ≤ (Mp 53 11) ∧ (Mp 53 11) ≤ 400 by omega)
                        refine v_iconst X dX12_tellRule_199 ?_
                        refine v_istore_n X [(3, .int (iz 1)), (2, .int (iz 1)), (1, .int (iz i0)), (0, .ref (ad 53))] dX12_tellRule_200 rfl (by decide) rfl ?_
                        refine v_iload_n X 1 dX12_tellRule_201 rfl rfl ?_
                        refine v_if_eq X 254 dX12_tellRule_202 (by decide) ⟨by decide, by decide⟩ (fun q => absurd q (by decide)) (fun _ => ?_)
                        refine v_aload_n X 3 dX12_tellRule_205 rfl rfl ?_
                        refine gt_X12_fault X iwX12 (Std.lt hS rfl) (Std.k hS rfl rfl) (List.mem_cons_of_mem _ bw_19_13) dX12_tellRule_206 2 rfl (fun hr229 => ?_)
                        refine v_if_ne X 254 dX12_tellRule_209 (by decide) ⟨by decide, by decide⟩ (fun _ => ?_) (fun q => absurd (by decide) q)
                        refine v_aload_n X 3 dX12_tellRule_254 rfl rfl ?_
                        refine v_iconst X dX12_tellRule_255 ?_
                        refine v_callV X [.int (iz 4)] hRm (c_X12_must _ _ _ hS 4 ⟨by decide, by decide⟩ (show 0 ≤ (Mp 53 11) ∧ (Mp 53 11) ≤ 400 by omega)) (gV bw_21_23 bw_22_0 bw_22_1 bw_1_5 bw_22_2) rfl ddX12_must (by decide) (Std.lt hS rfl) (Std.k hS rfl rfl) ⟨rfl, by decide⟩ (Nat.le_of_ble_eq_true rfl) dX12_tellRule_256 (k_eV (fun M230 e231 => ?_))
                        replace e231 : M230 = (mu (mu (mu (mu Mp 64 i0 (Mp 53 32)) 65 i0 (Mp 67 (Mp 53 19))) 53 13 2) 53 14 (Mp 57 (Mp 53 11))) := e231.trans ((if_neg (fun z => absurd (show (2 : Int) = 0 from z.1) (by omega))).trans (mFail_y (show 0 < 2 by omega)))
                        rw [e231]
                        refine v_aload_n X 3 dX12_tellRule_259 rfl rfl ?_
                        refine gt_X12_fault X iwX12 (Std.lt hS rfl) (Std.k hS rfl rfl) (List.mem_cons_of_mem _ bw_19_13) dX12_tellRule_260 2 rfl (fun hr232 => ?_)
                        refine v_if_le X 267 dX12_tellRule_263 (by decide) ⟨by decide, by decide⟩ (fun q => absurd q (by decide)) (fun _ => ?_)
                        refine hret _ _ _ _ _ _ _ _ _ _ _ none dX12_tellRule_266 ⟨rfl, rfl⟩ (by decide) (by decide) (fun hmok => ?_)
                        obtain ⟨t9, F9, f1, f2, f3, f4, f5, f6⟩ := flq228
                        exact ⟨rfl, rfl, rfl, rfl, rfl, rfl, Or.inl ⟨t9, F9, f1, f2, f3, f4, f5, show 0 ≤ (Mp 53 11) ∧ (Mp 53 11) ≤ 400 by omega⟩, (frS_trans hfp (show frS s Mp (mu (mu (mu (mu Mp 64 i0 (Mp 53 32)) 65 i0 (Mp 67 (Mp 53 19))) 53 13 2) 53 14 (Mp 57 (Mp 53 11))) from ⟨fun i i1 i2 => (by rw [mu_i _ _ _ (by omega), mu_i _ _ _ (by omega), mu_i _ _ _ (by omega), mu_i _ _ _ (by omega)]), fun z z1 z2 z3 z4 z5 z6 => (by rw [mu_z _ _ _ z4, mu_z _ _ _ z3, mu_i _ _ _ (by decide), mu_i _ _ _ (by decide)]), fun z hz => ⟨(by rw [mu_i _ _ _ (by decide), mu_i _ _ _ (by decide), mu_i _ _ _ (by decide), mu_i _ _ _ (by decide)]), (by rw [mu_i _ _ _ (by decide), mu_i _ _ _ (by decide), mu_i _ _ _ (by decide), mu_i _ _ _ (by decide)])⟩, fun i i1 i2 z hz => (by rcases (show i = 62 ∨ i = 63 ∨ i = 64 ∨ i = 65 ∨ i = 66 by omega) with h9 | h9 | h9 | h9 | h9; (subst h9; rw [mu_i _ _ _ (by decide), mu_i _ _ _ (by decide), mu_i _ _ _ (by decide), mu_i _ _ _ (by decide)]); (subst h9; rw [mu_i _ _ _ (by decide), mu_i _ _ _ (by decide), mu_i _ _ _ (by decide), mu_i _ _ _ (by decide)]); (subst h9; rw [mu_i _ _ _ (by decide), mu_i _ _ _ (by decide), mu_i _ _ _ (by decide), mu_z _ _ _ (by omega)]); (subst h9; rw [mu_i _ _ _ (by decide), mu_i _ _ _ (by decide), mu_z _ _ _ (by omega), mu_i _ _ _ (by decide)]); (subst h9; rw [mu_i _ _ _ (by decide), mu_i _ _ _ (by decide), mu_i _ _ _ (by decide), mu_i _ _ _ (by decide)])), fun i i1 i2 z hz => (by rw [mu_i _ _ _ (by omega), mu_i _ _ _ (by omega), mu_i _ _ _ (by omega), mu_i _ _ _ (by omega)]), fun z hz => ⟨(by rw [mu_i _ _ _ (by decide), mu_i _ _ _ (by decide), mu_i _ _ _ (by decide), mu_i _ _ _ (by decide)]), (by rw [mu_i _ _ _ (by decide), mu_i _ _ _ (by decide), mu_i _ _ _ (by decide), mu_i _ _ _ (by decide)])⟩⟩))⟩
                      · skip
                        replace e225 : M224 = (mu (mu (mu Mp 64 i0 (Mp 53 32)) 65 i0 (Mp 67 (Mp 53 19))) 53 11 ((Mp 53 11) + 1)) := e225.trans ((if_pos ⟨(show (Mp 53 13) = 0 by omega), hm226⟩).trans (mNext_go (show (Mp 53 11) ≠ 400 from ht227)))
                        subst e225
                        have hJ := st_if3 eG ec ew (by omega) hr16 (by omega)
                        refine v_iconst X dX12_tellRule_199 ?_
                        refine v_istore_n X [(3, .int (iz 1)), (2, .int (iz 1)), (1, .int (iz i0)), (0, .ref (ad 53))] dX12_tellRule_200 rfl (by decide) rfl ?_
                        refine v_lv [3, 2, 1, 0] rfl ?_
                        exact hj1 (mu (mu (mu Mp 64 i0 (Mp 53 32)) 65 i0 (Mp 67 (Mp 53 19))) 53 11 ((Mp 53 11) + 1)) (t1 + 1) 0 1 ([]) (cz0 + (k1 : Int)) (rlD 4 w1 cz1 cd1) (cz0 + (k1 : Int)) 2 (M 67 s) (fu (fu rc rz (-1)) rz (cz0 + (k1 : Int))) (LI_0 hJ.1 (by rw [hJ.2, ez]) (HM_11 (t' := t1 + 1) (HM_A (kd := 2) hAll ⟨b1, b2, b3, b4⟩ hs hO hix hz0 (by decide) rfl hfI ef1 (show frI i0 Mp (mu (mu Mp 64 i0 (Mp 53 32)) 65 i0 (Mp 67 (Mp 53 19))) from ⟨fun j j1 j2 => (by rw [mu_i _ _ _ (by omega), mu_i _ _ _ (by omega)]), fun z z1 => (by rw [mu_i _ _ _ (by decide), mu_i _ _ _ (by decide)]), fun j j1 j2 z hz => (by rcases (show j = 62 ∨ j = 63 ∨ j = 64 ∨ j = 65 ∨ j = 66 by omega) with h9 | h9 | h9 | h9 | h9; (subst h9; rw [mu_i _ _ _ (by decide), mu_i _ _ _ (by decide)]); (subst h9; rw [mu_i _ _ _ (by decide), mu_i _ _ _ (by decide)]); (subst h9; rw [mu_i _ _ _ (by decide), mu_z _ _ _ hz]); (subst h9; rw [mu_z _ _ _ hz, mu_i _ _ _ (by decide)]); (subst h9; rw [mu_i _ _ _ (by decide), mu_i _ _ _ (by decide)]))⟩) e11 e12 e13 e32 ez ea eo (by rw [mu_i _ _ _ (by decide), mu_i _ _ _ (by decide), mu_s]) rfl (by rw [mu_s]) rfl (by rw [mu_i _ _ _ (by decide), mu_s]) (by rw [mu_s, p19]) rfl (by omega)) (fun j hj => mu_i _ _ _ hj) (fun z hz => mu_z _ _ _ hz) (show Mp 53 11 + 1 = _ by omega) (by omega)) (show Mp 67 s = M 67 s from by rw [ef1.1 67 (by decide) (by decide) (by decide) (by decide)]; rfl)) (by omega) ((frS_trans hfp (show frS s Mp (mu (mu (mu Mp 64 i0 (Mp 53 32)) 65 i0 (Mp 67 (Mp 53 19))) 53 11 ((Mp 53 11) + 1)) from ⟨fun i i1 i2 => (by rw [mu_i _ _ _ (by omega), mu_i _ _ _ (by omega), mu_i _ _ _ (by omega)]), fun z z1 z2 z3 z4 z5 z6 => (by rw [mu_z _ _ _ z1, mu_i _ _ _ (by decide), mu_i _ _ _ (by decide)]), fun z hz => ⟨(by rw [mu_i _ _ _ (by decide), mu_i _ _ _ (by decide), mu_i _ _ _ (by decide)]), (by rw [mu_i _ _ _ (by decide), mu_i _ _ _ (by decide), mu_i _ _ _ (by decide)])⟩, fun i i1 i2 z hz => (by rcases (show i = 62 ∨ i = 63 ∨ i = 64 ∨ i = 65 ∨ i = 66 by omega) with h9 | h9 | h9 | h9 | h9; (subst h9; rw [mu_i _ _ _ (by decide), mu_i _ _ _ (by decide), mu_i _ _ _ (by decide)]); (subst h9; rw [mu_i _ _ _ (by decide), mu_i _ _ _ (by decide), mu_i _ _ _ (by decide)]); (subst h9; rw [mu_i _ _ _ (by decide), mu_i _ _ _ (by decide), mu_z _ _ _ (by omega)]); (subst h9; rw [mu_i _ _ _ (by decide), mu_z _ _ _ (by omega), mu_i _ _ _ (by decide)]); (subst h9; rw [mu_i _ _ _ (by decide), mu_i _ _ _ (by decide), mu_i _ _ _ (by decide)])), fun i i1 i2 z hz => (by rw [mu_i _ _ _ (by omega), mu_i _ _ _ (by omega), mu_i _ _ _ (by omega)]), fun z hz => ⟨(by rw [mu_i _ _ _ (by decide), mu_i _ _ _ (by decide), mu_i _ _ _ (by decide)]), (by rw [mu_i _ _ _ (by decide), mu_i _ _ _ (by decide), mu_i _ _ _ (by decide)])⟩⟩))) (by omega) (hr16) 
                    · skip
                      exfalso; omega
                  · skip
                    replace b222 : ¬ Mp 56 (Mp 53 11) = 21 := fun z => b222 ⟨e13, z⟩
                    have bk233 : kdT (bt f n) n t1 ≠ 3 := fun z => b222 (cOf_key.2.1.mp (eC.trans z))
                    refine v_if_eq X 187 dX12_tellRule_180 (by decide) ⟨by decide, by decide⟩ (fun _ => ?_) (fun q => absurd (by decide) q)
                    refine v_iconst X dX12_tellRule_187 ?_
                    refine v_istore_n X [(2, .int (iz 0)), (1, .int (iz i0)), (0, .ref (ad 53))] dX12_tellRule_188 rfl (by decide) rfl ?_
                    refine v_iload_n X 0 dX12_tellRule_189 rfl rfl ?_
                    refine v_if_eq X 199 dX12_tellRule_190 (by decide) ⟨by decide, by decide⟩ (fun _ => ?_) (fun q => absurd (by decide) q)
                    refine v_iconst X dX12_tellRule_199 ?_
                    refine v_istore_n X [(3, .int (iz 1)), (2, .int (iz 0)), (1, .int (iz i0)), (0, .ref (ad 53))] dX12_tellRule_200 rfl (by decide) rfl ?_
                    refine v_iload_n X 1 dX12_tellRule_201 rfl rfl ?_
                    refine v_if_eq X 254 dX12_tellRule_202 (by decide) ⟨by decide, by decide⟩ (fun _ => ?_) (fun q => absurd (by decide) q)
                    refine v_aload_n X 3 dX12_tellRule_254 rfl rfl ?_
                    refine v_iconst X dX12_tellRule_255 ?_
                    refine v_callV X [.int (iz 4)] hRm (c_X12_must _ _ _ hS 4 ⟨by decide, by decide⟩ (show 0 ≤ (Mp 53 11) ∧ (Mp 53 11) ≤ 400 by omega)) (gV bw_21_23 bw_22_0 bw_22_1 bw_1_5 bw_22_2) rfl ddX12_must (by decide) (Std.lt hS rfl) (Std.k hS rfl rfl) ⟨rfl, by decide⟩ (Nat.le_of_ble_eq_true rfl) dX12_tellRule_256 (k_eV (fun M234 e235 => ?_))
                    by_cases hm236 : (Mp 56 (Mp 53 11)) = 4
                    · skip
                      have bk238 : kdT (bt f n) n t1 = 15 := by rw [← eC, hm236]; rfl
                      by_cases ht237 : (Mp 53 11) = 400
                      · skip
                        replace e235 : M234 = (mu (mu (mu (mu Mp 64 i0 (Mp 53 32)) 65 i0 (Mp 67 (Mp 53 19))) 53 13 2) 53 14 (Mp 57 (Mp 53 11))) := e235.trans ((if_pos ⟨(show (Mp 53 13) = 0 by omega), hm236⟩).trans (mNext_full (show (Mp 53 11) = 400 from ht237) (show ¬ 0 < (Mp 53 13) by omega)))
                        subst e235
                        have flq239 : FlT (bt f n) n c0 (mu (mu (mu (mu Mp 64 i0 (Mp 53 32)) 65 i0 (Mp 67 (Mp 53 19))) 53 13 2) 53 14 (Mp 57 (Mp 53 11))) := FlT_mk eG ec (Or.inr ⟨rfl, Or.inr (Or.inr (Or.inr ⟨ng3, Or.inr (Or.inr (Or.inl ⟨by decide, rfl, by omega⟩))⟩)), Or.inl (by omega)⟩) rfl (show (Mp 57 (Mp 53 11)) = _ by exact eP) (show 0 ≤ (Mp 53 11) ∧ (Mp 53 11) ≤ 400 by omega)
                        refine v_aload_n X 3 dX12_tellRule_259 rfl rfl ?_
                        refine gt_X12_fault X iwX12 (Std.lt hS rfl) (Std.k hS rfl rfl) (List.mem_cons_of_mem _ bw_19_13) dX12_tellRule_260 2 rfl (fun hr240 => ?_)
                        refine v_if_le X 267 dX12_tellRule_263 (by decide) ⟨by decide, by decide⟩ (fun q => absurd q (by decide)) (fun _ => ?_)
                        refine hret _ _ _ _ _ _ _ _ _ _ _ none dX12_tellRule_266 ⟨rfl, rfl⟩ (by decide) (by decide) (fun hmok => ?_)
                        obtain ⟨t9, F9, f1, f2, f3, f4, f5, f6⟩ := flq239
                        exact ⟨rfl, rfl, rfl, rfl, rfl, rfl, Or.inl ⟨t9, F9, f1, f2, f3, f4, f5, show 0 ≤ (Mp 53 11) ∧ (Mp 53 11) ≤ 400 by omega⟩, (frS_trans hfp (show frS s Mp (mu (mu (mu (mu Mp 64 i0 (Mp 53 32)) 65 i0 (Mp 67 (Mp 53 19))) 53 13 2) 53 14 (Mp 57 (Mp 53 11))) from ⟨fun i i1 i2 => (by rw [mu_i _ _ _ (by omega), mu_i _ _ _ (by omega), mu_i _ _ _ (by omega), mu_i _ _ _ (by omega)]), fun z z1 z2 z3 z4 z5 z6 => (by rw [mu_z _ _ _ z4, mu_z _ _ _ z3, mu_i _ _ _ (by decide), mu_i _ _ _ (by decide)]), fun z hz => ⟨(by rw [mu_i _ _ _ (by decide), mu_i _ _ _ (by decide), mu_i _ _ _ (by decide), mu_i _ _ _ (by decide)]), (by rw [mu_i _ _ _ (by decide), mu_i _ _ _ (by decide), mu_i _ _ _ (by decide), mu_i _ _ _ (by decide)])⟩, fun i i1 i2 z hz => (by rcases (show i = 62 ∨ i = 63 ∨ i = 64 ∨ i = 65 ∨ i = 66 by omega) with h9 | h9 | h9 | h9 | h9; (subst h9; rw [mu_i _ _ _ (by decide), mu_i _ _ _ (by decide), mu_i _ _ _ (by decide), mu_i _ _ _ (by decide)]); (subst h9; rw [mu_i _ _ _ (by decide), mu_i _ _ _ (by decide), mu_i _ _ _ (by decide), mu_i _ _ _ (by decide)]); (subst h9; rw [mu_i _ _ _ (by decide), mu_i _ _ _ (by decide), mu_i _ _ _ (by decide), mu_z _ _ _ (by omega)]); (subst h9; rw [mu_i _ _ _ (by decide), mu_i _ _ _ (by decide), mu_z _ _ _ (by omega), mu_i _ _ _ (by decide)]); (subst h9; rw [mu_i _ _ _ (by decide), mu_i _ _ _ (by decide), mu_i _ _ _ (by decide), mu_i _ _ _ (by decide)])), fun i i1 i2 z hz => (by rw [mu_i _ _ _ (by omega), mu_i _ _ _ (by omega), mu_i _ _ _ (by omega), mu_i _ _ _ (by omega)]), fun z hz => ⟨(by rw [mu_i _ _ _ (by decide), mu_i _ _ _ (by decide), mu_i _ _ _ (by decide), mu_i _ _ _ (by decide)]), (by rw [mu_i _ _ _ (by decide), mu_i _ _ _ (by decide), mu_i _ _ _ (by decide), mu_i _ _ _ (by decide)])⟩⟩))⟩
                      · skip
                        replace e235 : M234 = (mu (mu (mu Mp 64 i0 (Mp 53 32)) 65 i0 (Mp 67 (Mp 53 19))) 53 11 ((Mp 53 11) + 1)) := e235.trans ((if_pos ⟨(show (Mp 53 13) = 0 by omega), hm236⟩).trans (mNext_go (show (Mp 53 11) ≠ 400 from ht237)))
                        subst e235
                        refine v_aload_n X 3 dX12_tellRule_259 rfl rfl ?_
                        refine gt_X12_fault X iwX12 (Std.lt hS rfl) (Std.k hS rfl rfl) (List.mem_cons_of_mem _ bw_19_13) dX12_tellRule_260 (Mp 53 13) rfl (fun hr241 => ?_)
                        refine v_if_le X 267 dX12_tellRule_263 (by decide) ⟨by omega, by omega⟩ (fun u242 => ?_) (fun q => absurd (by omega) q)
                        refine v_aload_n X 3 dX12_tellRule_267 rfl rfl ?_
                        refine gt_X12_relLast X iwX12 (Std.lt hS rfl) (Std.k hS rfl rfl) (List.mem_cons_of_mem _ bw_8_4) dX12_tellRule_268 66 (Std.r hS 25 rfl) ?_
                        refine v_iload_n X 2 dX12_tellRule_271 rfl rfl ?_
                        refine v_aload_n X 3 dX12_tellRule_272 rfl rfl ?_
                        refine gt_X12_relations X iwX12 (Std.lt hS rfl) (Std.k hS rfl rfl) (List.mem_cons_of_mem _ bw_8_5) dX12_tellRule_273 67 (Std.r hS 26 rfl) ?_
                        refine v_aload_n X 3 dX12_tellRule_276 rfl rfl ?_
                        refine gt_X12_side X iwX12 (Std.lt hS rfl) (Std.k hS rfl rfl) (List.mem_cons_of_mem _ bw_19_16) dX12_tellRule_277 (Mp 53 19) rfl (fun hr243 => ?_)
                        refine v_iald X (Mp 67 (Mp 53 19)) (Std.lt hS rfl) (Std.at hS rfl rfl) (by omega) (by omega) dX12_tellRule_280 rfl (fun hr244 => ?_)
                        refine v_iast X (Std.lt hS rfl) (Std.at hS rfl rfl) (by omega) (by omega) ⟨by omega, by omega⟩ dX12_tellRule_281 ?_
                        have z61b : Mp 61 (Mp 53 19) = rz := by rw [p19, ef1.1 61 (by decide) (by decide) (by decide) (by decide)]; exact a61
                        refine v_aload_n X 3 dX12_tellRule_282 rfl rfl ?_
                        refine gt_X12_rules X iwX12 (Std.lt hS rfl) (Std.k hS rfl rfl) (List.mem_cons_of_mem _ bw_7_23) dX12_tellRule_283 61 (Std.r hS 20 rfl) ?_
                        refine v_aload_n X 3 dX12_tellRule_286 rfl rfl ?_
                        refine gt_X12_side X iwX12 (Std.lt hS rfl) (Std.k hS rfl rfl) (List.mem_cons_of_mem _ bw_19_16) dX12_tellRule_287 (Mp 53 19) rfl (fun hr245 => ?_)
                        refine v_dup2 X dX12_tellRule_290 rfl rfl ?_
                        refine v_iald X (Mp 61 (Mp 53 19)) (Std.lt hS rfl) (Std.at hS rfl rfl) (by omega) (by omega) dX12_tellRule_291 rfl (fun hr246 => ?_)
                        refine v_iconst X dX12_tellRule_292 ?_
                        refine v_iadd X dX12_tellRule_293 ?_
                        refine v_iast X (Std.lt hS rfl) (Std.at hS rfl rfl) (by omega) (by omega) ⟨by omega, by omega⟩ dX12_tellRule_294 ?_
                        refine hret _ _ _ _ _ _ _ _ _ _ _ none dX12_tellRule_295 ⟨rfl, rfl⟩ (by decide) (by decide) (fun hmok => ?_)
                        have p61 : Mp 61 s = rz := by rw [ef1.1 61 (by decide) (by decide) (by decide) (by decide)]; exact a61
                        exact ⟨rfl, rfl, rfl, rfl, rfl, rfl, Or.inr ⟨t1 + 1, by omega, A_end (HM_A (kd := 2) hAll ⟨b1, b2, b3, b4⟩ hs hO hix hz0 (by decide) rfl hfI ef1 (show frI i0 Mp (mu (mu Mp 64 i0 (Mp 53 32)) 65 i0 (Mp 67 (Mp 53 19))) from ⟨fun j j1 j2 => (by rw [mu_i _ _ _ (by omega), mu_i _ _ _ (by omega)]), fun z z1 => (by rw [mu_i _ _ _ (by decide), mu_i _ _ _ (by decide)]), fun j j1 j2 z hz => (by rcases (show j = 62 ∨ j = 63 ∨ j = 64 ∨ j = 65 ∨ j = 66 by omega) with h9 | h9 | h9 | h9 | h9; (subst h9; rw [mu_i _ _ _ (by decide), mu_i _ _ _ (by decide)]); (subst h9; rw [mu_i _ _ _ (by decide), mu_i _ _ _ (by decide)]); (subst h9; rw [mu_i _ _ _ (by decide), mu_z _ _ _ hz]); (subst h9; rw [mu_z _ _ _ hz, mu_i _ _ _ (by decide)]); (subst h9; rw [mu_i _ _ _ (by decide), mu_i _ _ _ (by decide)]))⟩) e11 e12 e13 e32 ez ea eo (by rw [mu_i _ _ _ (by decide), mu_i _ _ _ (by decide), mu_s]) rfl (by rw [mu_s]) rfl (by rw [mu_i _ _ _ (by decide), mu_s]) (by rw [mu_s, p19]) rfl (by omega)) (by decide) ez eG ec ew (show Mp 67 s = M 67 s from by rw [ef1.1 67 (by decide) (by decide) (by decide) (by decide)]; rfl) hix ⟨r1, hr16⟩ (by omega) (by omega) (fun j j1 j2 j3 => by rw [mu_i _ _ _ j2, mu_i _ _ _ j3, mu_i _ _ _ j1]) (fun z hz => by rw [mu_i _ _ _ (by decide), mu_i _ _ _ (by decide), mu_z _ _ _ hz]) (show Mp 53 11 + 1 = _ by omega) (fun z => by rw [mu_i _ _ _ (by decide), ← p19]; rfl) (by rw [← p19, mu_s]; show Mp 61 (Mp 53 19) + 1 = rz + 1; rw [p19]; omega)⟩, (frS_trans hfp (show frS s Mp (mu (mu (mu (mu (mu Mp 64 i0 (Mp 53 32)) 65 i0 (Mp 67 (Mp 53 19))) 53 11 ((Mp 53 11) + 1)) 66 i0 (Mp 67 (Mp 53 19))) 61 (Mp 53 19) ((Mp 61 (Mp 53 19)) + 1)) from ⟨fun i i1 i2 => (by rw [mu_i _ _ _ (by omega), mu_i _ _ _ (by omega), mu_i _ _ _ (by omega), mu_i _ _ _ (by omega), mu_i _ _ _ (by omega)]), fun z z1 z2 z3 z4 z5 z6 => (by rw [mu_i _ _ _ (by decide), mu_i _ _ _ (by decide), mu_z _ _ _ z1, mu_i _ _ _ (by decide), mu_i _ _ _ (by decide)]), fun z hz => ⟨(by rw [mu_z _ _ _ (by rw [p19]; exact hz), mu_i _ _ _ (by decide), mu_i _ _ _ (by decide), mu_i _ _ _ (by decide), mu_i _ _ _ (by decide)]), (by rw [mu_i _ _ _ (by decide), mu_i _ _ _ (by decide), mu_i _ _ _ (by decide), mu_i _ _ _ (by decide), mu_i _ _ _ (by decide)])⟩, fun i i1 i2 z hz => (by rcases (show i = 62 ∨ i = 63 ∨ i = 64 ∨ i = 65 ∨ i = 66 by omega) with h9 | h9 | h9 | h9 | h9; (subst h9; rw [mu_i _ _ _ (by decide), mu_i _ _ _ (by decide), mu_i _ _ _ (by decide), mu_i _ _ _ (by decide), mu_i _ _ _ (by decide)]); (subst h9; rw [mu_i _ _ _ (by decide), mu_i _ _ _ (by decide), mu_i _ _ _ (by decide), mu_i _ _ _ (by decide), mu_i _ _ _ (by decide)]); (subst h9; rw [mu_i _ _ _ (by decide), mu_i _ _ _ (by decide), mu_i _ _ _ (by decide), mu_i _ _ _ (by decide), mu_z _ _ _ (by omega)]); (subst h9; rw [mu_i _ _ _ (by decide), mu_i _ _ _ (by decide), mu_i _ _ _ (by decide), mu_z _ _ _ (by omega), mu_i _ _ _ (by decide)]); (subst h9; rw [mu_i _ _ _ (by decide), mu_z _ _ _ (by omega), mu_i _ _ _ (by decide), mu_i _ _ _ (by decide), mu_i _ _ _ (by decide)])), fun i i1 i2 z hz => (by rw [mu_i _ _ _ (by omega), mu_i _ _ _ (by omega), mu_i _ _ _ (by omega), mu_i _ _ _ (by omega), mu_i _ _ _ (by omega)]), fun z hz => ⟨(by rw [mu_i _ _ _ (by decide), mu_i _ _ _ (by decide), mu_i _ _ _ (by decide), mu_i _ _ _ (by decide), mu_i _ _ _ (by decide)]), (by rw [mu_i _ _ _ (by decide), mu_i _ _ _ (by decide), mu_i _ _ _ (by decide), mu_i _ _ _ (by decide), mu_i _ _ _ (by decide)])⟩⟩))⟩
                    · skip
                      have bk247 : kdT (bt f n) n t1 ≠ 15 := fun z => hm236 (cOf_key.2.2.2.2.2.2.1.mp (eC.trans z))
                      replace e235 : M234 = (mu (mu (mu (mu Mp 64 i0 (Mp 53 32)) 65 i0 (Mp 67 (Mp 53 19))) 53 13 1) 53 14 (Mp 57 (Mp 53 11))) := e235.trans ((if_neg (fun z => hm236 z.2)).trans (mFail_n (show ¬ 0 < (Mp 53 13) by omega)))
                      subst e235
                      have flq248 : FlT (bt f n) n c0 (mu (mu (mu (mu Mp 64 i0 (Mp 53 32)) 65 i0 (Mp 67 (Mp 53 19))) 53 13 1) 53 14 (Mp 57 (Mp 53 11))) := FlT_mk eG ec (Or.inl ⟨rfl, fun z => by rw [goW_3 (by decide) (by decide) (by decide), goU_0 (by omega) (by decide) rfl] at z; omega, fun z => absurd z.2 (by decide)⟩) rfl (show (Mp 57 (Mp 53 11)) = _ by exact eP) (show 0 ≤ (Mp 53 11) ∧ (Mp 53 11) ≤ 400 by omega)
                      refine v_aload_n X 3 dX12_tellRule_259 rfl rfl ?_
                      refine gt_X12_fault X iwX12 (Std.lt hS rfl) (Std.k hS rfl rfl) (List.mem_cons_of_mem _ bw_19_13) dX12_tellRule_260 1 rfl (fun hr249 => ?_)
                      refine v_if_le X 267 dX12_tellRule_263 (by decide) ⟨by decide, by decide⟩ (fun q => absurd q (by decide)) (fun _ => ?_)
                      refine hret _ _ _ _ _ _ _ _ _ _ _ none dX12_tellRule_266 ⟨rfl, rfl⟩ (by decide) (by decide) (fun hmok => ?_)
                      obtain ⟨t9, F9, f1, f2, f3, f4, f5, f6⟩ := flq248
                      exact ⟨rfl, rfl, rfl, rfl, rfl, rfl, Or.inl ⟨t9, F9, f1, f2, f3, f4, f5, show 0 ≤ (Mp 53 11) ∧ (Mp 53 11) ≤ 400 by omega⟩, (frS_trans hfp (show frS s Mp (mu (mu (mu (mu Mp 64 i0 (Mp 53 32)) 65 i0 (Mp 67 (Mp 53 19))) 53 13 1) 53 14 (Mp 57 (Mp 53 11))) from ⟨fun i i1 i2 => (by rw [mu_i _ _ _ (by omega), mu_i _ _ _ (by omega), mu_i _ _ _ (by omega), mu_i _ _ _ (by omega)]), fun z z1 z2 z3 z4 z5 z6 => (by rw [mu_z _ _ _ z4, mu_z _ _ _ z3, mu_i _ _ _ (by decide), mu_i _ _ _ (by decide)]), fun z hz => ⟨(by rw [mu_i _ _ _ (by decide), mu_i _ _ _ (by decide), mu_i _ _ _ (by decide), mu_i _ _ _ (by decide)]), (by rw [mu_i _ _ _ (by decide), mu_i _ _ _ (by decide), mu_i _ _ _ (by decide), mu_i _ _ _ (by decide)])⟩, fun i i1 i2 z hz => (by rcases (show i = 62 ∨ i = 63 ∨ i = 64 ∨ i = 65 ∨ i = 66 by omega) with h9 | h9 | h9 | h9 | h9; (subst h9; rw [mu_i _ _ _ (by decide), mu_i _ _ _ (by decide), mu_i _ _ _ (by decide), mu_i _ _ _ (by decide)]); (subst h9; rw [mu_i _ _ _ (by decide), mu_i _ _ _ (by decide), mu_i _ _ _ (by decide), mu_i _ _ _ (by decide)]); (subst h9; rw [mu_i _ _ _ (by decide), mu_i _ _ _ (by decide), mu_i _ _ _ (by decide), mu_z _ _ _ (by omega)]); (subst h9; rw [mu_i _ _ _ (by decide), mu_i _ _ _ (by decide), mu_z _ _ _ (by omega), mu_i _ _ _ (by decide)]); (subst h9; rw [mu_i _ _ _ (by decide), mu_i _ _ _ (by decide), mu_i _ _ _ (by decide), mu_i _ _ _ (by decide)])), fun i i1 i2 z hz => (by rw [mu_i _ _ _ (by omega), mu_i _ _ _ (by omega), mu_i _ _ _ (by omega), mu_i _ _ _ (by omega)]), fun z hz => ⟨(by rw [mu_i _ _ _ (by decide), mu_i _ _ _ (by decide), mu_i _ _ _ (by decide), mu_i _ _ _ (by decide)]), (by rw [mu_i _ _ _ (by decide), mu_i _ _ _ (by decide), mu_i _ _ _ (by decide), mu_i _ _ _ (by decide)])⟩⟩))⟩
        · skip
          refine v_aload_n X 0 dX12_tellRule_49 rfl rfl ?_
          refine v_iconst X dX12_tellRule_50 ?_
          refine v_callV X [.int (iz 2)] hRm (c_X12_fail _ _ _ hS 2 ⟨by decide, by decide⟩ (show 0 ≤ (M 53 11) ∧ (M 53 11) < 403 by omega)) (gV bw_21_2 bw_21_3 bw_21_4 bw_1_5 bw_21_5) rfl ddX12_fail (by decide) (Std.lt hS rfl) (Std.k hS rfl rfl) ⟨rfl, by decide⟩ (Nat.le_of_ble_eq_true rfl) dX12_tellRule_51 (k_eV (fun M250 e251 => ?_))
          replace e251 : M250 = (mu (mu M 53 13 2) 53 14 (M 57 (M 53 11))) := e251.trans (mFail_n (show ¬ 0 < (M 53 13) by omega))
          subst e251
          have flq252 : FlT (bt f n) n c0 (mu (mu M 53 13 2) 53 14 (M 57 (M 53 11))) := FlT_mk hG hc (Or.inr ⟨rfl, Or.inl ⟨rfl, by omega⟩, Or.inr (Or.inl ⟨rfl, (show 16 ≤ rz by omega)⟩)⟩) rfl (show (M 57 (M 53 11)) = _ by exact aP) (show 0 ≤ (M 53 11) ∧ (M 53 11) ≤ 400 by omega)
          refine v_aload_n X 0 dX12_tellRule_54 rfl rfl ?_
          refine gt_X12_fault X iwX12 (Std.lt hS rfl) (Std.k hS rfl rfl) (List.mem_cons_of_mem _ bw_19_13) dX12_tellRule_55 2 rfl (fun hr253 => ?_)
          refine v_if_le X 62 dX12_tellRule_58 (by decide) ⟨by decide, by decide⟩ (fun q => absurd q (by decide)) (fun _ => ?_)
          refine hret _ _ _ _ _ _ _ _ _ _ _ none dX12_tellRule_61 ⟨rfl, rfl⟩ (by decide) (by decide) (fun hmok => ?_)
          obtain ⟨t9, F9, f1, f2, f3, f4, f5, f6⟩ := flq252
          exact ⟨rfl, rfl, rfl, rfl, rfl, rfl, Or.inl ⟨t9, F9, f1, f2, f3, f4, f5, show 0 ≤ (M 53 11) ∧ (M 53 11) ≤ 400 by omega⟩, (frS_trans (frS_refl _ _) (show frS s M (mu (mu M 53 13 2) 53 14 (M 57 (M 53 11))) from ⟨fun i i1 i2 => (by rw [mu_i _ _ _ (by omega), mu_i _ _ _ (by omega)]), fun z z1 z2 z3 z4 z5 z6 => (by rw [mu_z _ _ _ z4, mu_z _ _ _ z3]), fun z hz => ⟨(by rw [mu_i _ _ _ (by decide), mu_i _ _ _ (by decide)]), (by rw [mu_i _ _ _ (by decide), mu_i _ _ _ (by decide)])⟩, fun i i1 i2 z hz => (by rcases (show i = 62 ∨ i = 63 ∨ i = 64 ∨ i = 65 ∨ i = 66 by omega) with h9 | h9 | h9 | h9 | h9; (subst h9; rw [mu_i _ _ _ (by decide), mu_i _ _ _ (by decide)]); (subst h9; rw [mu_i _ _ _ (by decide), mu_i _ _ _ (by decide)]); (subst h9; rw [mu_i _ _ _ (by decide), mu_i _ _ _ (by decide)]); (subst h9; rw [mu_i _ _ _ (by decide), mu_i _ _ _ (by decide)]); (subst h9; rw [mu_i _ _ _ (by decide), mu_i _ _ _ (by decide)])), fun i i1 i2 z hz => (by rw [mu_i _ _ _ (by omega), mu_i _ _ _ (by omega)]), fun z hz => ⟨(by rw [mu_i _ _ _ (by decide), mu_i _ _ _ (by decide)]), (by rw [mu_i _ _ _ (by decide), mu_i _ _ _ (by decide)])⟩⟩))⟩
      · skip
        replace b179 : ¬ M 56 (M 53 11) = 23 := fun z => b179 ⟨a13, z⟩
        have bk254 : kdT (bt f n) n t ≠ 2 := fun z => b179 (cOf_key.2.2.2.1.mp (aC.trans z))
        refine v_if_ne X 35 dX12_tellRule_24 (by decide) ⟨by decide, by decide⟩ (fun q => absurd q (by decide)) (fun _ => ?_)
        refine v_aload_n X 0 dX12_tellRule_27 rfl rfl ?_
        refine v_iconst X dX12_tellRule_28 ?_
        refine v_callV X [.int (iz 1)] hRm (c_X12_fail _ _ _ hS 1 ⟨by decide, by decide⟩ (show 0 ≤ (M 53 11) ∧ (M 53 11) < 403 by omega)) (gV bw_21_2 bw_21_3 bw_21_4 bw_1_5 bw_21_5) rfl ddX12_fail (by decide) (Std.lt hS rfl) (Std.k hS rfl rfl) ⟨rfl, by decide⟩ (Nat.le_of_ble_eq_true rfl) dX12_tellRule_29 (k_eV (fun M255 e256 => ?_))
        replace e256 : M255 = (mu (mu M 53 13 1) 53 14 (M 57 (M 53 11))) := e256.trans (mFail_n (show ¬ 0 < (M 53 13) by omega))
        subst e256
        have flq257 : FlT (bt f n) n c0 (mu (mu M 53 13 1) 53 14 (M 57 (M 53 11))) := FlT_mk hG hc (Or.inl ⟨rfl, fun z => by rw [goW_0 rfl] at z; omega, fun z => hE z.1⟩) rfl (show (M 57 (M 53 11)) = _ by exact aP) (show 0 ≤ (M 53 11) ∧ (M 53 11) ≤ 400 by omega)
        refine v_goto X 54 dX12_tellRule_32 (by decide) ?_
        refine v_aload_n X 0 dX12_tellRule_54 rfl rfl ?_
        refine gt_X12_fault X iwX12 (Std.lt hS rfl) (Std.k hS rfl rfl) (List.mem_cons_of_mem _ bw_19_13) dX12_tellRule_55 1 rfl (fun hr258 => ?_)
        refine v_if_le X 62 dX12_tellRule_58 (by decide) ⟨by decide, by decide⟩ (fun q => absurd q (by decide)) (fun _ => ?_)
        refine hret _ _ _ _ _ _ _ _ _ _ _ none dX12_tellRule_61 ⟨rfl, rfl⟩ (by decide) (by decide) (fun hmok => ?_)
        obtain ⟨t9, F9, f1, f2, f3, f4, f5, f6⟩ := flq257
        exact ⟨rfl, rfl, rfl, rfl, rfl, rfl, Or.inl ⟨t9, F9, f1, f2, f3, f4, f5, show 0 ≤ (M 53 11) ∧ (M 53 11) ≤ 400 by omega⟩, (frS_trans (frS_refl _ _) (show frS s M (mu (mu M 53 13 1) 53 14 (M 57 (M 53 11))) from ⟨fun i i1 i2 => (by rw [mu_i _ _ _ (by omega), mu_i _ _ _ (by omega)]), fun z z1 z2 z3 z4 z5 z6 => (by rw [mu_z _ _ _ z4, mu_z _ _ _ z3]), fun z hz => ⟨(by rw [mu_i _ _ _ (by decide), mu_i _ _ _ (by decide)]), (by rw [mu_i _ _ _ (by decide), mu_i _ _ _ (by decide)])⟩, fun i i1 i2 z hz => (by rcases (show i = 62 ∨ i = 63 ∨ i = 64 ∨ i = 65 ∨ i = 66 by omega) with h9 | h9 | h9 | h9 | h9; (subst h9; rw [mu_i _ _ _ (by decide), mu_i _ _ _ (by decide)]); (subst h9; rw [mu_i _ _ _ (by decide), mu_i _ _ _ (by decide)]); (subst h9; rw [mu_i _ _ _ (by decide), mu_i _ _ _ (by decide)]); (subst h9; rw [mu_i _ _ _ (by decide), mu_i _ _ _ (by decide)]); (subst h9; rw [mu_i _ _ _ (by decide), mu_i _ _ _ (by decide)])), fun i i1 i2 z hz => (by rw [mu_i _ _ _ (by omega), mu_i _ _ _ (by omega)]), fun z hz => ⟨(by rw [mu_i _ _ _ (by decide), mu_i _ _ _ (by decide)]), (by rw [mu_i _ _ _ (by decide), mu_i _ _ _ (by decide)])⟩⟩))⟩

