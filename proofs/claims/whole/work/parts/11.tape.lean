/-! bytes of an int; four bytes behind a row -/
def shrI (w s : Int) : Int := (iz w >>> (iz s &&& 31)).toInt
def byI (z : Int) : Int := ((iz z).toInt8.toInt32).toInt
theorem byI_rng (z : Int) : -128 ≤ byI z ∧ byI z < 128 := by
  unfold byI
  have h1 := Int8.le_toInt (iz z).toInt8
  have h2 := Int8.toInt_lt (iz z).toInt8
  rw [Int8.toInt_toInt32]
  constructor <;> omega
def byteOf (w s : Int) : Int := byI (shrI w s)
def app4 (f : Int → Int) (n w : Int) : Int → Int := fun k => if k = n then byteOf w 24 else if k = n + 1 then byteOf w 16 else if k = n + 2 then byteOf w 8 else if k = n + 3 then byteOf w 0 else f k
theorem app4_eq {o r : Nat} {q : Int} (M : MI) (w : Int) (hor : o ≠ r) : mu (mu (mu (mu (mu (mu (mu (mu M r (M o q) (byteOf w 24)) o q (M o q + 1)) r (M o q + 1) (byteOf w 16)) o q (M o q + 1 + 1)) r (M o q + 1 + 1) (byteOf w 8)) o q (M o q + 1 + 1 + 1)) r (M o q + 1 + 1 + 1) (byteOf w 0)) o q (M o q + 1 + 1 + 1 + 1) = mrow (mu M o q (M o q + 4)) r (app4 (M r) (M o q) w) := by
  funext a b
  by_cases h : a = r
  · subst h
    have ho : ¬ a = o := fun e => hor e.symm
    simp only [mu, mrow, app4, ho, if_true, if_false]
    repeat' split
    all_goals first | rfl | omega
  · by_cases h2 : a = o
    · subst h2
      simp only [mu, mrow, h, if_true, if_false]
      split
      · omega
      · rfl
    · simp only [mu, mrow, h, h2, if_false]

-- Tape.append
set_option maxHeartbeats 4000000 in
set_option maxRecDepth 100000 in
theorem c_X9_append (l : Launch) (D : va_G) (cy : Nat → ClassId) {N : Nat} {sh : MS} {ad : Nat → Nat} {M L : MI} {R : MR} (hS : Std N sh R) (a : Int) (ha : inR a) (hz : 0 ≤ M 1 1 ∧ M 1 1 ≤ 1996) : Ctr l D cy yX9_append wsX9_append ({ frames := 0, cells := 0, slots := 0, locals := 0 } : Room) N sh ad M L R [.ref (ad 1), .int (iz a)] (eV N sh ad L R (fun M' => M' = mrow (mu M 1 1 (M 1 1 + 4)) 2 (app4 (M 2) (M 1 1) a))) := by
  refine Ctr.ofV (by decide) rfl (Nat.le_of_ble_eq_true rfl) ?_
  intro K hKl hKd hRm hnm X hret
  have X : VX K cX9_append 3 wsX9_append RX9 := X
  show V K 3 0 0 N sh ad M L R [(0, .ref (ad 1)), (1, .int (iz a))] [] 0
  refine v_bipush X dX9_append_0 (by decide) ?_
  refine v_istore_n X [(2, .int (iz 24)), (0, .ref (ad 1)), (1, .int (iz a))] dX9_append_2 rfl (by decide) rfl ?_
  refine v_iload_n X 0 dX9_append_3 rfl rfl ?_
  refine v_if_lt X 46 dX9_append_4 (by decide) ⟨by decide, by decide⟩ (fun q => absurd q (by decide)) (fun _ => ?_)
  refine v_aload_n X 1 dX9_append_7 rfl rfl ?_
  refine gt_X9_size X iwX9 (Std.lt hS rfl) (Std.k hS rfl rfl) (List.mem_cons_of_mem _ bw_3_5) dX9_append_8 (M 1 1) rfl (fun hr1 => ?_)
  refine v_sipush X dX9_append_11 (by decide) ?_
  refine v_icmp_ge X 46 dX9_append_14 (by decide) ⟨by omega, by omega⟩ ⟨by decide, by decide⟩ (fun q => absurd q (by omega)) (fun u2 => ?_)
  refine v_aload_n X 1 dX9_append_17 rfl rfl ?_
  refine gt_X9_bytes X iwX9 (Std.lt hS rfl) (Std.k hS rfl rfl) (List.mem_cons_of_mem _ bw_3_4) dX9_append_18 2 (Std.r hS 0 rfl) ?_
  refine v_aload_n X 1 dX9_append_21 rfl rfl ?_
  refine gt_X9_size X iwX9 (Std.lt hS rfl) (Std.k hS rfl rfl) (List.mem_cons_of_mem _ bw_3_5) dX9_append_22 (M 1 1) rfl (fun hr3 => ?_)
  refine v_iload_n X 2 dX9_append_25 rfl rfl ?_
  refine v_iload_n X 0 dX9_append_26 rfl rfl ?_
  refine v_ishr X (shrI a 24) dX9_append_27 (iz_self _).symm ?_
  refine v_i2b X (byteOf a 24) dX9_append_28 (iz_self _).symm ?_
  have hb4 : -128 ≤ (byteOf a 24) ∧ (byteOf a 24) < 128 := byI_rng _
  refine v_bast X (Std.lt hS rfl) (Std.at hS rfl rfl) (by omega) (by omega) ⟨by omega, by omega⟩ dX9_append_29 ?_
  refine v_aload_n X 1 dX9_append_30 rfl rfl ?_
  refine v_dup X dX9_append_31 rfl ?_
  refine gt_X9_size X iwX9 (Std.lt hS rfl) (Std.k hS rfl rfl) (List.mem_cons_of_mem _ bw_3_5) dX9_append_32 (M 1 1) rfl (fun hr5 => ?_)
  refine v_iconst X dX9_append_35 ?_
  refine v_iadd X dX9_append_36 ?_
  refine pt_X9_size X iwX9 (Std.lt hS rfl) (Std.k hS rfl rfl) (List.mem_cons_of_mem _ bw_3_5) ⟨by omega, by omega⟩ dX9_append_37 ?_
  refine v_iinc X 0 [(2, .int (iz 16)), (0, .ref (ad 1)), (1, .int (iz a))] dX9_append_40 rfl (by decide) rfl ?_
  refine v_goto X 3 dX9_append_43 (by decide) ?_
  refine v_iload_n X 0 dX9_append_3 rfl rfl ?_
  refine v_if_lt X 46 dX9_append_4 (by decide) ⟨by decide, by decide⟩ (fun q => absurd q (by decide)) (fun _ => ?_)
  refine v_aload_n X 1 dX9_append_7 rfl rfl ?_
  refine gt_X9_size X iwX9 (Std.lt hS rfl) (Std.k hS rfl rfl) (List.mem_cons_of_mem _ bw_3_5) dX9_append_8 ((M 1 1) + 1) rfl (fun hr6 => ?_)
  refine v_sipush X dX9_append_11 (by decide) ?_
  refine v_icmp_ge X 46 dX9_append_14 (by decide) ⟨by omega, by omega⟩ ⟨by decide, by decide⟩ (fun q => absurd q (by omega)) (fun u7 => ?_)
  refine v_aload_n X 1 dX9_append_17 rfl rfl ?_
  refine gt_X9_bytes X iwX9 (Std.lt hS rfl) (Std.k hS rfl rfl) (List.mem_cons_of_mem _ bw_3_4) dX9_append_18 2 (Std.r hS 0 rfl) ?_
  refine v_aload_n X 1 dX9_append_21 rfl rfl ?_
  refine gt_X9_size X iwX9 (Std.lt hS rfl) (Std.k hS rfl rfl) (List.mem_cons_of_mem _ bw_3_5) dX9_append_22 ((M 1 1) + 1) rfl (fun hr8 => ?_)
  refine v_iload_n X 2 dX9_append_25 rfl rfl ?_
  refine v_iload_n X 0 dX9_append_26 rfl rfl ?_
  refine v_ishr X (shrI a 16) dX9_append_27 (iz_self _).symm ?_
  refine v_i2b X (byteOf a 16) dX9_append_28 (iz_self _).symm ?_
  have hb9 : -128 ≤ (byteOf a 16) ∧ (byteOf a 16) < 128 := byI_rng _
  refine v_bast X (Std.lt hS rfl) (Std.at hS rfl rfl) (by omega) (by omega) ⟨by omega, by omega⟩ dX9_append_29 ?_
  refine v_aload_n X 1 dX9_append_30 rfl rfl ?_
  refine v_dup X dX9_append_31 rfl ?_
  refine gt_X9_size X iwX9 (Std.lt hS rfl) (Std.k hS rfl rfl) (List.mem_cons_of_mem _ bw_3_5) dX9_append_32 ((M 1 1) + 1) rfl (fun hr10 => ?_)
  refine v_iconst X dX9_append_35 ?_
  refine v_iadd X dX9_append_36 ?_
  refine pt_X9_size X iwX9 (Std.lt hS rfl) (Std.k hS rfl rfl) (List.mem_cons_of_mem _ bw_3_5) ⟨by omega, by omega⟩ dX9_append_37 ?_
  refine v_iinc X 0 [(2, .int (iz 8)), (0, .ref (ad 1)), (1, .int (iz a))] dX9_append_40 rfl (by decide) rfl ?_
  refine v_goto X 3 dX9_append_43 (by decide) ?_
  refine v_iload_n X 0 dX9_append_3 rfl rfl ?_
  refine v_if_lt X 46 dX9_append_4 (by decide) ⟨by decide, by decide⟩ (fun q => absurd q (by decide)) (fun _ => ?_)
  refine v_aload_n X 1 dX9_append_7 rfl rfl ?_
  refine gt_X9_size X iwX9 (Std.lt hS rfl) (Std.k hS rfl rfl) (List.mem_cons_of_mem _ bw_3_5) dX9_append_8 (((M 1 1) + 1) + 1) rfl (fun hr11 => ?_)
  refine v_sipush X dX9_append_11 (by decide) ?_
  refine v_icmp_ge X 46 dX9_append_14 (by decide) ⟨by omega, by omega⟩ ⟨by decide, by decide⟩ (fun q => absurd q (by omega)) (fun u12 => ?_)
  refine v_aload_n X 1 dX9_append_17 rfl rfl ?_
  refine gt_X9_bytes X iwX9 (Std.lt hS rfl) (Std.k hS rfl rfl) (List.mem_cons_of_mem _ bw_3_4) dX9_append_18 2 (Std.r hS 0 rfl) ?_
  refine v_aload_n X 1 dX9_append_21 rfl rfl ?_
  refine gt_X9_size X iwX9 (Std.lt hS rfl) (Std.k hS rfl rfl) (List.mem_cons_of_mem _ bw_3_5) dX9_append_22 (((M 1 1) + 1) + 1) rfl (fun hr13 => ?_)
  refine v_iload_n X 2 dX9_append_25 rfl rfl ?_
  refine v_iload_n X 0 dX9_append_26 rfl rfl ?_
  refine v_ishr X (shrI a 8) dX9_append_27 (iz_self _).symm ?_
  refine v_i2b X (byteOf a 8) dX9_append_28 (iz_self _).symm ?_
  have hb14 : -128 ≤ (byteOf a 8) ∧ (byteOf a 8) < 128 := byI_rng _
  refine v_bast X (Std.lt hS rfl) (Std.at hS rfl rfl) (by omega) (by omega) ⟨by omega, by omega⟩ dX9_append_29 ?_
  refine v_aload_n X 1 dX9_append_30 rfl rfl ?_
  refine v_dup X dX9_append_31 rfl ?_
  refine gt_X9_size X iwX9 (Std.lt hS rfl) (Std.k hS rfl rfl) (List.mem_cons_of_mem _ bw_3_5) dX9_append_32 (((M 1 1) + 1) + 1) rfl (fun hr15 => ?_)
  refine v_iconst X dX9_append_35 ?_
  refine v_iadd X dX9_append_36 ?_
  refine pt_X9_size X iwX9 (Std.lt hS rfl) (Std.k hS rfl rfl) (List.mem_cons_of_mem _ bw_3_5) ⟨by omega, by omega⟩ dX9_append_37 ?_
  refine v_iinc X 0 [(2, .int (iz 0)), (0, .ref (ad 1)), (1, .int (iz a))] dX9_append_40 rfl (by decide) rfl ?_
  refine v_goto X 3 dX9_append_43 (by decide) ?_
  refine v_iload_n X 0 dX9_append_3 rfl rfl ?_
  refine v_if_lt X 46 dX9_append_4 (by decide) ⟨by decide, by decide⟩ (fun q => absurd q (by decide)) (fun _ => ?_)
  refine v_aload_n X 1 dX9_append_7 rfl rfl ?_
  refine gt_X9_size X iwX9 (Std.lt hS rfl) (Std.k hS rfl rfl) (List.mem_cons_of_mem _ bw_3_5) dX9_append_8 ((((M 1 1) + 1) + 1) + 1) rfl (fun hr16 => ?_)
  refine v_sipush X dX9_append_11 (by decide) ?_
  refine v_icmp_ge X 46 dX9_append_14 (by decide) ⟨by omega, by omega⟩ ⟨by decide, by decide⟩ (fun q => absurd q (by omega)) (fun u17 => ?_)
  refine v_aload_n X 1 dX9_append_17 rfl rfl ?_
  refine gt_X9_bytes X iwX9 (Std.lt hS rfl) (Std.k hS rfl rfl) (List.mem_cons_of_mem _ bw_3_4) dX9_append_18 2 (Std.r hS 0 rfl) ?_
  refine v_aload_n X 1 dX9_append_21 rfl rfl ?_
  refine gt_X9_size X iwX9 (Std.lt hS rfl) (Std.k hS rfl rfl) (List.mem_cons_of_mem _ bw_3_5) dX9_append_22 ((((M 1 1) + 1) + 1) + 1) rfl (fun hr18 => ?_)
  refine v_iload_n X 2 dX9_append_25 rfl rfl ?_
  refine v_iload_n X 0 dX9_append_26 rfl rfl ?_
  refine v_ishr X (shrI a 0) dX9_append_27 (iz_self _).symm ?_
  refine v_i2b X (byteOf a 0) dX9_append_28 (iz_self _).symm ?_
  have hb19 : -128 ≤ (byteOf a 0) ∧ (byteOf a 0) < 128 := byI_rng _
  refine v_bast X (Std.lt hS rfl) (Std.at hS rfl rfl) (by omega) (by omega) ⟨by omega, by omega⟩ dX9_append_29 ?_
  refine v_aload_n X 1 dX9_append_30 rfl rfl ?_
  refine v_dup X dX9_append_31 rfl ?_
  refine gt_X9_size X iwX9 (Std.lt hS rfl) (Std.k hS rfl rfl) (List.mem_cons_of_mem _ bw_3_5) dX9_append_32 ((((M 1 1) + 1) + 1) + 1) rfl (fun hr20 => ?_)
  refine v_iconst X dX9_append_35 ?_
  refine v_iadd X dX9_append_36 ?_
  refine pt_X9_size X iwX9 (Std.lt hS rfl) (Std.k hS rfl rfl) (List.mem_cons_of_mem _ bw_3_5) ⟨by omega, by omega⟩ dX9_append_37 ?_
  refine v_iinc X 0 [(2, .int (iz (-8))), (0, .ref (ad 1)), (1, .int (iz a))] dX9_append_40 rfl (by decide) rfl ?_
  refine v_goto X 3 dX9_append_43 (by decide) ?_
  refine v_iload_n X 0 dX9_append_3 rfl rfl ?_
  refine v_if_lt X 46 dX9_append_4 (by decide) ⟨by decide, by decide⟩ (fun _ => ?_) (fun q => absurd (by decide) q)
  refine hret _ _ _ _ _ _ _ _ _ _ _ none dX9_append_46 ⟨rfl, rfl⟩ (by decide) (by decide) (fun hmok => ?_)
  refine ⟨rfl, rfl, rfl, rfl, rfl, rfl, ?_⟩
  try dsimp only
  exact app4_eq M a (by decide)

-- put
set_option maxHeartbeats 4000000 in
set_option maxRecDepth 100000 in
theorem c_X12_put (l : Launch) (D : va_G) (cy : Nat → ClassId) {N : Nat} {sh : MS} {ad : Nat → Nat} {M L : MI} {R : MR} (hS : Std N sh R) (a : Int) (ha : inR a) (hz : 0 ≤ M 53 2 ∧ M 53 2 ≤ 1996) : Ctr l D cy yX12_put wsX12_put ({ frames := 0, cells := 0, slots := 0, locals := 0 } : Room) N sh ad M L R [.ref (ad 53), .int (iz a)] (eV N sh ad L R (fun M' => M' = mrow (mu M 53 2 (M 53 2 + 4)) 54 (app4 (M 54) (M 53 2) a))) := by
  refine Ctr.ofV (by decide) rfl (Nat.le_of_ble_eq_true rfl) ?_
  intro K hKl hKd hRm hnm X hret
  have X : VX K cX12_put 3 wsX12_put RX12 := X
  show V K 3 0 0 N sh ad M L R [(0, .ref (ad 53)), (1, .int (iz a))] [] 0
  refine v_bipush X dX12_put_0 (by decide) ?_
  refine v_istore_n X [(2, .int (iz 24)), (0, .ref (ad 53)), (1, .int (iz a))] dX12_put_2 rfl (by decide) rfl ?_
  refine v_iload_n X 0 dX12_put_3 rfl rfl ?_
  refine v_if_lt X 36 dX12_put_4 (by decide) ⟨by decide, by decide⟩ (fun q => absurd q (by decide)) (fun _ => ?_)
  refine v_aload_n X 1 dX12_put_7 rfl rfl ?_
  refine gt_X12_tape X iwX12 (Std.lt hS rfl) (Std.k hS rfl rfl) (List.mem_cons_of_mem _ bw_7_14) dX12_put_8 54 (Std.r hS 1 rfl) ?_
  refine v_aload_n X 1 dX12_put_11 rfl rfl ?_
  refine gt_X12_taped X iwX12 (Std.lt hS rfl) (Std.k hS rfl rfl) (List.mem_cons_of_mem _ bw_11_4) dX12_put_12 (M 53 2) rfl (fun hr1 => ?_)
  refine v_iload_n X 2 dX12_put_15 rfl rfl ?_
  refine v_iload_n X 0 dX12_put_16 rfl rfl ?_
  refine v_ishr X (shrI a 24) dX12_put_17 (iz_self _).symm ?_
  refine v_i2b X (byteOf a 24) dX12_put_18 (iz_self _).symm ?_
  have hb2 : -128 ≤ (byteOf a 24) ∧ (byteOf a 24) < 128 := byI_rng _
  refine v_bast X (Std.lt hS rfl) (Std.at hS rfl rfl) (by omega) (by omega) ⟨by omega, by omega⟩ dX12_put_19 ?_
  refine v_aload_n X 1 dX12_put_20 rfl rfl ?_
  refine v_dup X dX12_put_21 rfl ?_
  refine gt_X12_taped X iwX12 (Std.lt hS rfl) (Std.k hS rfl rfl) (List.mem_cons_of_mem _ bw_11_4) dX12_put_22 (M 53 2) rfl (fun hr3 => ?_)
  refine v_iconst X dX12_put_25 ?_
  refine v_iadd X dX12_put_26 ?_
  refine pt_X12_taped X iwX12 (Std.lt hS rfl) (Std.k hS rfl rfl) (List.mem_cons_of_mem _ bw_11_4) ⟨by omega, by omega⟩ dX12_put_27 ?_
  refine v_iinc X 0 [(2, .int (iz 16)), (0, .ref (ad 53)), (1, .int (iz a))] dX12_put_30 rfl (by decide) rfl ?_
  refine v_goto X 3 dX12_put_33 (by decide) ?_
  refine v_iload_n X 0 dX12_put_3 rfl rfl ?_
  refine v_if_lt X 36 dX12_put_4 (by decide) ⟨by decide, by decide⟩ (fun q => absurd q (by decide)) (fun _ => ?_)
  refine v_aload_n X 1 dX12_put_7 rfl rfl ?_
  refine gt_X12_tape X iwX12 (Std.lt hS rfl) (Std.k hS rfl rfl) (List.mem_cons_of_mem _ bw_7_14) dX12_put_8 54 (Std.r hS 1 rfl) ?_
  refine v_aload_n X 1 dX12_put_11 rfl rfl ?_
  refine gt_X12_taped X iwX12 (Std.lt hS rfl) (Std.k hS rfl rfl) (List.mem_cons_of_mem _ bw_11_4) dX12_put_12 ((M 53 2) + 1) rfl (fun hr4 => ?_)
  refine v_iload_n X 2 dX12_put_15 rfl rfl ?_
  refine v_iload_n X 0 dX12_put_16 rfl rfl ?_
  refine v_ishr X (shrI a 16) dX12_put_17 (iz_self _).symm ?_
  refine v_i2b X (byteOf a 16) dX12_put_18 (iz_self _).symm ?_
  have hb5 : -128 ≤ (byteOf a 16) ∧ (byteOf a 16) < 128 := byI_rng _
  refine v_bast X (Std.lt hS rfl) (Std.at hS rfl rfl) (by omega) (by omega) ⟨by omega, by omega⟩ dX12_put_19 ?_
  refine v_aload_n X 1 dX12_put_20 rfl rfl ?_
  refine v_dup X dX12_put_21 rfl ?_
  refine gt_X12_taped X iwX12 (Std.lt hS rfl) (Std.k hS rfl rfl) (List.mem_cons_of_mem _ bw_11_4) dX12_put_22 ((M 53 2) + 1) rfl (fun hr6 => ?_)
  refine v_iconst X dX12_put_25 ?_
  refine v_iadd X dX12_put_26 ?_
  refine pt_X12_taped X iwX12 (Std.lt hS rfl) (Std.k hS rfl rfl) (List.mem_cons_of_mem _ bw_11_4) ⟨by omega, by omega⟩ dX12_put_27 ?_
  refine v_iinc X 0 [(2, .int (iz 8)), (0, .ref (ad 53)), (1, .int (iz a))] dX12_put_30 rfl (by decide) rfl ?_
  refine v_goto X 3 dX12_put_33 (by decide) ?_
  refine v_iload_n X 0 dX12_put_3 rfl rfl ?_
  refine v_if_lt X 36 dX12_put_4 (by decide) ⟨by decide, by decide⟩ (fun q => absurd q (by decide)) (fun _ => ?_)
  refine v_aload_n X 1 dX12_put_7 rfl rfl ?_
  refine gt_X12_tape X iwX12 (Std.lt hS rfl) (Std.k hS rfl rfl) (List.mem_cons_of_mem _ bw_7_14) dX12_put_8 54 (Std.r hS 1 rfl) ?_
  refine v_aload_n X 1 dX12_put_11 rfl rfl ?_
  refine gt_X12_taped X iwX12 (Std.lt hS rfl) (Std.k hS rfl rfl) (List.mem_cons_of_mem _ bw_11_4) dX12_put_12 (((M 53 2) + 1) + 1) rfl (fun hr7 => ?_)
  refine v_iload_n X 2 dX12_put_15 rfl rfl ?_
  refine v_iload_n X 0 dX12_put_16 rfl rfl ?_
  refine v_ishr X (shrI a 8) dX12_put_17 (iz_self _).symm ?_
  refine v_i2b X (byteOf a 8) dX12_put_18 (iz_self _).symm ?_
  have hb8 : -128 ≤ (byteOf a 8) ∧ (byteOf a 8) < 128 := byI_rng _
  refine v_bast X (Std.lt hS rfl) (Std.at hS rfl rfl) (by omega) (by omega) ⟨by omega, by omega⟩ dX12_put_19 ?_
  refine v_aload_n X 1 dX12_put_20 rfl rfl ?_
  refine v_dup X dX12_put_21 rfl ?_
  refine gt_X12_taped X iwX12 (Std.lt hS rfl) (Std.k hS rfl rfl) (List.mem_cons_of_mem _ bw_11_4) dX12_put_22 (((M 53 2) + 1) + 1) rfl (fun hr9 => ?_)
  refine v_iconst X dX12_put_25 ?_
  refine v_iadd X dX12_put_26 ?_
  refine pt_X12_taped X iwX12 (Std.lt hS rfl) (Std.k hS rfl rfl) (List.mem_cons_of_mem _ bw_11_4) ⟨by omega, by omega⟩ dX12_put_27 ?_
  refine v_iinc X 0 [(2, .int (iz 0)), (0, .ref (ad 53)), (1, .int (iz a))] dX12_put_30 rfl (by decide) rfl ?_
  refine v_goto X 3 dX12_put_33 (by decide) ?_
  refine v_iload_n X 0 dX12_put_3 rfl rfl ?_
  refine v_if_lt X 36 dX12_put_4 (by decide) ⟨by decide, by decide⟩ (fun q => absurd q (by decide)) (fun _ => ?_)
  refine v_aload_n X 1 dX12_put_7 rfl rfl ?_
  refine gt_X12_tape X iwX12 (Std.lt hS rfl) (Std.k hS rfl rfl) (List.mem_cons_of_mem _ bw_7_14) dX12_put_8 54 (Std.r hS 1 rfl) ?_
  refine v_aload_n X 1 dX12_put_11 rfl rfl ?_
  refine gt_X12_taped X iwX12 (Std.lt hS rfl) (Std.k hS rfl rfl) (List.mem_cons_of_mem _ bw_11_4) dX12_put_12 ((((M 53 2) + 1) + 1) + 1) rfl (fun hr10 => ?_)
  refine v_iload_n X 2 dX12_put_15 rfl rfl ?_
  refine v_iload_n X 0 dX12_put_16 rfl rfl ?_
  refine v_ishr X (shrI a 0) dX12_put_17 (iz_self _).symm ?_
  refine v_i2b X (byteOf a 0) dX12_put_18 (iz_self _).symm ?_
  have hb11 : -128 ≤ (byteOf a 0) ∧ (byteOf a 0) < 128 := byI_rng _
  refine v_bast X (Std.lt hS rfl) (Std.at hS rfl rfl) (by omega) (by omega) ⟨by omega, by omega⟩ dX12_put_19 ?_
  refine v_aload_n X 1 dX12_put_20 rfl rfl ?_
  refine v_dup X dX12_put_21 rfl ?_
  refine gt_X12_taped X iwX12 (Std.lt hS rfl) (Std.k hS rfl rfl) (List.mem_cons_of_mem _ bw_11_4) dX12_put_22 ((((M 53 2) + 1) + 1) + 1) rfl (fun hr12 => ?_)
  refine v_iconst X dX12_put_25 ?_
  refine v_iadd X dX12_put_26 ?_
  refine pt_X12_taped X iwX12 (Std.lt hS rfl) (Std.k hS rfl rfl) (List.mem_cons_of_mem _ bw_11_4) ⟨by omega, by omega⟩ dX12_put_27 ?_
  refine v_iinc X 0 [(2, .int (iz (-8))), (0, .ref (ad 53)), (1, .int (iz a))] dX12_put_30 rfl (by decide) rfl ?_
  refine v_goto X 3 dX12_put_33 (by decide) ?_
  refine v_iload_n X 0 dX12_put_3 rfl rfl ?_
  refine v_if_lt X 36 dX12_put_4 (by decide) ⟨by decide, by decide⟩ (fun _ => ?_) (fun q => absurd (by decide) q)
  refine hret _ _ _ _ _ _ _ _ _ _ _ none dX12_put_36 ⟨rfl, rfl⟩ (by decide) (by decide) (fun hmok => ?_)
  refine ⟨rfl, rfl, rfl, rfl, rfl, rfl, ?_⟩
  try dsimp only
  exact app4_eq M a (by decide)

def app20 (f : Int → Int) (n a b c d e : Int) : Int → Int := app4 (app4 (app4 (app4 (app4 f n a) (n + 4) b) (n + 8) c) (n + 12) d) (n + 16) e
theorem feed_eq {o r : Nat} {q : Int} (M : MI) (hor : o ≠ r) (f1 f2 f3 f4 f5 : Int → Int) (z1 z2 z3 z4 z5 : Int) : mrow (mu (mrow (mu (mrow (mu (mrow (mu (mrow (mu M o q z1) r f1) o q z2) r f2) o q z3) r f3) o q z4) r f4) o q z5) r f5 = mrow (mu M o q z5) r f5 := by
  funext a b
  by_cases h : a = r
  · subst h
    simp only [mrow, if_true]
  · by_cases h2 : a = o
    · subst h2
      simp only [mu, mrow, h, if_true, if_false]
      repeat' split
      all_goals rfl
    · simp only [mu, mrow, h, h2, if_false]

-- feed
set_option maxHeartbeats 4000000 in
set_option maxRecDepth 100000 in
theorem c_X11_feed (l : Launch) (D : va_G) (cy : Nat → ClassId) {N : Nat} {sh : MS} {ad : Nat → Nat} {M L : MI} {R : MR} (hS : Std N sh R) (a b c d e : Int) (ha : inR a) (hb : inR b) (hc : inR c) (hd : inR d) (he : inR e) (hz : 0 ≤ M 1 1 ∧ M 1 1 ≤ 2000) : Ctr l D cy yX11_feed wsX11_feed ({ frames := 1, cells := 0, slots := 0, locals := 22 } : Room) N sh ad M L R [.ref (ad 0), .int (iz a), .int (iz b), .int (iz c), .int (iz d), .int (iz e)] (eI N sh ad L R (fun r M' => if M 1 1 + 20 ≤ 2000 then r = M 1 1 + 20 ∧ M' = mrow (mu M 1 1 (M 1 1 + 20)) 2 (app20 (M 2) (M 1 1) a b c d e) else r = -1 ∧ M' = M)) := by
  refine Ctr.ofI (by decide) rfl (Nat.le_of_ble_eq_true rfl) ?_
  intro K hKl hKd hRm hnm X hret
  have X : VX K cX11_feed 6 wsX11_feed RX11 := X
  show V K 6 0 0 N sh ad M L R [(0, .ref (ad 0)), (1, .int (iz a)), (2, .int (iz b)), (3, .int (iz c)), (4, .int (iz d)), (5, .int (iz e))] [] 0
  refine v_aload_n X 0 dX11_feed_0 rfl rfl ?_
  refine gt_X11_tape X iwX11 (Std.lt hS rfl) (Std.k hS rfl rfl) (List.mem_cons_of_mem _ bw_1_15) dX11_feed_1 1 (Std.r hS 0 rfl) ?_
  refine v_bipush X dX11_feed_4 (by decide) ?_
  refine v_callV X [.int (iz 20)] hRm (c_X9_hasRoomFor _ _ _ hS 20 (by omega) (show 0 ≤ (M 1 1) ∧ (M 1 1) ≤ 2000 by omega)) (gV bw_10_16 bw_10_17 bw_10_18 bw_1_14 bw_10_19) rfl ddX9_hasRoomFor (by decide) (Std.lt hS rfl) (Std.k hS rfl rfl) ⟨rfl, by decide⟩ (Nat.le_of_ble_eq_true rfl) dX11_feed_6 (k_pB (fun b1 => ?_) (fun b1 => ?_))
  · skip
    refine v_if_ne X 14 dX11_feed_9 (by decide) ⟨by decide, by decide⟩ (fun _ => ?_) (fun q => absurd (by decide) q)
    refine v_aload_n X 0 dX11_feed_14 rfl rfl ?_
    refine gt_X11_tape X iwX11 (Std.lt hS rfl) (Std.k hS rfl rfl) (List.mem_cons_of_mem _ bw_1_15) dX11_feed_15 1 (Std.r hS 0 rfl) ?_
    refine v_iload_n X 1 dX11_feed_18 rfl rfl ?_
    refine v_callV X [.int (iz a)] hRm (c_X9_append _ _ _ hS a ⟨by omega, by omega⟩ (show 0 ≤ (M 1 1) ∧ (M 1 1) ≤ 1996 by omega)) (gV bw_10_20 bw_10_21 bw_10_22 bw_1_14 bw_10_23) rfl ddX9_append (by decide) (Std.lt hS rfl) (Std.k hS rfl rfl) ⟨rfl, by decide⟩ (Nat.le_of_ble_eq_true rfl) dX11_feed_19 (k_eV (fun M3 e2 => ?_))
    replace e2 : M3 = (mrow (mu M 1 1 ((M 1 1) + 4)) 2 (app4 (M 2) (M 1 1) a)) := e2
    subst e2
    refine v_aload_n X 0 dX11_feed_22 rfl rfl ?_
    refine gt_X11_tape X iwX11 (Std.lt hS rfl) (Std.k hS rfl rfl) (List.mem_cons_of_mem _ bw_1_15) dX11_feed_23 1 (Std.r hS 0 rfl) ?_
    refine v_iload_n X 2 dX11_feed_26 rfl rfl ?_
    refine v_callV X [.int (iz b)] hRm (c_X9_append _ _ _ hS b ⟨by omega, by omega⟩ (show 0 ≤ ((M 1 1) + 4) ∧ ((M 1 1) + 4) ≤ 1996 by omega)) (gV bw_10_20 bw_10_21 bw_10_22 bw_1_14 bw_10_23) rfl ddX9_append (by decide) (Std.lt hS rfl) (Std.k hS rfl rfl) ⟨rfl, by decide⟩ (Nat.le_of_ble_eq_true rfl) dX11_feed_27 (k_eV (fun M5 e4 => ?_))
    replace e4 : M5 = (mrow (mu (mrow (mu M 1 1 ((M 1 1) + 4)) 2 (app4 (M 2) (M 1 1) a)) 1 1 (((M 1 1) + 4) + 4)) 2 (app4 (app4 (M 2) (M 1 1) a) ((M 1 1) + 4) b)) := e4
    subst e4
    refine v_aload_n X 0 dX11_feed_30 rfl rfl ?_
    refine gt_X11_tape X iwX11 (Std.lt hS rfl) (Std.k hS rfl rfl) (List.mem_cons_of_mem _ bw_1_15) dX11_feed_31 1 (Std.r hS 0 rfl) ?_
    refine v_iload_n X 3 dX11_feed_34 rfl rfl ?_
    refine v_callV X [.int (iz c)] hRm (c_X9_append _ _ _ hS c ⟨by omega, by omega⟩ (show 0 ≤ (((M 1 1) + 4) + 4) ∧ (((M 1 1) + 4) + 4) ≤ 1996 by omega)) (gV bw_10_20 bw_10_21 bw_10_22 bw_1_14 bw_10_23) rfl ddX9_append (by decide) (Std.lt hS rfl) (Std.k hS rfl rfl) ⟨rfl, by decide⟩ (Nat.le_of_ble_eq_true rfl) dX11_feed_35 (k_eV (fun M7 e6 => ?_))
    replace e6 : M7 = (mrow (mu (mrow (mu (mrow (mu M 1 1 ((M 1 1) + 4)) 2 (app4 (M 2) (M 1 1) a)) 1 1 (((M 1 1) + 4) + 4)) 2 (app4 (app4 (M 2) (M 1 1) a) ((M 1 1) + 4) b)) 1 1 ((((M 1 1) + 4) + 4) + 4)) 2 (app4 (app4 (app4 (M 2) (M 1 1) a) ((M 1 1) + 4) b) (((M 1 1) + 4) + 4) c)) := e6
    subst e6
    refine v_aload_n X 0 dX11_feed_38 rfl rfl ?_
    refine gt_X11_tape X iwX11 (Std.lt hS rfl) (Std.k hS rfl rfl) (List.mem_cons_of_mem _ bw_1_15) dX11_feed_39 1 (Std.r hS 0 rfl) ?_
    refine v_iload X 4 dX11_feed_42 rfl ?_
    refine v_callV X [.int (iz d)] hRm (c_X9_append _ _ _ hS d ⟨by omega, by omega⟩ (show 0 ≤ ((((M 1 1) + 4) + 4) + 4) ∧ ((((M 1 1) + 4) + 4) + 4) ≤ 1996 by omega)) (gV bw_10_20 bw_10_21 bw_10_22 bw_1_14 bw_10_23) rfl ddX9_append (by decide) (Std.lt hS rfl) (Std.k hS rfl rfl) ⟨rfl, by decide⟩ (Nat.le_of_ble_eq_true rfl) dX11_feed_44 (k_eV (fun M9 e8 => ?_))
    replace e8 : M9 = (mrow (mu (mrow (mu (mrow (mu (mrow (mu M 1 1 ((M 1 1) + 4)) 2 (app4 (M 2) (M 1 1) a)) 1 1 (((M 1 1) + 4) + 4)) 2 (app4 (app4 (M 2) (M 1 1) a) ((M 1 1) + 4) b)) 1 1 ((((M 1 1) + 4) + 4) + 4)) 2 (app4 (app4 (app4 (M 2) (M 1 1) a) ((M 1 1) + 4) b) (((M 1 1) + 4) + 4) c)) 1 1 (((((M 1 1) + 4) + 4) + 4) + 4)) 2 (app4 (app4 (app4 (app4 (M 2) (M 1 1) a) ((M 1 1) + 4) b) (((M 1 1) + 4) + 4) c) ((((M 1 1) + 4) + 4) + 4) d)) := e8
    subst e8
    refine v_aload_n X 0 dX11_feed_47 rfl rfl ?_
    refine gt_X11_tape X iwX11 (Std.lt hS rfl) (Std.k hS rfl rfl) (List.mem_cons_of_mem _ bw_1_15) dX11_feed_48 1 (Std.r hS 0 rfl) ?_
    refine v_iload X 5 dX11_feed_51 rfl ?_
    refine v_callV X [.int (iz e)] hRm (c_X9_append _ _ _ hS e ⟨by omega, by omega⟩ (show 0 ≤ (((((M 1 1) + 4) + 4) + 4) + 4) ∧ (((((M 1 1) + 4) + 4) + 4) + 4) ≤ 1996 by omega)) (gV bw_10_20 bw_10_21 bw_10_22 bw_1_14 bw_10_23) rfl ddX9_append (by decide) (Std.lt hS rfl) (Std.k hS rfl rfl) ⟨rfl, by decide⟩ (Nat.le_of_ble_eq_true rfl) dX11_feed_53 (k_eV (fun M11 e10 => ?_))
    replace e10 : M11 = (mrow (mu (mrow (mu (mrow (mu (mrow (mu (mrow (mu M 1 1 ((M 1 1) + 4)) 2 (app4 (M 2) (M 1 1) a)) 1 1 (((M 1 1) + 4) + 4)) 2 (app4 (app4 (M 2) (M 1 1) a) ((M 1 1) + 4) b)) 1 1 ((((M 1 1) + 4) + 4) + 4)) 2 (app4 (app4 (app4 (M 2) (M 1 1) a) ((M 1 1) + 4) b) (((M 1 1) + 4) + 4) c)) 1 1 (((((M 1 1) + 4) + 4) + 4) + 4)) 2 (app4 (app4 (app4 (app4 (M 2) (M 1 1) a) ((M 1 1) + 4) b) (((M 1 1) + 4) + 4) c) ((((M 1 1) + 4) + 4) + 4) d)) 1 1 ((((((M 1 1) + 4) + 4) + 4) + 4) + 4)) 2 (app4 (app4 (app4 (app4 (app4 (M 2) (M 1 1) a) ((M 1 1) + 4) b) (((M 1 1) + 4) + 4) c) ((((M 1 1) + 4) + 4) + 4) d) (((((M 1 1) + 4) + 4) + 4) + 4) e)) := e10
    subst e10
    refine v_aload_n X 0 dX11_feed_56 rfl rfl ?_
    refine gt_X11_tape X iwX11 (Std.lt hS rfl) (Std.k hS rfl rfl) (List.mem_cons_of_mem _ bw_1_15) dX11_feed_57 1 (Std.r hS 0 rfl) ?_
    refine gt_X9_size X iwX9 (Std.lt hS rfl) (Std.k hS rfl rfl) (List.mem_cons_of_mem _ bw_10_15) dX11_feed_60 ((((((M 1 1) + 4) + 4) + 4) + 4) + 4) rfl (fun hr12 => ?_)
    refine hret _ _ _ _ _ _ _ _ _ _ _ (some (.int (iz ((((((M 1 1) + 4) + 4) + 4) + 4) + 4)))) dX11_feed_63 ⟨rfl, _, rfl⟩ (by decide) (by decide) (fun hmok => ?_)
    refine ⟨rfl, rfl, rfl, rfl, rfl, ((((((M 1 1) + 4) + 4) + 4) + 4) + 4), rfl, ⟨by omega, by omega⟩, ?_⟩
    try dsimp only
    rw [if_pos (by omega)]
    refine ⟨by omega, ?_⟩
    rw [feed_eq _ (by decide)]
    unfold app20
    simp only [Int.add_assoc]
    rfl
  · skip
    refine v_if_ne X 14 dX11_feed_9 (by decide) ⟨by decide, by decide⟩ (fun q => absurd q (by decide)) (fun _ => ?_)
    refine v_iconst X dX11_feed_12 ?_
    refine hret _ _ _ _ _ _ _ _ _ _ _ (some (.int (iz (-1)))) dX11_feed_13 ⟨rfl, _, rfl⟩ (by decide) (by decide) (fun hmok => ?_)
    refine ⟨rfl, rfl, rfl, rfl, rfl, (-1), rfl, ⟨by decide, by decide⟩, ?_⟩
    try dsimp only
    rw [if_neg (by omega)]
    exact ⟨rfl, rfl⟩

-- feed
set_option maxHeartbeats 4000000 in
set_option maxRecDepth 100000 in
theorem c_X12_feed (l : Launch) (D : va_G) (cy : Nat → ClassId) {N : Nat} {sh : MS} {ad : Nat → Nat} {M L : MI} {R : MR} (hS : Std N sh R) (a b c d e : Int) (ha : inR a) (hb : inR b) (hc : inR c) (hd : inR d) (he : inR e) (hz : 0 ≤ M 53 2 ∧ M 53 2 ≤ 2000) : Ctr l D cy yX12_feed wsX12_feed ({ frames := 1, cells := 0, slots := 0, locals := 22 } : Room) N sh ad M L R [.ref (ad 53), .int (iz a), .int (iz b), .int (iz c), .int (iz d), .int (iz e)] (eI N sh ad L R (fun r M' => if M 53 2 + 20 ≤ 2000 then r = M 53 2 + 20 ∧ M' = mrow (mu M 53 2 (M 53 2 + 20)) 54 (app20 (M 54) (M 53 2) a b c d e) else r = -1 ∧ M' = M)) := by
  refine Ctr.ofI (by decide) rfl (Nat.le_of_ble_eq_true rfl) ?_
  intro K hKl hKd hRm hnm X hret
  have X : VX K cX12_feed 6 wsX12_feed RX12 := X
  show V K 6 0 0 N sh ad M L R [(0, .ref (ad 53)), (1, .int (iz a)), (2, .int (iz b)), (3, .int (iz c)), (4, .int (iz d)), (5, .int (iz e))] [] 0
  refine v_aload_n X 0 dX12_feed_0 rfl rfl ?_
  refine gt_X12_taped X iwX12 (Std.lt hS rfl) (Std.k hS rfl rfl) (List.mem_cons_of_mem _ bw_11_4) dX12_feed_1 (M 53 2) rfl (fun hr1 => ?_)
  refine v_bipush X dX12_feed_4 (by decide) ?_
  refine v_iadd X dX12_feed_6 ?_
  refine v_sipush X dX12_feed_7 (by decide) ?_
  refine v_icmp_le X 15 dX12_feed_10 (by decide) ⟨by omega, by omega⟩ ⟨by decide, by decide⟩ (fun u2 => ?_) (fun u2 => ?_)
  · skip
    refine v_aload_n X 0 dX12_feed_15 rfl rfl ?_
    refine v_iload_n X 1 dX12_feed_16 rfl rfl ?_
    refine v_callV X [.int (iz a)] hRm (c_X12_put _ _ _ hS a ⟨by omega, by omega⟩ (show 0 ≤ (M 53 2) ∧ (M 53 2) ≤ 1996 by omega)) (gV bw_11_5 bw_11_6 bw_11_7 bw_1_5 bw_11_8) rfl ddX12_put (by decide) (Std.lt hS rfl) (Std.k hS rfl rfl) ⟨rfl, by decide⟩ (Nat.le_of_ble_eq_true rfl) dX12_feed_17 (k_eV (fun M4 e3 => ?_))
    replace e3 : M4 = (mrow (mu M 53 2 ((M 53 2) + 4)) 54 (app4 (M 54) (M 53 2) a)) := e3
    subst e3
    refine v_aload_n X 0 dX12_feed_20 rfl rfl ?_
    refine v_iload_n X 2 dX12_feed_21 rfl rfl ?_
    refine v_callV X [.int (iz b)] hRm (c_X12_put _ _ _ hS b ⟨by omega, by omega⟩ (show 0 ≤ ((M 53 2) + 4) ∧ ((M 53 2) + 4) ≤ 1996 by omega)) (gV bw_11_5 bw_11_6 bw_11_7 bw_1_5 bw_11_8) rfl ddX12_put (by decide) (Std.lt hS rfl) (Std.k hS rfl rfl) ⟨rfl, by decide⟩ (Nat.le_of_ble_eq_true rfl) dX12_feed_22 (k_eV (fun M6 e5 => ?_))
    replace e5 : M6 = (mrow (mu (mrow (mu M 53 2 ((M 53 2) + 4)) 54 (app4 (M 54) (M 53 2) a)) 53 2 (((M 53 2) + 4) + 4)) 54 (app4 (app4 (M 54) (M 53 2) a) ((M 53 2) + 4) b)) := e5
    subst e5
    refine v_aload_n X 0 dX12_feed_25 rfl rfl ?_
    refine v_iload_n X 3 dX12_feed_26 rfl rfl ?_
    refine v_callV X [.int (iz c)] hRm (c_X12_put _ _ _ hS c ⟨by omega, by omega⟩ (show 0 ≤ (((M 53 2) + 4) + 4) ∧ (((M 53 2) + 4) + 4) ≤ 1996 by omega)) (gV bw_11_5 bw_11_6 bw_11_7 bw_1_5 bw_11_8) rfl ddX12_put (by decide) (Std.lt hS rfl) (Std.k hS rfl rfl) ⟨rfl, by decide⟩ (Nat.le_of_ble_eq_true rfl) dX12_feed_27 (k_eV (fun M8 e7 => ?_))
    replace e7 : M8 = (mrow (mu (mrow (mu (mrow (mu M 53 2 ((M 53 2) + 4)) 54 (app4 (M 54) (M 53 2) a)) 53 2 (((M 53 2) + 4) + 4)) 54 (app4 (app4 (M 54) (M 53 2) a) ((M 53 2) + 4) b)) 53 2 ((((M 53 2) + 4) + 4) + 4)) 54 (app4 (app4 (app4 (M 54) (M 53 2) a) ((M 53 2) + 4) b) (((M 53 2) + 4) + 4) c)) := e7
    subst e7
    refine v_aload_n X 0 dX12_feed_30 rfl rfl ?_
    refine v_iload X 4 dX12_feed_31 rfl ?_
    refine v_callV X [.int (iz d)] hRm (c_X12_put _ _ _ hS d ⟨by omega, by omega⟩ (show 0 ≤ ((((M 53 2) + 4) + 4) + 4) ∧ ((((M 53 2) + 4) + 4) + 4) ≤ 1996 by omega)) (gV bw_11_5 bw_11_6 bw_11_7 bw_1_5 bw_11_8) rfl ddX12_put (by decide) (Std.lt hS rfl) (Std.k hS rfl rfl) ⟨rfl, by decide⟩ (Nat.le_of_ble_eq_true rfl) dX12_feed_33 (k_eV (fun M10 e9 => ?_))
    replace e9 : M10 = (mrow (mu (mrow (mu (mrow (mu (mrow (mu M 53 2 ((M 53 2) + 4)) 54 (app4 (M 54) (M 53 2) a)) 53 2 (((M 53 2) + 4) + 4)) 54 (app4 (app4 (M 54) (M 53 2) a) ((M 53 2) + 4) b)) 53 2 ((((M 53 2) + 4) + 4) + 4)) 54 (app4 (app4 (app4 (M 54) (M 53 2) a) ((M 53 2) + 4) b) (((M 53 2) + 4) + 4) c)) 53 2 (((((M 53 2) + 4) + 4) + 4) + 4)) 54 (app4 (app4 (app4 (app4 (M 54) (M 53 2) a) ((M 53 2) + 4) b) (((M 53 2) + 4) + 4) c) ((((M 53 2) + 4) + 4) + 4) d)) := e9
    subst e9
    refine v_aload_n X 0 dX12_feed_36 rfl rfl ?_
    refine v_iload X 5 dX12_feed_37 rfl ?_
    refine v_callV X [.int (iz e)] hRm (c_X12_put _ _ _ hS e ⟨by omega, by omega⟩ (show 0 ≤ (((((M 53 2) + 4) + 4) + 4) + 4) ∧ (((((M 53 2) + 4) + 4) + 4) + 4) ≤ 1996 by omega)) (gV bw_11_5 bw_11_6 bw_11_7 bw_1_5 bw_11_8) rfl ddX12_put (by decide) (Std.lt hS rfl) (Std.k hS rfl rfl) ⟨rfl, by decide⟩ (Nat.le_of_ble_eq_true rfl) dX12_feed_39 (k_eV (fun M12 e11 => ?_))
    replace e11 : M12 = (mrow (mu (mrow (mu (mrow (mu (mrow (mu (mrow (mu M 53 2 ((M 53 2) + 4)) 54 (app4 (M 54) (M 53 2) a)) 53 2 (((M 53 2) + 4) + 4)) 54 (app4 (app4 (M 54) (M 53 2) a) ((M 53 2) + 4) b)) 53 2 ((((M 53 2) + 4) + 4) + 4)) 54 (app4 (app4 (app4 (M 54) (M 53 2) a) ((M 53 2) + 4) b) (((M 53 2) + 4) + 4) c)) 53 2 (((((M 53 2) + 4) + 4) + 4) + 4)) 54 (app4 (app4 (app4 (app4 (M 54) (M 53 2) a) ((M 53 2) + 4) b) (((M 53 2) + 4) + 4) c) ((((M 53 2) + 4) + 4) + 4) d)) 53 2 ((((((M 53 2) + 4) + 4) + 4) + 4) + 4)) 54 (app4 (app4 (app4 (app4 (app4 (M 54) (M 53 2) a) ((M 53 2) + 4) b) (((M 53 2) + 4) + 4) c) ((((M 53 2) + 4) + 4) + 4) d) (((((M 53 2) + 4) + 4) + 4) + 4) e)) := e11
    subst e11
    refine v_aload_n X 0 dX12_feed_42 rfl rfl ?_
    refine gt_X12_taped X iwX12 (Std.lt hS rfl) (Std.k hS rfl rfl) (List.mem_cons_of_mem _ bw_11_4) dX12_feed_43 ((((((M 53 2) + 4) + 4) + 4) + 4) + 4) rfl (fun hr13 => ?_)
    refine hret _ _ _ _ _ _ _ _ _ _ _ (some (.int (iz ((((((M 53 2) + 4) + 4) + 4) + 4) + 4)))) dX12_feed_46 ⟨rfl, _, rfl⟩ (by decide) (by decide) (fun hmok => ?_)
    refine ⟨rfl, rfl, rfl, rfl, rfl, ((((((M 53 2) + 4) + 4) + 4) + 4) + 4), rfl, ⟨by omega, by omega⟩, ?_⟩
    try dsimp only
    rw [if_pos (by omega)]
    refine ⟨by omega, ?_⟩
    rw [feed_eq _ (by decide)]
    unfold app20
    simp only [Int.add_assoc]
    rfl
  · skip
    refine v_iconst X dX12_feed_13 ?_
    refine hret _ _ _ _ _ _ _ _ _ _ _ (some (.int (iz (-1)))) dX12_feed_14 ⟨rfl, _, rfl⟩ (by decide) (by decide) (fun hmok => ?_)
    refine ⟨rfl, rfl, rfl, rfl, rfl, (-1), rfl, ⟨by decide, by decide⟩, ?_⟩
    try dsimp only
    rw [if_neg (by omega)]
    exact ⟨rfl, rfl⟩

-- Facts.add
set_option maxHeartbeats 4000000 in
set_option maxRecDepth 100000 in
theorem c_X1_add (l : Launch) (D : va_G) (cy : Nat → ClassId) {N : Nat} {sh : MS} {ad : Nat → Nat} {M L : MI} {R : MR} (hS : Std N sh R) (k a b : Int) (hk : inR k) (ha : inR a) (hb : inR b) (hz : 0 ≤ M 9 3 ∧ M 9 3 ≤ 100) : Ctr l D cy yX1_add wsX1_add ({ frames := 0, cells := 0, slots := 0, locals := 0 } : Room) N sh ad M L R [.ref (ad 9), .int (iz k), .int (iz a), .int (iz b)] (eI N sh ad L R (fun r M' => if M 9 3 < 100 then r = M 9 3 ∧ M' = mu (mu (mu (mu M 10 (M 9 3) k) 11 (M 9 3) a) 12 (M 9 3) b) 9 3 ((M 9 3) + 1) else r = -1 ∧ M' = M)) := by
  refine Ctr.ofI (by decide) rfl (Nat.le_of_ble_eq_true rfl) ?_
  intro K hKl hKd hRm hnm X hret
  have X : VX K cX1_add 4 wsX1_add RX1 := X
  show V K 4 0 0 N sh ad M L R [(0, .ref (ad 9)), (1, .int (iz k)), (2, .int (iz a)), (3, .int (iz b))] [] 0
  refine v_aload_n X 0 dX1_add_0 rfl rfl ?_
  refine gt_X1_size X iwX1 (Std.lt hS rfl) (Std.k hS rfl rfl) (List.mem_cons_of_mem _ bw_5_3) dX1_add_1 (M 9 3) rfl (fun hr1 => ?_)
  refine v_bipush X dX1_add_4 (by decide) ?_
  refine v_icmp_lt X 11 dX1_add_6 (by decide) ⟨by omega, by omega⟩ ⟨by decide, by decide⟩ (fun u2 => ?_) (fun u2 => ?_)
  · skip
    refine v_aload_n X 0 dX1_add_11 rfl rfl ?_
    refine gt_X1_kinds X iwX1 (Std.lt hS rfl) (Std.k hS rfl rfl) (List.mem_cons_of_mem _ bw_5_0) dX1_add_12 10 (Std.r hS 0 rfl) ?_
    refine v_aload_n X 0 dX1_add_15 rfl rfl ?_
    refine gt_X1_size X iwX1 (Std.lt hS rfl) (Std.k hS rfl rfl) (List.mem_cons_of_mem _ bw_5_3) dX1_add_16 (M 9 3) rfl (fun hr3 => ?_)
    refine v_iload_n X 1 dX1_add_19 rfl rfl ?_
    refine v_iast X (Std.lt hS rfl) (Std.at hS rfl rfl) (by omega) (by omega) ⟨by omega, by omega⟩ dX1_add_20 ?_
    refine v_aload_n X 0 dX1_add_21 rfl rfl ?_
    refine gt_X1_firsts X iwX1 (Std.lt hS rfl) (Std.k hS rfl rfl) (List.mem_cons_of_mem _ bw_5_1) dX1_add_22 11 (Std.r hS 1 rfl) ?_
    refine v_aload_n X 0 dX1_add_25 rfl rfl ?_
    refine gt_X1_size X iwX1 (Std.lt hS rfl) (Std.k hS rfl rfl) (List.mem_cons_of_mem _ bw_5_3) dX1_add_26 (M 9 3) rfl (fun hr4 => ?_)
    refine v_iload_n X 2 dX1_add_29 rfl rfl ?_
    refine v_iast X (Std.lt hS rfl) (Std.at hS rfl rfl) (by omega) (by omega) ⟨by omega, by omega⟩ dX1_add_30 ?_
    refine v_aload_n X 0 dX1_add_31 rfl rfl ?_
    refine gt_X1_seconds X iwX1 (Std.lt hS rfl) (Std.k hS rfl rfl) (List.mem_cons_of_mem _ bw_5_2) dX1_add_32 12 (Std.r hS 2 rfl) ?_
    refine v_aload_n X 0 dX1_add_35 rfl rfl ?_
    refine gt_X1_size X iwX1 (Std.lt hS rfl) (Std.k hS rfl rfl) (List.mem_cons_of_mem _ bw_5_3) dX1_add_36 (M 9 3) rfl (fun hr5 => ?_)
    refine v_iload_n X 3 dX1_add_39 rfl rfl ?_
    refine v_iast X (Std.lt hS rfl) (Std.at hS rfl rfl) (by omega) (by omega) ⟨by omega, by omega⟩ dX1_add_40 ?_
    refine v_aload_n X 0 dX1_add_41 rfl rfl ?_
    refine v_dup X dX1_add_42 rfl ?_
    refine gt_X1_size X iwX1 (Std.lt hS rfl) (Std.k hS rfl rfl) (List.mem_cons_of_mem _ bw_5_3) dX1_add_43 (M 9 3) rfl (fun hr6 => ?_)
    refine v_iconst X dX1_add_46 ?_
    refine v_iadd X dX1_add_47 ?_
    refine pt_X1_size X iwX1 (Std.lt hS rfl) (Std.k hS rfl rfl) (List.mem_cons_of_mem _ bw_5_3) ⟨by omega, by omega⟩ dX1_add_48 ?_
    refine v_aload_n X 0 dX1_add_51 rfl rfl ?_
    refine gt_X1_size X iwX1 (Std.lt hS rfl) (Std.k hS rfl rfl) (List.mem_cons_of_mem _ bw_5_3) dX1_add_52 ((M 9 3) + 1) rfl (fun hr7 => ?_)
    refine v_iconst X dX1_add_55 ?_
    refine v_isub X dX1_add_56 ?_
    refine hret _ _ _ _ _ _ _ _ _ _ _ (some (.int (iz (((M 9 3) + 1) - 1)))) dX1_add_57 ⟨rfl, _, rfl⟩ (by decide) (by decide) (fun hmok => ?_)
    refine ⟨rfl, rfl, rfl, rfl, rfl, (((M 9 3) + 1) - 1), rfl, ⟨by omega, by omega⟩, ?_⟩
    try dsimp only
    rw [if_pos (by omega)]
    exact ⟨by omega, rfl⟩
  · skip
    refine v_iconst X dX1_add_9 ?_
    refine hret _ _ _ _ _ _ _ _ _ _ _ (some (.int (iz (-1)))) dX1_add_10 ⟨rfl, _, rfl⟩ (by decide) (by decide) (fun hmok => ?_)
    refine ⟨rfl, rfl, rfl, rfl, rfl, (-1), rfl, ⟨by decide, by decide⟩, ?_⟩
    try dsimp only
    rw [if_neg (by omega)]
    exact ⟨rfl, rfl⟩

-- fact
set_option maxHeartbeats 4000000 in
set_option maxRecDepth 100000 in
theorem c_X12_fact (l : Launch) (D : va_G) (cy : Nat → ClassId) {N : Nat} {sh : MS} {ad : Nat → Nat} {M L : MI} {R : MR} (hS : Std N sh R) (k a b : Int) (hk : inR k) (ha : inR a) (hb : inR b) (hz : 0 ≤ M 53 53 ∧ M 53 53 < 100) : Ctr l D cy yX12_fact wsX12_fact ({ frames := 0, cells := 0, slots := 0, locals := 0 } : Room) N sh ad M L R [.ref (ad 53), .int (iz k), .int (iz a), .int (iz b)] (eI N sh ad L R (fun r M' => r = M 53 53 ∧ M' = mu (mu (mu (mu M 88 (M 53 53) k) 89 (M 53 53) a) 90 (M 53 53) b) 53 53 ((M 53 53) + 1))) := by
  refine Ctr.ofI (by decide) rfl (Nat.le_of_ble_eq_true rfl) ?_
  intro K hKl hKd hRm hnm X hret
  have X : VX K cX12_fact 4 wsX12_fact RX12 := X
  show V K 4 0 0 N sh ad M L R [(0, .ref (ad 53)), (1, .int (iz k)), (2, .int (iz a)), (3, .int (iz b))] [] 0
  refine v_aload_n X 0 dX12_fact_0 rfl rfl ?_
  refine gt_X12_factSort X iwX12 (Std.lt hS rfl) (Std.k hS rfl rfl) (List.mem_cons_of_mem _ bw_9_2) dX12_fact_1 88 (Std.r hS 54 rfl) ?_
  refine v_aload_n X 0 dX12_fact_4 rfl rfl ?_
  refine gt_X12_facts X iwX12 (Std.lt hS rfl) (Std.k hS rfl rfl) (List.mem_cons_of_mem _ bw_27_9) dX12_fact_5 (M 53 53) rfl (fun hr1 => ?_)
  refine v_iload_n X 1 dX12_fact_8 rfl rfl ?_
  refine v_iast X (Std.lt hS rfl) (Std.at hS rfl rfl) (by omega) (by omega) ⟨by omega, by omega⟩ dX12_fact_9 ?_
  refine v_aload_n X 0 dX12_fact_10 rfl rfl ?_
  refine gt_X12_factA X iwX12 (Std.lt hS rfl) (Std.k hS rfl rfl) (List.mem_cons_of_mem _ bw_9_3) dX12_fact_11 89 (Std.r hS 55 rfl) ?_
  refine v_aload_n X 0 dX12_fact_14 rfl rfl ?_
  refine gt_X12_facts X iwX12 (Std.lt hS rfl) (Std.k hS rfl rfl) (List.mem_cons_of_mem _ bw_27_9) dX12_fact_15 (M 53 53) rfl (fun hr2 => ?_)
  refine v_iload_n X 2 dX12_fact_18 rfl rfl ?_
  refine v_iast X (Std.lt hS rfl) (Std.at hS rfl rfl) (by omega) (by omega) ⟨by omega, by omega⟩ dX12_fact_19 ?_
  refine v_aload_n X 0 dX12_fact_20 rfl rfl ?_
  refine gt_X12_factB X iwX12 (Std.lt hS rfl) (Std.k hS rfl rfl) (List.mem_cons_of_mem _ bw_9_4) dX12_fact_21 90 (Std.r hS 56 rfl) ?_
  refine v_aload_n X 0 dX12_fact_24 rfl rfl ?_
  refine gt_X12_facts X iwX12 (Std.lt hS rfl) (Std.k hS rfl rfl) (List.mem_cons_of_mem _ bw_27_9) dX12_fact_25 (M 53 53) rfl (fun hr3 => ?_)
  refine v_iload_n X 3 dX12_fact_28 rfl rfl ?_
  refine v_iast X (Std.lt hS rfl) (Std.at hS rfl rfl) (by omega) (by omega) ⟨by omega, by omega⟩ dX12_fact_29 ?_
  refine v_aload_n X 0 dX12_fact_30 rfl rfl ?_
  refine v_dup X dX12_fact_31 rfl ?_
  refine gt_X12_facts X iwX12 (Std.lt hS rfl) (Std.k hS rfl rfl) (List.mem_cons_of_mem _ bw_27_9) dX12_fact_32 (M 53 53) rfl (fun hr4 => ?_)
  refine v_iconst X dX12_fact_35 ?_
  refine v_iadd X dX12_fact_36 ?_
  refine pt_X12_facts X iwX12 (Std.lt hS rfl) (Std.k hS rfl rfl) (List.mem_cons_of_mem _ bw_27_9) ⟨by omega, by omega⟩ dX12_fact_37 ?_
  refine v_aload_n X 0 dX12_fact_40 rfl rfl ?_
  refine gt_X12_facts X iwX12 (Std.lt hS rfl) (Std.k hS rfl rfl) (List.mem_cons_of_mem _ bw_27_9) dX12_fact_41 ((M 53 53) + 1) rfl (fun hr5 => ?_)
  refine v_iconst X dX12_fact_44 ?_
  refine v_isub X dX12_fact_45 ?_
  refine hret _ _ _ _ _ _ _ _ _ _ _ (some (.int (iz (((M 53 53) + 1) - 1)))) dX12_fact_46 ⟨rfl, _, rfl⟩ (by decide) (by decide) (fun hmok => ?_)
  refine ⟨rfl, rfl, rfl, rfl, rfl, (((M 53 53) + 1) - 1), rfl, ⟨by omega, by omega⟩, ?_⟩
  try dsimp only
  exact ⟨by omega, rfl⟩

-- Facts.has
set_option maxHeartbeats 4000000 in
set_option maxRecDepth 100000 in
theorem c_X1_has (l : Launch) (D : va_G) (cy : Nat → ClassId) {N : Nat} {sh : MS} {ad : Nat → Nat} {M L : MI} {R : MR} (hS : Std N sh R) (a : Int) (ha : inR a) : Ctr l D cy yX1_has wsX1_has ({ frames := 0, cells := 0, slots := 0, locals := 0 } : Room) N sh ad M L R [.ref (ad 9), .int (iz a)] (pB N sh ad M L R (0 ≤ a ∧ a ≤ M 9 3)) := by
  refine Ctr.ofZ (by decide) rfl (Nat.le_of_ble_eq_true rfl) ?_
  intro K hKl hKd hRm hnm X hret
  have X : VX K cX1_has 2 wsX1_has RX1 := X
  show V K 2 0 0 N sh ad M L R [(0, .ref (ad 9)), (1, .int (iz a))] [] 0
  refine v_iload_n X 1 dX1_has_0 rfl rfl ?_
  refine v_if_lt X 16 dX1_has_1 (by decide) ⟨by omega, by omega⟩ (fun u1 => ?_) (fun u1 => ?_)
  · skip
    refine v_iconst X dX1_has_16 ?_
    refine hret _ _ _ _ _ _ _ _ _ _ _ (some (.int (iz 0))) dX1_has_17 ⟨rfl, 0, ⟨by omega, by omega⟩, rfl⟩ (by decide) (by decide) (fun hmok => ?_)
    refine ⟨rfl, rfl, rfl, rfl, rfl, rfl, 0, rfl, Or.inr ⟨rfl, ?_⟩⟩
    omega
  · skip
    refine v_iload_n X 1 dX1_has_4 rfl rfl ?_
    refine v_aload_n X 0 dX1_has_5 rfl rfl ?_
    refine gt_X1_size X iwX1 (Std.lt hS rfl) (Std.k hS rfl rfl) (List.mem_cons_of_mem _ bw_5_3) dX1_has_6 (M 9 3) rfl (fun hr2 => ?_)
    refine v_icmp_gt X 16 dX1_has_9 (by decide) ⟨by omega, by omega⟩ ⟨by omega, by omega⟩ (fun u3 => ?_) (fun u3 => ?_)
    · skip
      refine v_iconst X dX1_has_16 ?_
      refine hret _ _ _ _ _ _ _ _ _ _ _ (some (.int (iz 0))) dX1_has_17 ⟨rfl, 0, ⟨by omega, by omega⟩, rfl⟩ (by decide) (by decide) (fun hmok => ?_)
      refine ⟨rfl, rfl, rfl, rfl, rfl, rfl, 0, rfl, Or.inr ⟨rfl, ?_⟩⟩
      omega
    · skip
      refine v_iconst X dX1_has_12 ?_
      refine v_goto X 17 dX1_has_13 (by decide) ?_
      refine hret _ _ _ _ _ _ _ _ _ _ _ (some (.int (iz 1))) dX1_has_17 ⟨rfl, 1, ⟨by omega, by omega⟩, rfl⟩ (by decide) (by decide) (fun hmok => ?_)
      refine ⟨rfl, rfl, rfl, rfl, rfl, rfl, 1, rfl, Or.inl ⟨rfl, ?_⟩⟩
      omega

