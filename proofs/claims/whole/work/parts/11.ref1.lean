/-! MappedProcessorModel.bit(II)Z -/
theorem d_Ref_bit_0 : decode b_Ref_bit 0 = .ok (.iload_n 0, 1) := by decide +kernel
theorem d_Ref_bit_1 : decode b_Ref_bit 1 = .ok (.iload_n 1, 1) := by decide +kernel
theorem d_Ref_bit_2 : decode b_Ref_bit 2 = .ok (.ishr, 1) := by decide +kernel
theorem d_Ref_bit_3 : decode b_Ref_bit 3 = .ok (.iconst 1, 1) := by decide +kernel
theorem d_Ref_bit_4 : decode b_Ref_bit 4 = .ok (.iand, 1) := by decide +kernel
theorem d_Ref_bit_5 : decode b_Ref_bit 5 = .ok (.iconst 1, 1) := by decide +kernel
theorem d_Ref_bit_6 : decode b_Ref_bit 6 = .ok (.if_icmp .ne 7, 3) := by decide +kernel
theorem d_Ref_bit_9 : decode b_Ref_bit 9 = .ok (.iconst 1, 1) := by decide +kernel
theorem d_Ref_bit_10 : decode b_Ref_bit 10 = .ok (.goto 4, 3) := by decide +kernel
theorem d_Ref_bit_13 : decode b_Ref_bit 13 = .ok (.iconst 0, 1) := by decide +kernel
theorem d_Ref_bit_14 : decode b_Ref_bit 14 = .ok (.ireturn, 1) := by decide +kernel
def f_Ref_bit (p0 : Int32) (p1 : Int32) : Int32 :=
  (if ((shr p0 p1) &&& (1 : Int32)) = (1 : Int32) then (1 : Int32) else (0 : Int32))
set_option maxHeartbeats 4000000 in
set_option maxRecDepth 100000 in
theorem ib_Ref_bit (p0 : Int32) (p1 : Int32) : isB (f_Ref_bit p0 p1) := by
  unfold f_Ref_bit
  try dsimp only
  repeat' (first | refine ib_ite ?_ ?_ | refine ib_ite0 ?_ ?_ | with_reducible exact ib0 | with_reducible exact ib1 | (dsimp only; first | exact ib0 | exact ib1))
theorem nb_Ref_bit (p0 : Int32) (p1 : Int32) : narrow .boolean (.int (f_Ref_bit p0 p1)) = .int (f_Ref_bit p0 p1) := nb_of (ib_Ref_bit p0 p1)
set_option maxHeartbeats 4000000 in
set_option maxRecDepth 100000 in
theorem c_Ref_bit (l : Launch) (D : va_G) (p0 : Int32) (p1 : Int32) : kMi l y_Ref_bit b_Ref_bit 2 (some .boolean) 0 0 D kCl [] [.int p0, .int p1] [] (f_Ref_bit p0 p1) [] := by
  refine k_entry (Qc := fun A => kQi D kCl [] (f_Ref_bit p0 p1) [] A) (lv := [(0, .int p0), (1, .int p1)]) (by decide) (Nat.le_of_ble_eq_true rfl) rfl ?_
  intro p e s m below meth c A ls hx hb hr hml hB hown hlocks hin hA hK hN hP hD hS hl
  have hown : s.vm.findClass "MappedProcessorModel" = some m.cls := hown
  refine lv_iload_n hx hb d_Ref_bit_0 rfl (lv_at hl 0 rfl) ?_
  refine lv_iload_n hx hb d_Ref_bit_1 rfl (lv_at hl 1 rfl) ?_
  refine lv_ishr hx hb d_Ref_bit_2 ?_
  refine lv_iconst (v := (1 : Int32)) hx hb d_Ref_bit_3 (by decide) ?_
  refine lv_iand hx hb d_Ref_bit_4 ?_
  refine lv_iconst (v := (1 : Int32)) hx hb d_Ref_bit_5 (by decide) ?_
  refine k_join2 (c0 := ((shr p0 p1) &&& (1 : Int32)) = (1 : Int32)) (x1 := (1 : Int32)) (x2 := (0 : Int32)) (rest := []) 14 ?_ (fun k2 k3 => ?_)
  rotate_left
  · refine lv_icmp_ne (tgt := 13) hx hb d_Ref_bit_6 (by decide) (fun (h1 : ¬ ((shr p0 p1) &&& (1 : Int32)) = (1 : Int32)) => ?_) (fun (h1 : ((shr p0 p1) &&& (1 : Int32)) = (1 : Int32)) => ?_)
    · refine lv_iconst (v := (0 : Int32)) hx hb d_Ref_bit_13 (by decide) ?_
      exact k3 h1
    · refine lv_iconst (v := (1 : Int32)) hx hb d_Ref_bit_9 (by decide) ?_
      refine lv_goto (tgt := 14) hx hb d_Ref_bit_10 (by decide) ?_
      exact k2 h1
  have ef : f_Ref_bit p0 p1 = (if ((shr p0 p1) &&& (1 : Int32)) = (1 : Int32) then (1 : Int32) else (0 : Int32)) := rfl
  exact k_zret hx hb hr hlocks hK hP hD hS [] rfl rfl (by rw [ef] <;> rfl) (nb_ite nb1 nb0) d_Ref_bit_14
/-! MappedProcessorModel.unsigned(I)J -/
theorem d_Ref_unsigned_0 : decode b_Ref_unsigned 0 = .ok (.iload_n 0, 1) := by decide +kernel
theorem d_Ref_unsigned_1 : decode b_Ref_unsigned 1 = .ok (.i2l, 1) := by decide +kernel
theorem d_Ref_unsigned_2 : decode b_Ref_unsigned 2 = .ok (.ldc2_w 19, 3) := by decide +kernel
theorem d_Ref_unsigned_5 : decode b_Ref_unsigned 5 = .ok (.land, 1) := by decide +kernel
theorem d_Ref_unsigned_6 : decode b_Ref_unsigned 6 = .ok (.lreturn, 1) := by decide +kernel
def f_Ref_unsigned (p0 : Int32) : Int64 :=
  ((p0.toInt64) &&& (4294967295 : Int64))
set_option maxHeartbeats 4000000 in
set_option maxRecDepth 100000 in
theorem c_Ref_unsigned (l : Launch) (D : va_G) (p0 : Int32) : kMl l y_Ref_unsigned b_Ref_unsigned 1 (some .long) 0 0 D kCl [] [.int p0] [] (f_Ref_unsigned p0) [] := by
  refine k_entry (Qc := fun A => kQl D kCl [] (f_Ref_unsigned p0) [] A) (lv := [(0, .int p0)]) (by decide) (Nat.le_of_ble_eq_true rfl) rfl ?_
  intro p e s m below meth c A ls hx hb hr hml hB hown hlocks hin hA hK hN hP hD hS hl
  have hown : s.vm.findClass "MappedProcessorModel" = some m.cls := hown
  refine lv_iload_n hx hb d_Ref_unsigned_0 rfl (lv_at hl 0 rfl) ?_
  refine lv_i2l (v := (p0.toInt64)) hx hb d_Ref_unsigned_1 rfl ?_
  refine lv_ldc2 (v := (4294967295 : Int64)) hx hb hown (hB _ mw_772) d_Ref_unsigned_2 ?_
  refine lv_land hx hb d_Ref_unsigned_5 ?_
  have ef : f_Ref_unsigned p0 = ((p0.toInt64) &&& (4294967295 : Int64)) := rfl
  exact k_lret hx hb hr hlocks hK hP hD hS [] rfl rfl (by rw [ef] <;> rfl) d_Ref_unsigned_6
/-! MappedProcessorModel.block(IIII)I -/
theorem d_Ref_block_0 : decode b_Ref_block 0 = .ok (.iload_n 2, 1) := by decide +kernel
theorem d_Ref_block_1 : decode b_Ref_block 1 = .ok (.iconst 3, 1) := by decide +kernel
theorem d_Ref_block_2 : decode b_Ref_block 2 = .ok (.iand, 1) := by decide +kernel
theorem d_Ref_block_3 : decode b_Ref_block 3 = .ok (.istore 5, 2) := by decide +kernel
theorem d_Ref_block_5 : decode b_Ref_block 5 = .ok (.iload 5, 2) := by decide +kernel
theorem d_Ref_block_7 : decode b_Ref_block 7 = .ok (.ifCond .eq 15, 3) := by decide +kernel
theorem d_Ref_block_10 : decode b_Ref_block 10 = .ok (.iload 4, 2) := by decide +kernel
theorem d_Ref_block_12 : decode b_Ref_block 12 = .ok (.iconst 2, 1) := by decide +kernel
theorem d_Ref_block_13 : decode b_Ref_block 13 = .ok (.if_icmp .ne 17, 3) := by decide +kernel
theorem d_Ref_block_16 : decode b_Ref_block 16 = .ok (.iload 5, 2) := by decide +kernel
theorem d_Ref_block_18 : decode b_Ref_block 18 = .ok (.iconst 2, 1) := by decide +kernel
theorem d_Ref_block_19 : decode b_Ref_block 19 = .ok (.if_icmp .eq 11, 3) := by decide +kernel
theorem d_Ref_block_22 : decode b_Ref_block 22 = .ok (.aload_n 0, 1) := by decide +kernel
theorem d_Ref_block_23 : decode b_Ref_block 23 = .ok (.bipush (-2), 2) := by decide +kernel
theorem d_Ref_block_25 : decode b_Ref_block 25 = .ok (.putfield 21, 3) := by decide +kernel
theorem d_Ref_block_28 : decode b_Ref_block 28 = .ok (.iconst 0, 1) := by decide +kernel
theorem d_Ref_block_29 : decode b_Ref_block 29 = .ok (.ireturn, 1) := by decide +kernel
theorem d_Ref_block_30 : decode b_Ref_block 30 = .ok (.iload_n 2, 1) := by decide +kernel
theorem d_Ref_block_31 : decode b_Ref_block 31 = .ok (.iload_n 3, 1) := by decide +kernel
theorem d_Ref_block_32 : decode b_Ref_block 32 = .ok (.iconst (-1), 1) := by decide +kernel
theorem d_Ref_block_33 : decode b_Ref_block 33 = .ok (.ixor, 1) := by decide +kernel
theorem d_Ref_block_34 : decode b_Ref_block 34 = .ok (.iand, 1) := by decide +kernel
theorem d_Ref_block_35 : decode b_Ref_block 35 = .ok (.sipush (-8192), 3) := by decide +kernel
theorem d_Ref_block_38 : decode b_Ref_block 38 = .ok (.iand, 1) := by decide +kernel
theorem d_Ref_block_39 : decode b_Ref_block 39 = .ok (.iload_n 1, 1) := by decide +kernel
theorem d_Ref_block_40 : decode b_Ref_block 40 = .ok (.iload_n 3, 1) := by decide +kernel
theorem d_Ref_block_41 : decode b_Ref_block 41 = .ok (.sipush 8191, 3) := by decide +kernel
theorem d_Ref_block_44 : decode b_Ref_block 44 = .ok (.ior, 1) := by decide +kernel
theorem d_Ref_block_45 : decode b_Ref_block 45 = .ok (.iand, 1) := by decide +kernel
theorem d_Ref_block_46 : decode b_Ref_block 46 = .ok (.ior, 1) := by decide +kernel
theorem d_Ref_block_47 : decode b_Ref_block 47 = .ok (.ireturn, 1) := by decide +kernel
def f_Ref_block (p0 : Int32) (p1 : Int32) (p2 : Int32) (p3 : Int32) (rr : Int32) : Int32 × Int32 :=
  if (p1 &&& (3 : Int32)) = (0 : Int32) then
    ((0 : Int32), (-2 : Int32))
  else
    if p3 = (2 : Int32) then
      if (p1 &&& (3 : Int32)) = (2 : Int32) then
        ((((p1 &&& (p2 ^^^ (-1 : Int32))) &&& (-8192 : Int32)) ||| (p0 &&& (p2 ||| (8191 : Int32)))), rr)
      else
        ((0 : Int32), (-2 : Int32))
    else
      ((((p1 &&& (p2 ^^^ (-1 : Int32))) &&& (-8192 : Int32)) ||| (p0 &&& (p2 ||| (8191 : Int32)))), rr)
set_option maxHeartbeats 4000000 in
set_option maxRecDepth 100000 in
theorem c_Ref_block (l : Launch) (D : va_G) (aT bG bS bM : Nat) (dG dS dM : ClassId) (rg : Nat → Int32) (rs : Nat → Int32) (rm : Nat → Int32) (rl : Int32) (rk : Int32) (rr : Int32) (re : Int32) (rc : Int32) (rd : Int32) (ra : Int32) (rb : Int32) (rn : Int32) (rf : Int32) (rw : Int32) (p0 : Int32) (p1 : Int32) (p2 : Int32) (p3 : Int32) : kMi l y_Ref_block b_Ref_block 6 (some .int) 0 0 D kCl [(dG, .int), (dS, .int), (dM, .int)] [.ref aT, .int p0, .int p1, .int p2, .int p3] [(aT, .inr (11, [.ref bG, .ref bS, .ref bM, .int rl, .int rk, .int rr, .int re, .int rc, .int rd, .int ra, .int rb, .int rn, .int rf, .int rw])), (bG, .inl (dG, 32, .inl rg)), (bS, .inl (dS, 48, .inl rs)), (bM, .inl (dM, 16384, .inl rm))] (f_Ref_block p0 p1 p2 p3 rr).1 [(aT, .inr (11, [.ref bG, .ref bS, .ref bM, .int rl, .int rk, .int (f_Ref_block p0 p1 p2 p3 rr).2, .int re, .int rc, .int rd, .int ra, .int rb, .int rn, .int rf, .int rw])), (bG, .inl (dG, 32, .inl rg)), (bS, .inl (dS, 48, .inl rs)), (bM, .inl (dM, 16384, .inl rm))] := by
  refine k_entry (Qc := fun A => kQi D kCl [(dG, .int), (dS, .int), (dM, .int)] (f_Ref_block p0 p1 p2 p3 rr).1 [(aT, .inr (11, [.ref bG, .ref bS, .ref bM, .int rl, .int rk, .int (f_Ref_block p0 p1 p2 p3 rr).2, .int re, .int rc, .int rd, .int ra, .int rb, .int rn, .int rf, .int rw])), (bG, .inl (dG, 32, .inl rg)), (bS, .inl (dS, 48, .inl rs)), (bM, .inl (dM, 16384, .inl rm))] A) (lv := [(0, .ref aT), (1, .int p0), (2, .int p1), (3, .int p2), (4, .int p3)]) (by decide) (Nat.le_of_ble_eq_true rfl) rfl ?_
  intro p e s m below meth c A ls hx hb hr hml hB hown hlocks hin hA hK hN hP hD hS hl
  have hown : s.vm.findClass "MappedProcessorModel" = some m.cls := hown
  refine lv_iload_n hx hb d_Ref_block_0 rfl (lv_at hl 2 rfl) ?_
  refine lv_iconst (v := (3 : Int32)) hx hb d_Ref_block_1 (by decide) ?_
  refine lv_iand hx hb d_Ref_block_2 ?_
  refine lv_istore (lv' := [(5, .int (p1 &&& (3 : Int32))), (0, .ref aT), (1, .int p0), (2, .int p1), (3, .int p2), (4, .int p3)]) hx hb d_Ref_block_3 hl (by decide) rfl (fun ls hl => ?_)
  refine lv_iload hx hb d_Ref_block_5 (lv_at hl 0 rfl) ?_
  refine lv_if_eq (tgt := 22) hx hb d_Ref_block_7 (by decide) (fun (h1 : (p1 &&& (3 : Int32)) = (0 : Int32)) => ?_) (fun (h1 : ¬ (p1 &&& (3 : Int32)) = (0 : Int32)) => ?_)
  · refine lv_aload_n hx hb d_Ref_block_22 rfl (lv_at hl 1 rfl) ?_
    refine lv_bipush (v := (-2 : Int32)) hx hb d_Ref_block_23 (by decide) ?_
    refine va_put (D := D) (ci := 11) (v := .int (-2 : Int32)) (ty := .int) (C := "MappedProcessorModel") (T := T_Ref) (N := 14) hx hb hB iw_Ref ty_Ref ty_Ref_ok nm_Ref hown hK hP hD hS 0 rfl rfl 5 (by decide) (hB _ mw_648) (fun _ h9 => h9) rfl (by decide +kernel) rfl rfl (Nat.le_of_ble_eq_true rfl) d_Ref_block_25 (fun H locs hP hD hS => ?_)
    have hP : va_P D kCl [(aT, .inr (11, [.ref bG, .ref bS, .ref bM, .int rl, .int rk, .int (-2 : Int32), .int re, .int rc, .int rd, .int ra, .int rb, .int rn, .int rf, .int rw])), (bG, .inl (dG, 32, .inl rg)), (bS, .inl (dS, 48, .inl rs)), (bM, .inl (dM, 16384, .inl rm))] H := hP
    have hD : va_D A [(aT, .inr (11, [.ref bG, .ref bS, .ref bM, .int rl, .int rk, .int (-2 : Int32), .int re, .int rc, .int rd, .int ra, .int rb, .int rn, .int rf, .int rw])), (bG, .inl (dG, 32, .inl rg)), (bS, .inl (dS, 48, .inl rs)), (bM, .inl (dM, 16384, .inl rm))] := hD
    refine lv_iconst (v := (0 : Int32)) hx hb d_Ref_block_28 (by decide) ?_
    have ef : f_Ref_block p0 p1 p2 p3 rr = ((0 : Int32), (-2 : Int32)) := by unfold f_Ref_block; rw [if_pos h1]
    exact k_iret hx hb hr hlocks hK hP hD hS [0, 1, 2, 3] rfl (by rw [ef] <;> rfl) (by rw [ef] <;> rfl) d_Ref_block_29
  · refine lv_iload hx hb d_Ref_block_10 (lv_at hl 5 rfl) ?_
    refine lv_iconst (v := (2 : Int32)) hx hb d_Ref_block_12 (by decide) ?_
    refine lv_icmp_ne (tgt := 30) hx hb d_Ref_block_13 (by decide) (fun (h2 : ¬ p3 = (2 : Int32)) => ?_) (fun (h2 : p3 = (2 : Int32)) => ?_)
    · refine lv_iload_n hx hb d_Ref_block_30 rfl (lv_at hl 3 rfl) ?_
      refine lv_iload_n hx hb d_Ref_block_31 rfl (lv_at hl 4 rfl) ?_
      refine lv_iconst (v := (-1 : Int32)) hx hb d_Ref_block_32 (by decide) ?_
      refine lv_ixor hx hb d_Ref_block_33 ?_
      refine lv_iand hx hb d_Ref_block_34 ?_
      refine lv_sipush (v := (-8192 : Int32)) hx hb d_Ref_block_35 (by decide) ?_
      refine lv_iand hx hb d_Ref_block_38 ?_
      refine lv_iload_n hx hb d_Ref_block_39 rfl (lv_at hl 2 rfl) ?_
      refine lv_iload_n hx hb d_Ref_block_40 rfl (lv_at hl 4 rfl) ?_
      refine lv_sipush (v := (8191 : Int32)) hx hb d_Ref_block_41 (by decide) ?_
      refine lv_ior hx hb d_Ref_block_44 ?_
      refine lv_iand hx hb d_Ref_block_45 ?_
      refine lv_ior hx hb d_Ref_block_46 ?_
      have ef : f_Ref_block p0 p1 p2 p3 rr = ((((p1 &&& (p2 ^^^ (-1 : Int32))) &&& (-8192 : Int32)) ||| (p0 &&& (p2 ||| (8191 : Int32)))), rr) := by unfold f_Ref_block; rw [if_neg h1, if_neg h2]
      exact k_iret hx hb hr hlocks hK hP hD hS [0, 1, 2, 3] rfl (by rw [ef] <;> rfl) (by rw [ef] <;> rfl) d_Ref_block_47
    · refine lv_iload hx hb d_Ref_block_16 (lv_at hl 0 rfl) ?_
      refine lv_iconst (v := (2 : Int32)) hx hb d_Ref_block_18 (by decide) ?_
      refine lv_icmp_eq (tgt := 30) hx hb d_Ref_block_19 (by decide) (fun (h3 : (p1 &&& (3 : Int32)) = (2 : Int32)) => ?_) (fun (h3 : ¬ (p1 &&& (3 : Int32)) = (2 : Int32)) => ?_)
      · refine lv_iload_n hx hb d_Ref_block_30 rfl (lv_at hl 3 rfl) ?_
        refine lv_iload_n hx hb d_Ref_block_31 rfl (lv_at hl 4 rfl) ?_
        refine lv_iconst (v := (-1 : Int32)) hx hb d_Ref_block_32 (by decide) ?_
        refine lv_ixor hx hb d_Ref_block_33 ?_
        refine lv_iand hx hb d_Ref_block_34 ?_
        refine lv_sipush (v := (-8192 : Int32)) hx hb d_Ref_block_35 (by decide) ?_
        refine lv_iand hx hb d_Ref_block_38 ?_
        refine lv_iload_n hx hb d_Ref_block_39 rfl (lv_at hl 2 rfl) ?_
        refine lv_iload_n hx hb d_Ref_block_40 rfl (lv_at hl 4 rfl) ?_
        refine lv_sipush (v := (8191 : Int32)) hx hb d_Ref_block_41 (by decide) ?_
        refine lv_ior hx hb d_Ref_block_44 ?_
        refine lv_iand hx hb d_Ref_block_45 ?_
        refine lv_ior hx hb d_Ref_block_46 ?_
        have ef : f_Ref_block p0 p1 p2 p3 rr = ((((p1 &&& (p2 ^^^ (-1 : Int32))) &&& (-8192 : Int32)) ||| (p0 &&& (p2 ||| (8191 : Int32)))), rr) := by unfold f_Ref_block; rw [if_neg h1, if_pos h2, if_pos h3]
        exact k_iret hx hb hr hlocks hK hP hD hS [0, 1, 2, 3] rfl (by rw [ef] <;> rfl) (by rw [ef] <;> rfl) d_Ref_block_47
      · refine lv_aload_n hx hb d_Ref_block_22 rfl (lv_at hl 1 rfl) ?_
        refine lv_bipush (v := (-2 : Int32)) hx hb d_Ref_block_23 (by decide) ?_
        refine va_put (D := D) (ci := 11) (v := .int (-2 : Int32)) (ty := .int) (C := "MappedProcessorModel") (T := T_Ref) (N := 14) hx hb hB iw_Ref ty_Ref ty_Ref_ok nm_Ref hown hK hP hD hS 0 rfl rfl 5 (by decide) (hB _ mw_648) (fun _ h9 => h9) rfl (by decide +kernel) rfl rfl (Nat.le_of_ble_eq_true rfl) d_Ref_block_25 (fun H locs hP hD hS => ?_)
        have hP : va_P D kCl [(aT, .inr (11, [.ref bG, .ref bS, .ref bM, .int rl, .int rk, .int (-2 : Int32), .int re, .int rc, .int rd, .int ra, .int rb, .int rn, .int rf, .int rw])), (bG, .inl (dG, 32, .inl rg)), (bS, .inl (dS, 48, .inl rs)), (bM, .inl (dM, 16384, .inl rm))] H := hP
        have hD : va_D A [(aT, .inr (11, [.ref bG, .ref bS, .ref bM, .int rl, .int rk, .int (-2 : Int32), .int re, .int rc, .int rd, .int ra, .int rb, .int rn, .int rf, .int rw])), (bG, .inl (dG, 32, .inl rg)), (bS, .inl (dS, 48, .inl rs)), (bM, .inl (dM, 16384, .inl rm))] := hD
        refine lv_iconst (v := (0 : Int32)) hx hb d_Ref_block_28 (by decide) ?_
        have ef : f_Ref_block p0 p1 p2 p3 rr = ((0 : Int32), (-2 : Int32)) := by unfold f_Ref_block; rw [if_neg h1, if_pos h2, if_neg h3]
        exact k_iret hx hb hr hlocks hK hP hD hS [0, 1, 2, 3] rfl (by rw [ef] <;> rfl) (by rw [ef] <;> rfl) d_Ref_block_29
/-! MappedProcessorModel.search(II)I -/
theorem d_Ref_search_0 : decode b_Ref_search 0 = .ok (.aload_n 0, 1) := by decide +kernel
theorem d_Ref_search_1 : decode b_Ref_search 1 = .ok (.getfield 13, 3) := by decide +kernel
theorem d_Ref_search_4 : decode b_Ref_search 4 = .ok (.bipush 10, 2) := by decide +kernel
theorem d_Ref_search_6 : decode b_Ref_search 6 = .ok (.iaload, 1) := by decide +kernel
theorem d_Ref_search_7 : decode b_Ref_search 7 = .ok (.ldc 40, 2) := by decide +kernel
theorem d_Ref_search_9 : decode b_Ref_search 9 = .ok (.iand, 1) := by decide +kernel
theorem d_Ref_search_10 : decode b_Ref_search 10 = .ok (.bipush 64, 2) := by decide +kernel
theorem d_Ref_search_12 : decode b_Ref_search 12 = .ok (.iload_n 1, 1) := by decide +kernel
theorem d_Ref_search_13 : decode b_Ref_search 13 = .ok (.aload_n 0, 1) := by decide +kernel
theorem d_Ref_search_14 : decode b_Ref_search 14 = .ok (.getfield 13, 3) := by decide +kernel
theorem d_Ref_search_17 : decode b_Ref_search 17 = .ok (.bipush 10, 2) := by decide +kernel
theorem d_Ref_search_19 : decode b_Ref_search 19 = .ok (.iaload, 1) := by decide +kernel
theorem d_Ref_search_20 : decode b_Ref_search 20 = .ok (.iand, 1) := by decide +kernel
theorem d_Ref_search_21 : decode b_Ref_search 21 = .ok (.bipush 15, 2) := by decide +kernel
theorem d_Ref_search_23 : decode b_Ref_search 23 = .ok (.iand, 1) := by decide +kernel
theorem d_Ref_search_24 : decode b_Ref_search 24 = .ok (.imul, 1) := by decide +kernel
theorem d_Ref_search_25 : decode b_Ref_search 25 = .ok (.iadd, 1) := by decide +kernel
theorem d_Ref_search_26 : decode b_Ref_search 26 = .ok (.iconst 4, 1) := by decide +kernel
theorem d_Ref_search_27 : decode b_Ref_search 27 = .ok (.idiv, 1) := by decide +kernel
theorem d_Ref_search_28 : decode b_Ref_search 28 = .ok (.istore_n 3, 1) := by decide +kernel
theorem d_Ref_search_29 : decode b_Ref_search 29 = .ok (.iconst 0, 1) := by decide +kernel
theorem d_Ref_search_30 : decode b_Ref_search 30 = .ok (.istore 4, 2) := by decide +kernel
theorem d_Ref_search_32 : decode b_Ref_search 32 = .ok (.iload 4, 2) := by decide +kernel
theorem d_Ref_search_34 : decode b_Ref_search 34 = .ok (.bipush 8, 2) := by decide +kernel
theorem d_Ref_search_36 : decode b_Ref_search 36 = .ok (.if_icmp .ge 31, 3) := by decide +kernel
theorem d_Ref_search_39 : decode b_Ref_search 39 = .ok (.aload_n 0, 1) := by decide +kernel
theorem d_Ref_search_40 : decode b_Ref_search 40 = .ok (.getfield 16, 3) := by decide +kernel
theorem d_Ref_search_43 : decode b_Ref_search 43 = .ok (.iload_n 3, 1) := by decide +kernel
theorem d_Ref_search_44 : decode b_Ref_search 44 = .ok (.iconst 2, 1) := by decide +kernel
theorem d_Ref_search_45 : decode b_Ref_search 45 = .ok (.iload 4, 2) := by decide +kernel
theorem d_Ref_search_47 : decode b_Ref_search 47 = .ok (.imul, 1) := by decide +kernel
theorem d_Ref_search_48 : decode b_Ref_search 48 = .ok (.iadd, 1) := by decide +kernel
theorem d_Ref_search_49 : decode b_Ref_search 49 = .ok (.iaload, 1) := by decide +kernel
theorem d_Ref_search_50 : decode b_Ref_search 50 = .ok (.iload_n 2, 1) := by decide +kernel
theorem d_Ref_search_51 : decode b_Ref_search 51 = .ok (.if_icmp .ne 10, 3) := by decide +kernel
theorem d_Ref_search_54 : decode b_Ref_search 54 = .ok (.iload_n 3, 1) := by decide +kernel
theorem d_Ref_search_55 : decode b_Ref_search 55 = .ok (.iconst 2, 1) := by decide +kernel
theorem d_Ref_search_56 : decode b_Ref_search 56 = .ok (.iload 4, 2) := by decide +kernel
theorem d_Ref_search_58 : decode b_Ref_search 58 = .ok (.imul, 1) := by decide +kernel
theorem d_Ref_search_59 : decode b_Ref_search 59 = .ok (.iadd, 1) := by decide +kernel
theorem d_Ref_search_60 : decode b_Ref_search 60 = .ok (.ireturn, 1) := by decide +kernel
theorem d_Ref_search_61 : decode b_Ref_search 61 = .ok (.iinc 4 1, 3) := by decide +kernel
theorem d_Ref_search_64 : decode b_Ref_search 64 = .ok (.goto (-32), 3) := by decide +kernel
theorem d_Ref_search_67 : decode b_Ref_search 67 = .ok (.iconst (-1), 1) := by decide +kernel
theorem d_Ref_search_68 : decode b_Ref_search 68 = .ok (.ireturn, 1) := by decide +kernel
def f_Ref_search (p0 : Int32) (p1 : Int32) (rs : Nat → Int32) (rm : Nat → Int32) : Int32 :=
  if (rm (ix (((((rs 10) &&& (64512 : Int32)) + ((64 : Int32) * ((p0 &&& (rs 10)) &&& (15 : Int32)))) / (4 : Int32)) + (0 : Int32)))) = p1 then
    (((((rs 10) &&& (64512 : Int32)) + ((64 : Int32) * ((p0 &&& (rs 10)) &&& (15 : Int32)))) / (4 : Int32)) + (0 : Int32))
  else
    if (rm (ix (((((rs 10) &&& (64512 : Int32)) + ((64 : Int32) * ((p0 &&& (rs 10)) &&& (15 : Int32)))) / (4 : Int32)) + (2 : Int32)))) = p1 then
      (((((rs 10) &&& (64512 : Int32)) + ((64 : Int32) * ((p0 &&& (rs 10)) &&& (15 : Int32)))) / (4 : Int32)) + (2 : Int32))
    else
      if (rm (ix (((((rs 10) &&& (64512 : Int32)) + ((64 : Int32) * ((p0 &&& (rs 10)) &&& (15 : Int32)))) / (4 : Int32)) + (4 : Int32)))) = p1 then
        (((((rs 10) &&& (64512 : Int32)) + ((64 : Int32) * ((p0 &&& (rs 10)) &&& (15 : Int32)))) / (4 : Int32)) + (4 : Int32))
      else
        if (rm (ix (((((rs 10) &&& (64512 : Int32)) + ((64 : Int32) * ((p0 &&& (rs 10)) &&& (15 : Int32)))) / (4 : Int32)) + (6 : Int32)))) = p1 then
          (((((rs 10) &&& (64512 : Int32)) + ((64 : Int32) * ((p0 &&& (rs 10)) &&& (15 : Int32)))) / (4 : Int32)) + (6 : Int32))
        else
          if (rm (ix (((((rs 10) &&& (64512 : Int32)) + ((64 : Int32) * ((p0 &&& (rs 10)) &&& (15 : Int32)))) / (4 : Int32)) + (8 : Int32)))) = p1 then
            (((((rs 10) &&& (64512 : Int32)) + ((64 : Int32) * ((p0 &&& (rs 10)) &&& (15 : Int32)))) / (4 : Int32)) + (8 : Int32))
          else
            if (rm (ix (((((rs 10) &&& (64512 : Int32)) + ((64 : Int32) * ((p0 &&& (rs 10)) &&& (15 : Int32)))) / (4 : Int32)) + (10 : Int32)))) = p1 then
              (((((rs 10) &&& (64512 : Int32)) + ((64 : Int32) * ((p0 &&& (rs 10)) &&& (15 : Int32)))) / (4 : Int32)) + (10 : Int32))
            else
              if (rm (ix (((((rs 10) &&& (64512 : Int32)) + ((64 : Int32) * ((p0 &&& (rs 10)) &&& (15 : Int32)))) / (4 : Int32)) + (12 : Int32)))) = p1 then
                (((((rs 10) &&& (64512 : Int32)) + ((64 : Int32) * ((p0 &&& (rs 10)) &&& (15 : Int32)))) / (4 : Int32)) + (12 : Int32))
              else
                if (rm (ix (((((rs 10) &&& (64512 : Int32)) + ((64 : Int32) * ((p0 &&& (rs 10)) &&& (15 : Int32)))) / (4 : Int32)) + (14 : Int32)))) = p1 then
                  (((((rs 10) &&& (64512 : Int32)) + ((64 : Int32) * ((p0 &&& (rs 10)) &&& (15 : Int32)))) / (4 : Int32)) + (14 : Int32))
                else
                  (-1 : Int32)
set_option maxHeartbeats 4000000 in
set_option maxRecDepth 100000 in
theorem c_Ref_search (l : Launch) (D : va_G) (aT bG bS bM : Nat) (dG dS dM : ClassId) (rg : Nat → Int32) (rs : Nat → Int32) (rm : Nat → Int32) (rl : Int32) (rk : Int32) (rr : Int32) (re : Int32) (rc : Int32) (rd : Int32) (ra : Int32) (rb : Int32) (rn : Int32) (rf : Int32) (rw : Int32) (p0 : Int32) (p1 : Int32) : kMi l y_Ref_search b_Ref_search 5 (some .int) 0 0 D kCl [(dG, .int), (dS, .int), (dM, .int)] [.ref aT, .int p0, .int p1] [(aT, .inr (11, [.ref bG, .ref bS, .ref bM, .int rl, .int rk, .int rr, .int re, .int rc, .int rd, .int ra, .int rb, .int rn, .int rf, .int rw])), (bG, .inl (dG, 32, .inl rg)), (bS, .inl (dS, 48, .inl rs)), (bM, .inl (dM, 16384, .inl rm))] (f_Ref_search p0 p1 rs rm) [(aT, .inr (11, [.ref bG, .ref bS, .ref bM, .int rl, .int rk, .int rr, .int re, .int rc, .int rd, .int ra, .int rb, .int rn, .int rf, .int rw])), (bG, .inl (dG, 32, .inl rg)), (bS, .inl (dS, 48, .inl rs)), (bM, .inl (dM, 16384, .inl rm))] := by
  refine k_entry (Qc := fun A => kQi D kCl [(dG, .int), (dS, .int), (dM, .int)] (f_Ref_search p0 p1 rs rm) [(aT, .inr (11, [.ref bG, .ref bS, .ref bM, .int rl, .int rk, .int rr, .int re, .int rc, .int rd, .int ra, .int rb, .int rn, .int rf, .int rw])), (bG, .inl (dG, 32, .inl rg)), (bS, .inl (dS, 48, .inl rs)), (bM, .inl (dM, 16384, .inl rm))] A) (lv := [(0, .ref aT), (1, .int p0), (2, .int p1)]) (by decide) (Nat.le_of_ble_eq_true rfl) rfl ?_
  intro p e s m below meth c A ls hx hb hr hml hB hown hlocks hin hA hK hN hP hD hS hl
  have hown : s.vm.findClass "MappedProcessorModel" = some m.cls := hown
  refine lv_aload_n hx hb d_Ref_search_0 rfl (lv_at hl 0 rfl) ?_
  refine va_get (D := D) (ci := 11) (v := .ref bS) (C := "MappedProcessorModel") (T := T_Ref) (N := 14) hx hb hB iw_Ref hown hK hP 0 rfl rfl 1 (by decide) (hB _ mw_644) (fun _ h9 => h9) rfl d_Ref_search_1 ?_
  refine lv_bipush (v := (10 : Int32)) hx hb d_Ref_search_4 (by decide) ?_
  refine k_iald (j := 10) hx hb hK hP 2 1 rfl rfl (by decide) (by unfold vp_in; decide) d_Ref_search_6 ?_
  refine lv_ldc (v := (64512 : Int32)) hx hb hown (hB _ mw_744) d_Ref_search_7 ?_
  refine lv_iand hx hb d_Ref_search_9 ?_
  refine lv_bipush (v := (64 : Int32)) hx hb d_Ref_search_10 (by decide) ?_
  refine lv_iload_n hx hb d_Ref_search_12 rfl (lv_at hl 1 rfl) ?_
  refine lv_aload_n hx hb d_Ref_search_13 rfl (lv_at hl 0 rfl) ?_
  refine va_get (D := D) (ci := 11) (v := .ref bS) (C := "MappedProcessorModel") (T := T_Ref) (N := 14) hx hb hB iw_Ref hown hK hP 0 rfl rfl 1 (by decide) (hB _ mw_644) (fun _ h9 => h9) rfl d_Ref_search_14 ?_
  refine lv_bipush (v := (10 : Int32)) hx hb d_Ref_search_17 (by decide) ?_
  refine k_iald (j := 10) hx hb hK hP 2 1 rfl rfl (by decide) (by unfold vp_in; decide) d_Ref_search_19 ?_
  refine lv_iand hx hb d_Ref_search_20 ?_
  refine lv_bipush (v := (15 : Int32)) hx hb d_Ref_search_21 (by decide) ?_
  refine lv_iand hx hb d_Ref_search_23 ?_
  refine lv_imul hx hb d_Ref_search_24 ?_
  refine lv_iadd hx hb d_Ref_search_25 ?_
  refine lv_iconst (v := (4 : Int32)) hx hb d_Ref_search_26 (by decide) ?_
  refine lv_idiv hx hb d_Ref_search_27 (by decide) ?_
  refine lv_istore_n (lv' := [(3, .int ((((rs 10) &&& (64512 : Int32)) + ((64 : Int32) * ((p0 &&& (rs 10)) &&& (15 : Int32)))) / (4 : Int32))), (0, .ref aT), (1, .int p0), (2, .int p1)]) hx hb d_Ref_search_28 rfl hl (by decide) rfl (fun ls hl => ?_)
  refine lv_iconst (v := (0 : Int32)) hx hb d_Ref_search_29 (by decide) ?_
  refine lv_istore (lv' := [(4, .int (0 : Int32)), (3, .int ((((rs 10) &&& (64512 : Int32)) + ((64 : Int32) * ((p0 &&& (rs 10)) &&& (15 : Int32)))) / (4 : Int32))), (0, .ref aT), (1, .int p0), (2, .int p1)]) hx hb d_Ref_search_30 hl (by decide) rfl (fun ls hl => ?_)
  refine lv_iload hx hb d_Ref_search_32 (lv_at hl 0 rfl) ?_
  refine lv_bipush (v := (8 : Int32)) hx hb d_Ref_search_34 (by decide) ?_
  refine lv_icmp_ge (tgt := 67) hx hb d_Ref_search_36 (by decide) (fun h1 => ?_) (fun h1 => ?_)
  · exact absurd h1 (by decide)
  refine lv_aload_n hx hb d_Ref_search_39 rfl (lv_at hl 2 rfl) ?_
  refine va_get (D := D) (ci := 11) (v := .ref bM) (C := "MappedProcessorModel") (T := T_Ref) (N := 14) hx hb hB iw_Ref hown hK hP 0 rfl rfl 2 (by decide) (hB _ mw_645) (fun _ h9 => h9) rfl d_Ref_search_40 ?_
  refine lv_iload_n hx hb d_Ref_search_43 rfl (lv_at hl 1 rfl) ?_
  refine lv_iconst (v := (2 : Int32)) hx hb d_Ref_search_44 (by decide) ?_
  refine lv_iload hx hb d_Ref_search_45 (lv_at hl 0 rfl) ?_
  refine lv_imul hx hb d_Ref_search_47 ?_
  refine k_fold (0 : Int32) (by decide) ?_
  refine lv_iadd hx hb d_Ref_search_48 ?_
  refine k_iald (j := (ix (((((rs 10) &&& (64512 : Int32)) + ((64 : Int32) * ((p0 &&& (rs 10)) &&& (15 : Int32)))) / (4 : Int32)) + (0 : Int32)))) hx hb hK hP 3 2 rfl rfl rfl (ix_search _ _ _ (by decide) (by decide)) d_Ref_search_49 ?_
  refine lv_iload_n hx hb d_Ref_search_50 rfl (lv_at hl 4 rfl) ?_
  refine lv_icmp_ne (tgt := 61) hx hb d_Ref_search_51 (by decide) (fun (h2 : ¬ (rm (ix (((((rs 10) &&& (64512 : Int32)) + ((64 : Int32) * ((p0 &&& (rs 10)) &&& (15 : Int32)))) / (4 : Int32)) + (0 : Int32)))) = p1) => ?_) (fun (h2 : (rm (ix (((((rs 10) &&& (64512 : Int32)) + ((64 : Int32) * ((p0 &&& (rs 10)) &&& (15 : Int32)))) / (4 : Int32)) + (0 : Int32)))) = p1) => ?_)
  · refine lv_iinc (v := (1 : Int32)) (lv' := [(4, .int (1 : Int32)), (3, .int ((((rs 10) &&& (64512 : Int32)) + ((64 : Int32) * ((p0 &&& (rs 10)) &&& (15 : Int32)))) / (4 : Int32))), (0, .ref aT), (1, .int p0), (2, .int p1)]) hx hb d_Ref_search_61 hl (k := 0) rfl (by decide) (by decide) rfl (fun ls hl => ?_)
    refine lv_goto (tgt := 32) hx hb d_Ref_search_64 (by decide) ?_
    refine lv_iload hx hb d_Ref_search_32 (lv_at hl 0 rfl) ?_
    refine lv_bipush (v := (8 : Int32)) hx hb d_Ref_search_34 (by decide) ?_
    refine lv_icmp_ge (tgt := 67) hx hb d_Ref_search_36 (by decide) (fun h3 => ?_) (fun h3 => ?_)
    · exact absurd h3 (by decide)
    refine lv_aload_n hx hb d_Ref_search_39 rfl (lv_at hl 2 rfl) ?_
    refine va_get (D := D) (ci := 11) (v := .ref bM) (C := "MappedProcessorModel") (T := T_Ref) (N := 14) hx hb hB iw_Ref hown hK hP 0 rfl rfl 2 (by decide) (hB _ mw_645) (fun _ h9 => h9) rfl d_Ref_search_40 ?_
    refine lv_iload_n hx hb d_Ref_search_43 rfl (lv_at hl 1 rfl) ?_
    refine lv_iconst (v := (2 : Int32)) hx hb d_Ref_search_44 (by decide) ?_
    refine lv_iload hx hb d_Ref_search_45 (lv_at hl 0 rfl) ?_
    refine lv_imul hx hb d_Ref_search_47 ?_
    refine k_fold (2 : Int32) (by decide) ?_
    refine lv_iadd hx hb d_Ref_search_48 ?_
    refine k_iald (j := (ix (((((rs 10) &&& (64512 : Int32)) + ((64 : Int32) * ((p0 &&& (rs 10)) &&& (15 : Int32)))) / (4 : Int32)) + (2 : Int32)))) hx hb hK hP 3 2 rfl rfl rfl (ix_search _ _ _ (by decide) (by decide)) d_Ref_search_49 ?_
    refine lv_iload_n hx hb d_Ref_search_50 rfl (lv_at hl 4 rfl) ?_
    refine lv_icmp_ne (tgt := 61) hx hb d_Ref_search_51 (by decide) (fun (h4 : ¬ (rm (ix (((((rs 10) &&& (64512 : Int32)) + ((64 : Int32) * ((p0 &&& (rs 10)) &&& (15 : Int32)))) / (4 : Int32)) + (2 : Int32)))) = p1) => ?_) (fun (h4 : (rm (ix (((((rs 10) &&& (64512 : Int32)) + ((64 : Int32) * ((p0 &&& (rs 10)) &&& (15 : Int32)))) / (4 : Int32)) + (2 : Int32)))) = p1) => ?_)
    · refine lv_iinc (v := (2 : Int32)) (lv' := [(4, .int (2 : Int32)), (3, .int ((((rs 10) &&& (64512 : Int32)) + ((64 : Int32) * ((p0 &&& (rs 10)) &&& (15 : Int32)))) / (4 : Int32))), (0, .ref aT), (1, .int p0), (2, .int p1)]) hx hb d_Ref_search_61 hl (k := 0) rfl (by decide) (by decide) rfl (fun ls hl => ?_)
      refine lv_goto (tgt := 32) hx hb d_Ref_search_64 (by decide) ?_
      refine lv_iload hx hb d_Ref_search_32 (lv_at hl 0 rfl) ?_
      refine lv_bipush (v := (8 : Int32)) hx hb d_Ref_search_34 (by decide) ?_
      refine lv_icmp_ge (tgt := 67) hx hb d_Ref_search_36 (by decide) (fun h5 => ?_) (fun h5 => ?_)
      · exact absurd h5 (by decide)
      refine lv_aload_n hx hb d_Ref_search_39 rfl (lv_at hl 2 rfl) ?_
      refine va_get (D := D) (ci := 11) (v := .ref bM) (C := "MappedProcessorModel") (T := T_Ref) (N := 14) hx hb hB iw_Ref hown hK hP 0 rfl rfl 2 (by decide) (hB _ mw_645) (fun _ h9 => h9) rfl d_Ref_search_40 ?_
      refine lv_iload_n hx hb d_Ref_search_43 rfl (lv_at hl 1 rfl) ?_
      refine lv_iconst (v := (2 : Int32)) hx hb d_Ref_search_44 (by decide) ?_
      refine lv_iload hx hb d_Ref_search_45 (lv_at hl 0 rfl) ?_
      refine lv_imul hx hb d_Ref_search_47 ?_
      refine k_fold (4 : Int32) (by decide) ?_
      refine lv_iadd hx hb d_Ref_search_48 ?_
      refine k_iald (j := (ix (((((rs 10) &&& (64512 : Int32)) + ((64 : Int32) * ((p0 &&& (rs 10)) &&& (15 : Int32)))) / (4 : Int32)) + (4 : Int32)))) hx hb hK hP 3 2 rfl rfl rfl (ix_search _ _ _ (by decide) (by decide)) d_Ref_search_49 ?_
      refine lv_iload_n hx hb d_Ref_search_50 rfl (lv_at hl 4 rfl) ?_
      refine lv_icmp_ne (tgt := 61) hx hb d_Ref_search_51 (by decide) (fun (h6 : ¬ (rm (ix (((((rs 10) &&& (64512 : Int32)) + ((64 : Int32) * ((p0 &&& (rs 10)) &&& (15 : Int32)))) / (4 : Int32)) + (4 : Int32)))) = p1) => ?_) (fun (h6 : (rm (ix (((((rs 10) &&& (64512 : Int32)) + ((64 : Int32) * ((p0 &&& (rs 10)) &&& (15 : Int32)))) / (4 : Int32)) + (4 : Int32)))) = p1) => ?_)
      · refine lv_iinc (v := (3 : Int32)) (lv' := [(4, .int (3 : Int32)), (3, .int ((((rs 10) &&& (64512 : Int32)) + ((64 : Int32) * ((p0 &&& (rs 10)) &&& (15 : Int32)))) / (4 : Int32))), (0, .ref aT), (1, .int p0), (2, .int p1)]) hx hb d_Ref_search_61 hl (k := 0) rfl (by decide) (by decide) rfl (fun ls hl => ?_)
        refine lv_goto (tgt := 32) hx hb d_Ref_search_64 (by decide) ?_
        refine lv_iload hx hb d_Ref_search_32 (lv_at hl 0 rfl) ?_
        refine lv_bipush (v := (8 : Int32)) hx hb d_Ref_search_34 (by decide) ?_
        refine lv_icmp_ge (tgt := 67) hx hb d_Ref_search_36 (by decide) (fun h7 => ?_) (fun h7 => ?_)
        · exact absurd h7 (by decide)
        refine lv_aload_n hx hb d_Ref_search_39 rfl (lv_at hl 2 rfl) ?_
        refine va_get (D := D) (ci := 11) (v := .ref bM) (C := "MappedProcessorModel") (T := T_Ref) (N := 14) hx hb hB iw_Ref hown hK hP 0 rfl rfl 2 (by decide) (hB _ mw_645) (fun _ h9 => h9) rfl d_Ref_search_40 ?_
        refine lv_iload_n hx hb d_Ref_search_43 rfl (lv_at hl 1 rfl) ?_
        refine lv_iconst (v := (2 : Int32)) hx hb d_Ref_search_44 (by decide) ?_
        refine lv_iload hx hb d_Ref_search_45 (lv_at hl 0 rfl) ?_
        refine lv_imul hx hb d_Ref_search_47 ?_
        refine k_fold (6 : Int32) (by decide) ?_
        refine lv_iadd hx hb d_Ref_search_48 ?_
        refine k_iald (j := (ix (((((rs 10) &&& (64512 : Int32)) + ((64 : Int32) * ((p0 &&& (rs 10)) &&& (15 : Int32)))) / (4 : Int32)) + (6 : Int32)))) hx hb hK hP 3 2 rfl rfl rfl (ix_search _ _ _ (by decide) (by decide)) d_Ref_search_49 ?_
        refine lv_iload_n hx hb d_Ref_search_50 rfl (lv_at hl 4 rfl) ?_
        refine lv_icmp_ne (tgt := 61) hx hb d_Ref_search_51 (by decide) (fun (h8 : ¬ (rm (ix (((((rs 10) &&& (64512 : Int32)) + ((64 : Int32) * ((p0 &&& (rs 10)) &&& (15 : Int32)))) / (4 : Int32)) + (6 : Int32)))) = p1) => ?_) (fun (h8 : (rm (ix (((((rs 10) &&& (64512 : Int32)) + ((64 : Int32) * ((p0 &&& (rs 10)) &&& (15 : Int32)))) / (4 : Int32)) + (6 : Int32)))) = p1) => ?_)
        · refine lv_iinc (v := (4 : Int32)) (lv' := [(4, .int (4 : Int32)), (3, .int ((((rs 10) &&& (64512 : Int32)) + ((64 : Int32) * ((p0 &&& (rs 10)) &&& (15 : Int32)))) / (4 : Int32))), (0, .ref aT), (1, .int p0), (2, .int p1)]) hx hb d_Ref_search_61 hl (k := 0) rfl (by decide) (by decide) rfl (fun ls hl => ?_)
          refine lv_goto (tgt := 32) hx hb d_Ref_search_64 (by decide) ?_
          refine lv_iload hx hb d_Ref_search_32 (lv_at hl 0 rfl) ?_
          refine lv_bipush (v := (8 : Int32)) hx hb d_Ref_search_34 (by decide) ?_
          refine lv_icmp_ge (tgt := 67) hx hb d_Ref_search_36 (by decide) (fun h9 => ?_) (fun h9 => ?_)
          · exact absurd h9 (by decide)
          refine lv_aload_n hx hb d_Ref_search_39 rfl (lv_at hl 2 rfl) ?_
          refine va_get (D := D) (ci := 11) (v := .ref bM) (C := "MappedProcessorModel") (T := T_Ref) (N := 14) hx hb hB iw_Ref hown hK hP 0 rfl rfl 2 (by decide) (hB _ mw_645) (fun _ h9 => h9) rfl d_Ref_search_40 ?_
          refine lv_iload_n hx hb d_Ref_search_43 rfl (lv_at hl 1 rfl) ?_
          refine lv_iconst (v := (2 : Int32)) hx hb d_Ref_search_44 (by decide) ?_
          refine lv_iload hx hb d_Ref_search_45 (lv_at hl 0 rfl) ?_
          refine lv_imul hx hb d_Ref_search_47 ?_
          refine k_fold (8 : Int32) (by decide) ?_
          refine lv_iadd hx hb d_Ref_search_48 ?_
          refine k_iald (j := (ix (((((rs 10) &&& (64512 : Int32)) + ((64 : Int32) * ((p0 &&& (rs 10)) &&& (15 : Int32)))) / (4 : Int32)) + (8 : Int32)))) hx hb hK hP 3 2 rfl rfl rfl (ix_search _ _ _ (by decide) (by decide)) d_Ref_search_49 ?_
          refine lv_iload_n hx hb d_Ref_search_50 rfl (lv_at hl 4 rfl) ?_
          refine lv_icmp_ne (tgt := 61) hx hb d_Ref_search_51 (by decide) (fun (h10 : ¬ (rm (ix (((((rs 10) &&& (64512 : Int32)) + ((64 : Int32) * ((p0 &&& (rs 10)) &&& (15 : Int32)))) / (4 : Int32)) + (8 : Int32)))) = p1) => ?_) (fun (h10 : (rm (ix (((((rs 10) &&& (64512 : Int32)) + ((64 : Int32) * ((p0 &&& (rs 10)) &&& (15 : Int32)))) / (4 : Int32)) + (8 : Int32)))) = p1) => ?_)
          · refine lv_iinc (v := (5 : Int32)) (lv' := [(4, .int (5 : Int32)), (3, .int ((((rs 10) &&& (64512 : Int32)) + ((64 : Int32) * ((p0 &&& (rs 10)) &&& (15 : Int32)))) / (4 : Int32))), (0, .ref aT), (1, .int p0), (2, .int p1)]) hx hb d_Ref_search_61 hl (k := 0) rfl (by decide) (by decide) rfl (fun ls hl => ?_)
            refine lv_goto (tgt := 32) hx hb d_Ref_search_64 (by decide) ?_
            refine lv_iload hx hb d_Ref_search_32 (lv_at hl 0 rfl) ?_
            refine lv_bipush (v := (8 : Int32)) hx hb d_Ref_search_34 (by decide) ?_
            refine lv_icmp_ge (tgt := 67) hx hb d_Ref_search_36 (by decide) (fun h11 => ?_) (fun h11 => ?_)
            · exact absurd h11 (by decide)
            refine lv_aload_n hx hb d_Ref_search_39 rfl (lv_at hl 2 rfl) ?_
            refine va_get (D := D) (ci := 11) (v := .ref bM) (C := "MappedProcessorModel") (T := T_Ref) (N := 14) hx hb hB iw_Ref hown hK hP 0 rfl rfl 2 (by decide) (hB _ mw_645) (fun _ h9 => h9) rfl d_Ref_search_40 ?_
            refine lv_iload_n hx hb d_Ref_search_43 rfl (lv_at hl 1 rfl) ?_
            refine lv_iconst (v := (2 : Int32)) hx hb d_Ref_search_44 (by decide) ?_
            refine lv_iload hx hb d_Ref_search_45 (lv_at hl 0 rfl) ?_
            refine lv_imul hx hb d_Ref_search_47 ?_
            refine k_fold (10 : Int32) (by decide) ?_
            refine lv_iadd hx hb d_Ref_search_48 ?_
            refine k_iald (j := (ix (((((rs 10) &&& (64512 : Int32)) + ((64 : Int32) * ((p0 &&& (rs 10)) &&& (15 : Int32)))) / (4 : Int32)) + (10 : Int32)))) hx hb hK hP 3 2 rfl rfl rfl (ix_search _ _ _ (by decide) (by decide)) d_Ref_search_49 ?_
            refine lv_iload_n hx hb d_Ref_search_50 rfl (lv_at hl 4 rfl) ?_
            refine lv_icmp_ne (tgt := 61) hx hb d_Ref_search_51 (by decide) (fun (h12 : ¬ (rm (ix (((((rs 10) &&& (64512 : Int32)) + ((64 : Int32) * ((p0 &&& (rs 10)) &&& (15 : Int32)))) / (4 : Int32)) + (10 : Int32)))) = p1) => ?_) (fun (h12 : (rm (ix (((((rs 10) &&& (64512 : Int32)) + ((64 : Int32) * ((p0 &&& (rs 10)) &&& (15 : Int32)))) / (4 : Int32)) + (10 : Int32)))) = p1) => ?_)
            · refine lv_iinc (v := (6 : Int32)) (lv' := [(4, .int (6 : Int32)), (3, .int ((((rs 10) &&& (64512 : Int32)) + ((64 : Int32) * ((p0 &&& (rs 10)) &&& (15 : Int32)))) / (4 : Int32))), (0, .ref aT), (1, .int p0), (2, .int p1)]) hx hb d_Ref_search_61 hl (k := 0) rfl (by decide) (by decide) rfl (fun ls hl => ?_)
              refine lv_goto (tgt := 32) hx hb d_Ref_search_64 (by decide) ?_
              refine lv_iload hx hb d_Ref_search_32 (lv_at hl 0 rfl) ?_
              refine lv_bipush (v := (8 : Int32)) hx hb d_Ref_search_34 (by decide) ?_
              refine lv_icmp_ge (tgt := 67) hx hb d_Ref_search_36 (by decide) (fun h13 => ?_) (fun h13 => ?_)
              · exact absurd h13 (by decide)
              refine lv_aload_n hx hb d_Ref_search_39 rfl (lv_at hl 2 rfl) ?_
              refine va_get (D := D) (ci := 11) (v := .ref bM) (C := "MappedProcessorModel") (T := T_Ref) (N := 14) hx hb hB iw_Ref hown hK hP 0 rfl rfl 2 (by decide) (hB _ mw_645) (fun _ h9 => h9) rfl d_Ref_search_40 ?_
              refine lv_iload_n hx hb d_Ref_search_43 rfl (lv_at hl 1 rfl) ?_
              refine lv_iconst (v := (2 : Int32)) hx hb d_Ref_search_44 (by decide) ?_
              refine lv_iload hx hb d_Ref_search_45 (lv_at hl 0 rfl) ?_
              refine lv_imul hx hb d_Ref_search_47 ?_
              refine k_fold (12 : Int32) (by decide) ?_
              refine lv_iadd hx hb d_Ref_search_48 ?_
              refine k_iald (j := (ix (((((rs 10) &&& (64512 : Int32)) + ((64 : Int32) * ((p0 &&& (rs 10)) &&& (15 : Int32)))) / (4 : Int32)) + (12 : Int32)))) hx hb hK hP 3 2 rfl rfl rfl (ix_search _ _ _ (by decide) (by decide)) d_Ref_search_49 ?_
              refine lv_iload_n hx hb d_Ref_search_50 rfl (lv_at hl 4 rfl) ?_
              refine lv_icmp_ne (tgt := 61) hx hb d_Ref_search_51 (by decide) (fun (h14 : ¬ (rm (ix (((((rs 10) &&& (64512 : Int32)) + ((64 : Int32) * ((p0 &&& (rs 10)) &&& (15 : Int32)))) / (4 : Int32)) + (12 : Int32)))) = p1) => ?_) (fun (h14 : (rm (ix (((((rs 10) &&& (64512 : Int32)) + ((64 : Int32) * ((p0 &&& (rs 10)) &&& (15 : Int32)))) / (4 : Int32)) + (12 : Int32)))) = p1) => ?_)
              · refine lv_iinc (v := (7 : Int32)) (lv' := [(4, .int (7 : Int32)), (3, .int ((((rs 10) &&& (64512 : Int32)) + ((64 : Int32) * ((p0 &&& (rs 10)) &&& (15 : Int32)))) / (4 : Int32))), (0, .ref aT), (1, .int p0), (2, .int p1)]) hx hb d_Ref_search_61 hl (k := 0) rfl (by decide) (by decide) rfl (fun ls hl => ?_)
                refine lv_goto (tgt := 32) hx hb d_Ref_search_64 (by decide) ?_
                refine lv_iload hx hb d_Ref_search_32 (lv_at hl 0 rfl) ?_
                refine lv_bipush (v := (8 : Int32)) hx hb d_Ref_search_34 (by decide) ?_
                refine lv_icmp_ge (tgt := 67) hx hb d_Ref_search_36 (by decide) (fun h15 => ?_) (fun h15 => ?_)
                · exact absurd h15 (by decide)
                refine lv_aload_n hx hb d_Ref_search_39 rfl (lv_at hl 2 rfl) ?_
                refine va_get (D := D) (ci := 11) (v := .ref bM) (C := "MappedProcessorModel") (T := T_Ref) (N := 14) hx hb hB iw_Ref hown hK hP 0 rfl rfl 2 (by decide) (hB _ mw_645) (fun _ h9 => h9) rfl d_Ref_search_40 ?_
                refine lv_iload_n hx hb d_Ref_search_43 rfl (lv_at hl 1 rfl) ?_
                refine lv_iconst (v := (2 : Int32)) hx hb d_Ref_search_44 (by decide) ?_
                refine lv_iload hx hb d_Ref_search_45 (lv_at hl 0 rfl) ?_
                refine lv_imul hx hb d_Ref_search_47 ?_
                refine k_fold (14 : Int32) (by decide) ?_
                refine lv_iadd hx hb d_Ref_search_48 ?_
                refine k_iald (j := (ix (((((rs 10) &&& (64512 : Int32)) + ((64 : Int32) * ((p0 &&& (rs 10)) &&& (15 : Int32)))) / (4 : Int32)) + (14 : Int32)))) hx hb hK hP 3 2 rfl rfl rfl (ix_search _ _ _ (by decide) (by decide)) d_Ref_search_49 ?_
                refine lv_iload_n hx hb d_Ref_search_50 rfl (lv_at hl 4 rfl) ?_
                refine lv_icmp_ne (tgt := 61) hx hb d_Ref_search_51 (by decide) (fun (h16 : ¬ (rm (ix (((((rs 10) &&& (64512 : Int32)) + ((64 : Int32) * ((p0 &&& (rs 10)) &&& (15 : Int32)))) / (4 : Int32)) + (14 : Int32)))) = p1) => ?_) (fun (h16 : (rm (ix (((((rs 10) &&& (64512 : Int32)) + ((64 : Int32) * ((p0 &&& (rs 10)) &&& (15 : Int32)))) / (4 : Int32)) + (14 : Int32)))) = p1) => ?_)
                · refine lv_iinc (v := (8 : Int32)) (lv' := [(4, .int (8 : Int32)), (3, .int ((((rs 10) &&& (64512 : Int32)) + ((64 : Int32) * ((p0 &&& (rs 10)) &&& (15 : Int32)))) / (4 : Int32))), (0, .ref aT), (1, .int p0), (2, .int p1)]) hx hb d_Ref_search_61 hl (k := 0) rfl (by decide) (by decide) rfl (fun ls hl => ?_)
                  refine lv_goto (tgt := 32) hx hb d_Ref_search_64 (by decide) ?_
                  refine lv_iload hx hb d_Ref_search_32 (lv_at hl 0 rfl) ?_
                  refine lv_bipush (v := (8 : Int32)) hx hb d_Ref_search_34 (by decide) ?_
                  refine lv_icmp_ge (tgt := 67) hx hb d_Ref_search_36 (by decide) (fun h17 => ?_) (fun h17 => ?_)
                  rotate_left
                  · exact absurd (by decide) h17
                  refine lv_iconst (v := (-1 : Int32)) hx hb d_Ref_search_67 (by decide) ?_
                  have ef : f_Ref_search p0 p1 rs rm = (-1 : Int32) := by unfold f_Ref_search; rw [if_neg h2, if_neg h4, if_neg h6, if_neg h8, if_neg h10, if_neg h12, if_neg h14, if_neg h16]
                  exact k_iret hx hb hr hlocks hK hP hD hS [0, 1, 2, 3] rfl rfl (by rw [ef] <;> rfl) d_Ref_search_68
                · refine lv_iload_n hx hb d_Ref_search_54 rfl (lv_at hl 1 rfl) ?_
                  refine lv_iconst (v := (2 : Int32)) hx hb d_Ref_search_55 (by decide) ?_
                  refine lv_iload hx hb d_Ref_search_56 (lv_at hl 0 rfl) ?_
                  refine lv_imul hx hb d_Ref_search_58 ?_
                  refine k_fold (14 : Int32) (by decide) ?_
                  refine lv_iadd hx hb d_Ref_search_59 ?_
                  have ef : f_Ref_search p0 p1 rs rm = (((((rs 10) &&& (64512 : Int32)) + ((64 : Int32) * ((p0 &&& (rs 10)) &&& (15 : Int32)))) / (4 : Int32)) + (14 : Int32)) := by unfold f_Ref_search; rw [if_neg h2, if_neg h4, if_neg h6, if_neg h8, if_neg h10, if_neg h12, if_neg h14, if_pos h16]
                  exact k_iret hx hb hr hlocks hK hP hD hS [0, 1, 2, 3] rfl rfl (by rw [ef] <;> rfl) d_Ref_search_60
              · refine lv_iload_n hx hb d_Ref_search_54 rfl (lv_at hl 1 rfl) ?_
                refine lv_iconst (v := (2 : Int32)) hx hb d_Ref_search_55 (by decide) ?_
                refine lv_iload hx hb d_Ref_search_56 (lv_at hl 0 rfl) ?_
                refine lv_imul hx hb d_Ref_search_58 ?_
                refine k_fold (12 : Int32) (by decide) ?_
                refine lv_iadd hx hb d_Ref_search_59 ?_
                have ef : f_Ref_search p0 p1 rs rm = (((((rs 10) &&& (64512 : Int32)) + ((64 : Int32) * ((p0 &&& (rs 10)) &&& (15 : Int32)))) / (4 : Int32)) + (12 : Int32)) := by unfold f_Ref_search; rw [if_neg h2, if_neg h4, if_neg h6, if_neg h8, if_neg h10, if_neg h12, if_pos h14]
                exact k_iret hx hb hr hlocks hK hP hD hS [0, 1, 2, 3] rfl rfl (by rw [ef] <;> rfl) d_Ref_search_60
            · refine lv_iload_n hx hb d_Ref_search_54 rfl (lv_at hl 1 rfl) ?_
              refine lv_iconst (v := (2 : Int32)) hx hb d_Ref_search_55 (by decide) ?_
              refine lv_iload hx hb d_Ref_search_56 (lv_at hl 0 rfl) ?_
              refine lv_imul hx hb d_Ref_search_58 ?_
              refine k_fold (10 : Int32) (by decide) ?_
              refine lv_iadd hx hb d_Ref_search_59 ?_
              have ef : f_Ref_search p0 p1 rs rm = (((((rs 10) &&& (64512 : Int32)) + ((64 : Int32) * ((p0 &&& (rs 10)) &&& (15 : Int32)))) / (4 : Int32)) + (10 : Int32)) := by unfold f_Ref_search; rw [if_neg h2, if_neg h4, if_neg h6, if_neg h8, if_neg h10, if_pos h12]
              exact k_iret hx hb hr hlocks hK hP hD hS [0, 1, 2, 3] rfl rfl (by rw [ef] <;> rfl) d_Ref_search_60
          · refine lv_iload_n hx hb d_Ref_search_54 rfl (lv_at hl 1 rfl) ?_
            refine lv_iconst (v := (2 : Int32)) hx hb d_Ref_search_55 (by decide) ?_
            refine lv_iload hx hb d_Ref_search_56 (lv_at hl 0 rfl) ?_
            refine lv_imul hx hb d_Ref_search_58 ?_
            refine k_fold (8 : Int32) (by decide) ?_
            refine lv_iadd hx hb d_Ref_search_59 ?_
            have ef : f_Ref_search p0 p1 rs rm = (((((rs 10) &&& (64512 : Int32)) + ((64 : Int32) * ((p0 &&& (rs 10)) &&& (15 : Int32)))) / (4 : Int32)) + (8 : Int32)) := by unfold f_Ref_search; rw [if_neg h2, if_neg h4, if_neg h6, if_neg h8, if_pos h10]
            exact k_iret hx hb hr hlocks hK hP hD hS [0, 1, 2, 3] rfl rfl (by rw [ef] <;> rfl) d_Ref_search_60
        · refine lv_iload_n hx hb d_Ref_search_54 rfl (lv_at hl 1 rfl) ?_
          refine lv_iconst (v := (2 : Int32)) hx hb d_Ref_search_55 (by decide) ?_
          refine lv_iload hx hb d_Ref_search_56 (lv_at hl 0 rfl) ?_
          refine lv_imul hx hb d_Ref_search_58 ?_
          refine k_fold (6 : Int32) (by decide) ?_
          refine lv_iadd hx hb d_Ref_search_59 ?_
          have ef : f_Ref_search p0 p1 rs rm = (((((rs 10) &&& (64512 : Int32)) + ((64 : Int32) * ((p0 &&& (rs 10)) &&& (15 : Int32)))) / (4 : Int32)) + (6 : Int32)) := by unfold f_Ref_search; rw [if_neg h2, if_neg h4, if_neg h6, if_pos h8]
          exact k_iret hx hb hr hlocks hK hP hD hS [0, 1, 2, 3] rfl rfl (by rw [ef] <;> rfl) d_Ref_search_60
      · refine lv_iload_n hx hb d_Ref_search_54 rfl (lv_at hl 1 rfl) ?_
        refine lv_iconst (v := (2 : Int32)) hx hb d_Ref_search_55 (by decide) ?_
        refine lv_iload hx hb d_Ref_search_56 (lv_at hl 0 rfl) ?_
        refine lv_imul hx hb d_Ref_search_58 ?_
        refine k_fold (4 : Int32) (by decide) ?_
        refine lv_iadd hx hb d_Ref_search_59 ?_
        have ef : f_Ref_search p0 p1 rs rm = (((((rs 10) &&& (64512 : Int32)) + ((64 : Int32) * ((p0 &&& (rs 10)) &&& (15 : Int32)))) / (4 : Int32)) + (4 : Int32)) := by unfold f_Ref_search; rw [if_neg h2, if_neg h4, if_pos h6]
        exact k_iret hx hb hr hlocks hK hP hD hS [0, 1, 2, 3] rfl rfl (by rw [ef] <;> rfl) d_Ref_search_60
    · refine lv_iload_n hx hb d_Ref_search_54 rfl (lv_at hl 1 rfl) ?_
      refine lv_iconst (v := (2 : Int32)) hx hb d_Ref_search_55 (by decide) ?_
      refine lv_iload hx hb d_Ref_search_56 (lv_at hl 0 rfl) ?_
      refine lv_imul hx hb d_Ref_search_58 ?_
      refine k_fold (2 : Int32) (by decide) ?_
      refine lv_iadd hx hb d_Ref_search_59 ?_
      have ef : f_Ref_search p0 p1 rs rm = (((((rs 10) &&& (64512 : Int32)) + ((64 : Int32) * ((p0 &&& (rs 10)) &&& (15 : Int32)))) / (4 : Int32)) + (2 : Int32)) := by unfold f_Ref_search; rw [if_neg h2, if_pos h4]
      exact k_iret hx hb hr hlocks hK hP hD hS [0, 1, 2, 3] rfl rfl (by rw [ef] <;> rfl) d_Ref_search_60
  · refine lv_iload_n hx hb d_Ref_search_54 rfl (lv_at hl 1 rfl) ?_
    refine lv_iconst (v := (2 : Int32)) hx hb d_Ref_search_55 (by decide) ?_
    refine lv_iload hx hb d_Ref_search_56 (lv_at hl 0 rfl) ?_
    refine lv_imul hx hb d_Ref_search_58 ?_
    refine k_fold (0 : Int32) (by decide) ?_
    refine lv_iadd hx hb d_Ref_search_59 ?_
    have ef : f_Ref_search p0 p1 rs rm = (((((rs 10) &&& (64512 : Int32)) + ((64 : Int32) * ((p0 &&& (rs 10)) &&& (15 : Int32)))) / (4 : Int32)) + (0 : Int32)) := by unfold f_Ref_search; rw [if_pos h2]
    exact k_iret hx hb hr hlocks hK hP hD hS [0, 1, 2, 3] rfl rfl (by rw [ef] <;> rfl) d_Ref_search_60
/-! MappedProcessorModel.paged(IIZ)I -/
theorem d_Ref_paged_0 : decode b_Ref_paged 0 = .ok (.aload_n 0, 1) := by decide +kernel
theorem d_Ref_paged_1 : decode b_Ref_paged 1 = .ok (.getfield 13, 3) := by decide +kernel
theorem d_Ref_paged_4 : decode b_Ref_paged 4 = .ok (.bipush 32, 2) := by decide +kernel
theorem d_Ref_paged_6 : decode b_Ref_paged 6 = .ok (.iload_n 1, 1) := by decide +kernel
theorem d_Ref_paged_7 : decode b_Ref_paged 7 = .ok (.bipush 28, 2) := by decide +kernel
theorem d_Ref_paged_9 : decode b_Ref_paged 9 = .ok (.iushr, 1) := by decide +kernel
theorem d_Ref_paged_10 : decode b_Ref_paged 10 = .ok (.iadd, 1) := by decide +kernel
theorem d_Ref_paged_11 : decode b_Ref_paged 11 = .ok (.iaload, 1) := by decide +kernel
theorem d_Ref_paged_12 : decode b_Ref_paged 12 = .ok (.istore 4, 2) := by decide +kernel
theorem d_Ref_paged_14 : decode b_Ref_paged 14 = .ok (.iload 4, 2) := by decide +kernel
theorem d_Ref_paged_16 : decode b_Ref_paged 16 = .ok (.bipush 31, 2) := by decide +kernel
theorem d_Ref_paged_18 : decode b_Ref_paged 18 = .ok (.invokestatic 28, 3) := by decide +kernel
theorem d_Ref_paged_21 : decode b_Ref_paged 21 = .ok (.ifCond .ne 17, 3) := by decide +kernel
theorem d_Ref_paged_24 : decode b_Ref_paged 24 = .ok (.iload_n 2, 1) := by decide +kernel
theorem d_Ref_paged_25 : decode b_Ref_paged 25 = .ok (.ifCond .ne 35, 3) := by decide +kernel
theorem d_Ref_paged_28 : decode b_Ref_paged 28 = .ok (.iload 4, 2) := by decide +kernel
theorem d_Ref_paged_30 : decode b_Ref_paged 30 = .ok (.bipush 28, 2) := by decide +kernel
theorem d_Ref_paged_32 : decode b_Ref_paged 32 = .ok (.invokestatic 28, 3) := by decide +kernel
theorem d_Ref_paged_35 : decode b_Ref_paged 35 = .ok (.ifCond .eq 25, 3) := by decide +kernel
theorem d_Ref_paged_38 : decode b_Ref_paged 38 = .ok (.aload_n 0, 1) := by decide +kernel
theorem d_Ref_paged_39 : decode b_Ref_paged 39 = .ok (.iload 4, 2) := by decide +kernel
theorem d_Ref_paged_41 : decode b_Ref_paged 41 = .ok (.bipush 31, 2) := by decide +kernel
theorem d_Ref_paged_43 : decode b_Ref_paged 43 = .ok (.invokestatic 28, 3) := by decide +kernel
theorem d_Ref_paged_46 : decode b_Ref_paged 46 = .ok (.ifCond .eq 7, 3) := by decide +kernel
theorem d_Ref_paged_49 : decode b_Ref_paged 49 = .ok (.iconst (-1), 1) := by decide +kernel
theorem d_Ref_paged_50 : decode b_Ref_paged 50 = .ok (.goto 5, 3) := by decide +kernel
theorem d_Ref_paged_53 : decode b_Ref_paged 53 = .ok (.bipush (-3), 2) := by decide +kernel
theorem d_Ref_paged_55 : decode b_Ref_paged 55 = .ok (.putfield 21, 3) := by decide +kernel
theorem d_Ref_paged_58 : decode b_Ref_paged 58 = .ok (.iconst 0, 1) := by decide +kernel
theorem d_Ref_paged_59 : decode b_Ref_paged 59 = .ok (.ireturn, 1) := by decide +kernel
theorem d_Ref_paged_60 : decode b_Ref_paged 60 = .ok (.iload 4, 2) := by decide +kernel
theorem d_Ref_paged_62 : decode b_Ref_paged 62 = .ok (.ldc 41, 2) := by decide +kernel
theorem d_Ref_paged_64 : decode b_Ref_paged 64 = .ok (.iand, 1) := by decide +kernel
theorem d_Ref_paged_65 : decode b_Ref_paged 65 = .ok (.istore 5, 2) := by decide +kernel
theorem d_Ref_paged_67 : decode b_Ref_paged 67 = .ok (.iload_n 1, 1) := by decide +kernel
theorem d_Ref_paged_68 : decode b_Ref_paged 68 = .ok (.bipush 12, 2) := by decide +kernel
theorem d_Ref_paged_70 : decode b_Ref_paged 70 = .ok (.iushr, 1) := by decide +kernel
theorem d_Ref_paged_71 : decode b_Ref_paged 71 = .ok (.ldc 42, 2) := by decide +kernel
theorem d_Ref_paged_73 : decode b_Ref_paged 73 = .ok (.iand, 1) := by decide +kernel
theorem d_Ref_paged_74 : decode b_Ref_paged 74 = .ok (.istore 6, 2) := by decide +kernel
theorem d_Ref_paged_76 : decode b_Ref_paged 76 = .ok (.iload 5, 2) := by decide +kernel
theorem d_Ref_paged_78 : decode b_Ref_paged 78 = .ok (.ldc 43, 2) := by decide +kernel
theorem d_Ref_paged_80 : decode b_Ref_paged 80 = .ok (.iand, 1) := by decide +kernel
theorem d_Ref_paged_81 : decode b_Ref_paged 81 = .ok (.iload 6, 2) := by decide +kernel
theorem d_Ref_paged_83 : decode b_Ref_paged 83 = .ok (.ixor, 1) := by decide +kernel
theorem d_Ref_paged_84 : decode b_Ref_paged 84 = .ok (.istore 7, 2) := by decide +kernel
theorem d_Ref_paged_86 : decode b_Ref_paged 86 = .ok (.ldc 44, 2) := by decide +kernel
theorem d_Ref_paged_88 : decode b_Ref_paged 88 = .ok (.sipush 128, 3) := by decide +kernel
theorem d_Ref_paged_91 : decode b_Ref_paged 91 = .ok (.iload 5, 2) := by decide +kernel
theorem d_Ref_paged_93 : decode b_Ref_paged 93 = .ok (.imul, 1) := by decide +kernel
theorem d_Ref_paged_94 : decode b_Ref_paged 94 = .ok (.iadd, 1) := by decide +kernel
theorem d_Ref_paged_95 : decode b_Ref_paged 95 = .ok (.iload 6, 2) := by decide +kernel
theorem d_Ref_paged_97 : decode b_Ref_paged 97 = .ok (.bipush 10, 2) := by decide +kernel
theorem d_Ref_paged_99 : decode b_Ref_paged 99 = .ok (.iushr, 1) := by decide +kernel
theorem d_Ref_paged_100 : decode b_Ref_paged 100 = .ok (.iadd, 1) := by decide +kernel
theorem d_Ref_paged_101 : decode b_Ref_paged 101 = .ok (.istore 8, 2) := by decide +kernel
theorem d_Ref_paged_103 : decode b_Ref_paged 103 = .ok (.aload_n 0, 1) := by decide +kernel
theorem d_Ref_paged_104 : decode b_Ref_paged 104 = .ok (.iload 7, 2) := by decide +kernel
theorem d_Ref_paged_106 : decode b_Ref_paged 106 = .ok (.iload 8, 2) := by decide +kernel
theorem d_Ref_paged_108 : decode b_Ref_paged 108 = .ok (.invokevirtual 45, 3) := by decide +kernel
theorem d_Ref_paged_111 : decode b_Ref_paged 111 = .ok (.istore 9, 2) := by decide +kernel
theorem d_Ref_paged_113 : decode b_Ref_paged 113 = .ok (.iload 9, 2) := by decide +kernel
theorem d_Ref_paged_115 : decode b_Ref_paged 115 = .ok (.ifCond .ge 19, 3) := by decide +kernel
theorem d_Ref_paged_118 : decode b_Ref_paged 118 = .ok (.aload_n 0, 1) := by decide +kernel
theorem d_Ref_paged_119 : decode b_Ref_paged 119 = .ok (.iload 7, 2) := by decide +kernel
theorem d_Ref_paged_121 : decode b_Ref_paged 121 = .ok (.iconst (-1), 1) := by decide +kernel
theorem d_Ref_paged_122 : decode b_Ref_paged 122 = .ok (.ixor, 1) := by decide +kernel
theorem d_Ref_paged_123 : decode b_Ref_paged 123 = .ok (.iload 8, 2) := by decide +kernel
theorem d_Ref_paged_125 : decode b_Ref_paged 125 = .ok (.bipush 64, 2) := by decide +kernel
theorem d_Ref_paged_127 : decode b_Ref_paged 127 = .ok (.iadd, 1) := by decide +kernel
theorem d_Ref_paged_128 : decode b_Ref_paged 128 = .ok (.invokevirtual 45, 3) := by decide +kernel
theorem d_Ref_paged_131 : decode b_Ref_paged 131 = .ok (.goto 5, 3) := by decide +kernel
theorem d_Ref_paged_134 : decode b_Ref_paged 134 = .ok (.iload 9, 2) := by decide +kernel
theorem d_Ref_paged_136 : decode b_Ref_paged 136 = .ok (.istore 9, 2) := by decide +kernel
theorem d_Ref_paged_138 : decode b_Ref_paged 138 = .ok (.iload 9, 2) := by decide +kernel
theorem d_Ref_paged_140 : decode b_Ref_paged 140 = .ok (.ifCond .ge 10, 3) := by decide +kernel
theorem d_Ref_paged_143 : decode b_Ref_paged 143 = .ok (.aload_n 0, 1) := by decide +kernel
theorem d_Ref_paged_144 : decode b_Ref_paged 144 = .ok (.iconst (-1), 1) := by decide +kernel
theorem d_Ref_paged_145 : decode b_Ref_paged 145 = .ok (.putfield 21, 3) := by decide +kernel
theorem d_Ref_paged_148 : decode b_Ref_paged 148 = .ok (.iconst 0, 1) := by decide +kernel
theorem d_Ref_paged_149 : decode b_Ref_paged 149 = .ok (.ireturn, 1) := by decide +kernel
theorem d_Ref_paged_150 : decode b_Ref_paged 150 = .ok (.aload_n 0, 1) := by decide +kernel
theorem d_Ref_paged_151 : decode b_Ref_paged 151 = .ok (.getfield 16, 3) := by decide +kernel
theorem d_Ref_paged_154 : decode b_Ref_paged 154 = .ok (.iload 9, 2) := by decide +kernel
theorem d_Ref_paged_156 : decode b_Ref_paged 156 = .ok (.iconst 1, 1) := by decide +kernel
theorem d_Ref_paged_157 : decode b_Ref_paged 157 = .ok (.iadd, 1) := by decide +kernel
theorem d_Ref_paged_158 : decode b_Ref_paged 158 = .ok (.iaload, 1) := by decide +kernel
theorem d_Ref_paged_159 : decode b_Ref_paged 159 = .ok (.istore 10, 2) := by decide +kernel
theorem d_Ref_paged_161 : decode b_Ref_paged 161 = .ok (.iload 10, 2) := by decide +kernel
theorem d_Ref_paged_163 : decode b_Ref_paged 163 = .ok (.iconst 3, 1) := by decide +kernel
theorem d_Ref_paged_164 : decode b_Ref_paged 164 = .ok (.iand, 1) := by decide +kernel
theorem d_Ref_paged_165 : decode b_Ref_paged 165 = .ok (.istore 11, 2) := by decide +kernel
theorem d_Ref_paged_167 : decode b_Ref_paged 167 = .ok (.iload 4, 2) := by decide +kernel
theorem d_Ref_paged_169 : decode b_Ref_paged 169 = .ok (.iload_n 3, 1) := by decide +kernel
theorem d_Ref_paged_170 : decode b_Ref_paged 170 = .ok (.ifCond .eq 8, 3) := by decide +kernel
theorem d_Ref_paged_173 : decode b_Ref_paged 173 = .ok (.bipush 29, 2) := by decide +kernel
theorem d_Ref_paged_175 : decode b_Ref_paged 175 = .ok (.goto 5, 3) := by decide +kernel
theorem d_Ref_paged_178 : decode b_Ref_paged 178 = .ok (.bipush 30, 2) := by decide +kernel
theorem d_Ref_paged_180 : decode b_Ref_paged 180 = .ok (.invokestatic 28, 3) := by decide +kernel
theorem d_Ref_paged_183 : decode b_Ref_paged 183 = .ok (.istore 12, 2) := by decide +kernel
theorem d_Ref_paged_185 : decode b_Ref_paged 185 = .ok (.iload 12, 2) := by decide +kernel
theorem d_Ref_paged_187 : decode b_Ref_paged 187 = .ok (.ifCond .eq 8, 3) := by decide +kernel
theorem d_Ref_paged_190 : decode b_Ref_paged 190 = .ok (.iload 11, 2) := by decide +kernel
theorem d_Ref_paged_192 : decode b_Ref_paged 192 = .ok (.ifCond .eq 25, 3) := by decide +kernel
theorem d_Ref_paged_195 : decode b_Ref_paged 195 = .ok (.iload_n 2, 1) := by decide +kernel
theorem d_Ref_paged_196 : decode b_Ref_paged 196 = .ok (.iconst 2, 1) := by decide +kernel
theorem d_Ref_paged_197 : decode b_Ref_paged 197 = .ok (.if_icmp .ne 28, 3) := by decide +kernel
theorem d_Ref_paged_200 : decode b_Ref_paged 200 = .ok (.iload 11, 2) := by decide +kernel
theorem d_Ref_paged_202 : decode b_Ref_paged 202 = .ok (.iconst 3, 1) := by decide +kernel
theorem d_Ref_paged_203 : decode b_Ref_paged 203 = .ok (.if_icmp .eq 14, 3) := by decide +kernel
theorem d_Ref_paged_206 : decode b_Ref_paged 206 = .ok (.iload 12, 2) := by decide +kernel
theorem d_Ref_paged_208 : decode b_Ref_paged 208 = .ok (.ifCond .eq 17, 3) := by decide +kernel
theorem d_Ref_paged_211 : decode b_Ref_paged 211 = .ok (.iload 11, 2) := by decide +kernel
theorem d_Ref_paged_213 : decode b_Ref_paged 213 = .ok (.iconst 1, 1) := by decide +kernel
theorem d_Ref_paged_214 : decode b_Ref_paged 214 = .ok (.if_icmp .ne 11, 3) := by decide +kernel
theorem d_Ref_paged_217 : decode b_Ref_paged 217 = .ok (.aload_n 0, 1) := by decide +kernel
theorem d_Ref_paged_218 : decode b_Ref_paged 218 = .ok (.bipush (-2), 2) := by decide +kernel
theorem d_Ref_paged_220 : decode b_Ref_paged 220 = .ok (.putfield 21, 3) := by decide +kernel
theorem d_Ref_paged_223 : decode b_Ref_paged 223 = .ok (.iconst 0, 1) := by decide +kernel
theorem d_Ref_paged_224 : decode b_Ref_paged 224 = .ok (.ireturn, 1) := by decide +kernel
theorem d_Ref_paged_225 : decode b_Ref_paged 225 = .ok (.aload_n 0, 1) := by decide +kernel
theorem d_Ref_paged_226 : decode b_Ref_paged 226 = .ok (.iload 9, 2) := by decide +kernel
theorem d_Ref_paged_228 : decode b_Ref_paged 228 = .ok (.iconst 1, 1) := by decide +kernel
theorem d_Ref_paged_229 : decode b_Ref_paged 229 = .ok (.iadd, 1) := by decide +kernel
theorem d_Ref_paged_230 : decode b_Ref_paged 230 = .ok (.putfield 25, 3) := by decide +kernel
theorem d_Ref_paged_233 : decode b_Ref_paged 233 = .ok (.iload 10, 2) := by decide +kernel
theorem d_Ref_paged_235 : decode b_Ref_paged 235 = .ok (.sipush (-4096), 3) := by decide +kernel
theorem d_Ref_paged_238 : decode b_Ref_paged 238 = .ok (.iand, 1) := by decide +kernel
theorem d_Ref_paged_239 : decode b_Ref_paged 239 = .ok (.iload_n 1, 1) := by decide +kernel
theorem d_Ref_paged_240 : decode b_Ref_paged 240 = .ok (.sipush 4095, 3) := by decide +kernel
theorem d_Ref_paged_243 : decode b_Ref_paged 243 = .ok (.iand, 1) := by decide +kernel
theorem d_Ref_paged_244 : decode b_Ref_paged 244 = .ok (.ior, 1) := by decide +kernel
theorem d_Ref_paged_245 : decode b_Ref_paged 245 = .ok (.ireturn, 1) := by decide +kernel
def f_Ref_paged (p0 : Int32) (p1 : Int32) (p2 : Int32) (rs : Nat → Int32) (rm : Nat → Int32) (rr : Int32) (re : Int32) : Int32 × Int32 × Int32 :=
  if (f_Ref_bit (rs (ix ((32 : Int32) + (ush p0 (28 : Int32))))) (31 : Int32)) = (0 : Int32) then
    if p1 = (0 : Int32) then
      if (f_Ref_bit (rs (ix ((32 : Int32) + (ush p0 (28 : Int32))))) (28 : Int32)) = (0 : Int32) then
        if (0 : Int32) ≤ (f_Ref_search ((((rs (ix ((32 : Int32) + (ush p0 (28 : Int32))))) &&& (16777215 : Int32)) &&& (524287 : Int32)) ^^^ ((ush p0 (12 : Int32)) &&& (65535 : Int32))) (((-2147483648 : Int32) + ((128 : Int32) * ((rs (ix ((32 : Int32) + (ush p0 (28 : Int32))))) &&& (16777215 : Int32)))) + (ush ((ush p0 (12 : Int32)) &&& (65535 : Int32)) (10 : Int32))) rs rm) then
          if (f_Ref_bit (rs (ix ((32 : Int32) + (ush p0 (28 : Int32))))) (if p2 = (0 : Int32) then (30 : Int32) else (29 : Int32))) = (0 : Int32) then
            if p1 = (2 : Int32) then
              if ((rm (ix ((f_Ref_search ((((rs (ix ((32 : Int32) + (ush p0 (28 : Int32))))) &&& (16777215 : Int32)) &&& (524287 : Int32)) ^^^ ((ush p0 (12 : Int32)) &&& (65535 : Int32))) (((-2147483648 : Int32) + ((128 : Int32) * ((rs (ix ((32 : Int32) + (ush p0 (28 : Int32))))) &&& (16777215 : Int32)))) + (ush ((ush p0 (12 : Int32)) &&& (65535 : Int32)) (10 : Int32))) rs rm) + (1 : Int32)))) &&& (3 : Int32)) = (3 : Int32) then
                ((0 : Int32), (-2 : Int32), re)
              else
                ((((rm (ix ((f_Ref_search ((((rs (ix ((32 : Int32) + (ush p0 (28 : Int32))))) &&& (16777215 : Int32)) &&& (524287 : Int32)) ^^^ ((ush p0 (12 : Int32)) &&& (65535 : Int32))) (((-2147483648 : Int32) + ((128 : Int32) * ((rs (ix ((32 : Int32) + (ush p0 (28 : Int32))))) &&& (16777215 : Int32)))) + (ush ((ush p0 (12 : Int32)) &&& (65535 : Int32)) (10 : Int32))) rs rm) + (1 : Int32)))) &&& (-4096 : Int32)) ||| (p0 &&& (4095 : Int32))), rr, ((f_Ref_search ((((rs (ix ((32 : Int32) + (ush p0 (28 : Int32))))) &&& (16777215 : Int32)) &&& (524287 : Int32)) ^^^ ((ush p0 (12 : Int32)) &&& (65535 : Int32))) (((-2147483648 : Int32) + ((128 : Int32) * ((rs (ix ((32 : Int32) + (ush p0 (28 : Int32))))) &&& (16777215 : Int32)))) + (ush ((ush p0 (12 : Int32)) &&& (65535 : Int32)) (10 : Int32))) rs rm) + (1 : Int32)))
            else
              ((((rm (ix ((f_Ref_search ((((rs (ix ((32 : Int32) + (ush p0 (28 : Int32))))) &&& (16777215 : Int32)) &&& (524287 : Int32)) ^^^ ((ush p0 (12 : Int32)) &&& (65535 : Int32))) (((-2147483648 : Int32) + ((128 : Int32) * ((rs (ix ((32 : Int32) + (ush p0 (28 : Int32))))) &&& (16777215 : Int32)))) + (ush ((ush p0 (12 : Int32)) &&& (65535 : Int32)) (10 : Int32))) rs rm) + (1 : Int32)))) &&& (-4096 : Int32)) ||| (p0 &&& (4095 : Int32))), rr, ((f_Ref_search ((((rs (ix ((32 : Int32) + (ush p0 (28 : Int32))))) &&& (16777215 : Int32)) &&& (524287 : Int32)) ^^^ ((ush p0 (12 : Int32)) &&& (65535 : Int32))) (((-2147483648 : Int32) + ((128 : Int32) * ((rs (ix ((32 : Int32) + (ush p0 (28 : Int32))))) &&& (16777215 : Int32)))) + (ush ((ush p0 (12 : Int32)) &&& (65535 : Int32)) (10 : Int32))) rs rm) + (1 : Int32)))
          else
            if ((rm (ix ((f_Ref_search ((((rs (ix ((32 : Int32) + (ush p0 (28 : Int32))))) &&& (16777215 : Int32)) &&& (524287 : Int32)) ^^^ ((ush p0 (12 : Int32)) &&& (65535 : Int32))) (((-2147483648 : Int32) + ((128 : Int32) * ((rs (ix ((32 : Int32) + (ush p0 (28 : Int32))))) &&& (16777215 : Int32)))) + (ush ((ush p0 (12 : Int32)) &&& (65535 : Int32)) (10 : Int32))) rs rm) + (1 : Int32)))) &&& (3 : Int32)) = (0 : Int32) then
              ((0 : Int32), (-2 : Int32), re)
            else
              if p1 = (2 : Int32) then
                if ((rm (ix ((f_Ref_search ((((rs (ix ((32 : Int32) + (ush p0 (28 : Int32))))) &&& (16777215 : Int32)) &&& (524287 : Int32)) ^^^ ((ush p0 (12 : Int32)) &&& (65535 : Int32))) (((-2147483648 : Int32) + ((128 : Int32) * ((rs (ix ((32 : Int32) + (ush p0 (28 : Int32))))) &&& (16777215 : Int32)))) + (ush ((ush p0 (12 : Int32)) &&& (65535 : Int32)) (10 : Int32))) rs rm) + (1 : Int32)))) &&& (3 : Int32)) = (3 : Int32) then
                  ((0 : Int32), (-2 : Int32), re)
                else
                  if ((rm (ix ((f_Ref_search ((((rs (ix ((32 : Int32) + (ush p0 (28 : Int32))))) &&& (16777215 : Int32)) &&& (524287 : Int32)) ^^^ ((ush p0 (12 : Int32)) &&& (65535 : Int32))) (((-2147483648 : Int32) + ((128 : Int32) * ((rs (ix ((32 : Int32) + (ush p0 (28 : Int32))))) &&& (16777215 : Int32)))) + (ush ((ush p0 (12 : Int32)) &&& (65535 : Int32)) (10 : Int32))) rs rm) + (1 : Int32)))) &&& (3 : Int32)) = (1 : Int32) then
                    ((0 : Int32), (-2 : Int32), re)
                  else
                    ((((rm (ix ((f_Ref_search ((((rs (ix ((32 : Int32) + (ush p0 (28 : Int32))))) &&& (16777215 : Int32)) &&& (524287 : Int32)) ^^^ ((ush p0 (12 : Int32)) &&& (65535 : Int32))) (((-2147483648 : Int32) + ((128 : Int32) * ((rs (ix ((32 : Int32) + (ush p0 (28 : Int32))))) &&& (16777215 : Int32)))) + (ush ((ush p0 (12 : Int32)) &&& (65535 : Int32)) (10 : Int32))) rs rm) + (1 : Int32)))) &&& (-4096 : Int32)) ||| (p0 &&& (4095 : Int32))), rr, ((f_Ref_search ((((rs (ix ((32 : Int32) + (ush p0 (28 : Int32))))) &&& (16777215 : Int32)) &&& (524287 : Int32)) ^^^ ((ush p0 (12 : Int32)) &&& (65535 : Int32))) (((-2147483648 : Int32) + ((128 : Int32) * ((rs (ix ((32 : Int32) + (ush p0 (28 : Int32))))) &&& (16777215 : Int32)))) + (ush ((ush p0 (12 : Int32)) &&& (65535 : Int32)) (10 : Int32))) rs rm) + (1 : Int32)))
              else
                ((((rm (ix ((f_Ref_search ((((rs (ix ((32 : Int32) + (ush p0 (28 : Int32))))) &&& (16777215 : Int32)) &&& (524287 : Int32)) ^^^ ((ush p0 (12 : Int32)) &&& (65535 : Int32))) (((-2147483648 : Int32) + ((128 : Int32) * ((rs (ix ((32 : Int32) + (ush p0 (28 : Int32))))) &&& (16777215 : Int32)))) + (ush ((ush p0 (12 : Int32)) &&& (65535 : Int32)) (10 : Int32))) rs rm) + (1 : Int32)))) &&& (-4096 : Int32)) ||| (p0 &&& (4095 : Int32))), rr, ((f_Ref_search ((((rs (ix ((32 : Int32) + (ush p0 (28 : Int32))))) &&& (16777215 : Int32)) &&& (524287 : Int32)) ^^^ ((ush p0 (12 : Int32)) &&& (65535 : Int32))) (((-2147483648 : Int32) + ((128 : Int32) * ((rs (ix ((32 : Int32) + (ush p0 (28 : Int32))))) &&& (16777215 : Int32)))) + (ush ((ush p0 (12 : Int32)) &&& (65535 : Int32)) (10 : Int32))) rs rm) + (1 : Int32)))
        else
          if (0 : Int32) ≤ (f_Ref_search (((((rs (ix ((32 : Int32) + (ush p0 (28 : Int32))))) &&& (16777215 : Int32)) &&& (524287 : Int32)) ^^^ ((ush p0 (12 : Int32)) &&& (65535 : Int32))) ^^^ (-1 : Int32)) ((((-2147483648 : Int32) + ((128 : Int32) * ((rs (ix ((32 : Int32) + (ush p0 (28 : Int32))))) &&& (16777215 : Int32)))) + (ush ((ush p0 (12 : Int32)) &&& (65535 : Int32)) (10 : Int32))) + (64 : Int32)) rs rm) then
            if (f_Ref_bit (rs (ix ((32 : Int32) + (ush p0 (28 : Int32))))) (if p2 = (0 : Int32) then (30 : Int32) else (29 : Int32))) = (0 : Int32) then
              if p1 = (2 : Int32) then
                if ((rm (ix ((f_Ref_search (((((rs (ix ((32 : Int32) + (ush p0 (28 : Int32))))) &&& (16777215 : Int32)) &&& (524287 : Int32)) ^^^ ((ush p0 (12 : Int32)) &&& (65535 : Int32))) ^^^ (-1 : Int32)) ((((-2147483648 : Int32) + ((128 : Int32) * ((rs (ix ((32 : Int32) + (ush p0 (28 : Int32))))) &&& (16777215 : Int32)))) + (ush ((ush p0 (12 : Int32)) &&& (65535 : Int32)) (10 : Int32))) + (64 : Int32)) rs rm) + (1 : Int32)))) &&& (3 : Int32)) = (3 : Int32) then
                  ((0 : Int32), (-2 : Int32), re)
                else
                  ((((rm (ix ((f_Ref_search (((((rs (ix ((32 : Int32) + (ush p0 (28 : Int32))))) &&& (16777215 : Int32)) &&& (524287 : Int32)) ^^^ ((ush p0 (12 : Int32)) &&& (65535 : Int32))) ^^^ (-1 : Int32)) ((((-2147483648 : Int32) + ((128 : Int32) * ((rs (ix ((32 : Int32) + (ush p0 (28 : Int32))))) &&& (16777215 : Int32)))) + (ush ((ush p0 (12 : Int32)) &&& (65535 : Int32)) (10 : Int32))) + (64 : Int32)) rs rm) + (1 : Int32)))) &&& (-4096 : Int32)) ||| (p0 &&& (4095 : Int32))), rr, ((f_Ref_search (((((rs (ix ((32 : Int32) + (ush p0 (28 : Int32))))) &&& (16777215 : Int32)) &&& (524287 : Int32)) ^^^ ((ush p0 (12 : Int32)) &&& (65535 : Int32))) ^^^ (-1 : Int32)) ((((-2147483648 : Int32) + ((128 : Int32) * ((rs (ix ((32 : Int32) + (ush p0 (28 : Int32))))) &&& (16777215 : Int32)))) + (ush ((ush p0 (12 : Int32)) &&& (65535 : Int32)) (10 : Int32))) + (64 : Int32)) rs rm) + (1 : Int32)))
              else
                ((((rm (ix ((f_Ref_search (((((rs (ix ((32 : Int32) + (ush p0 (28 : Int32))))) &&& (16777215 : Int32)) &&& (524287 : Int32)) ^^^ ((ush p0 (12 : Int32)) &&& (65535 : Int32))) ^^^ (-1 : Int32)) ((((-2147483648 : Int32) + ((128 : Int32) * ((rs (ix ((32 : Int32) + (ush p0 (28 : Int32))))) &&& (16777215 : Int32)))) + (ush ((ush p0 (12 : Int32)) &&& (65535 : Int32)) (10 : Int32))) + (64 : Int32)) rs rm) + (1 : Int32)))) &&& (-4096 : Int32)) ||| (p0 &&& (4095 : Int32))), rr, ((f_Ref_search (((((rs (ix ((32 : Int32) + (ush p0 (28 : Int32))))) &&& (16777215 : Int32)) &&& (524287 : Int32)) ^^^ ((ush p0 (12 : Int32)) &&& (65535 : Int32))) ^^^ (-1 : Int32)) ((((-2147483648 : Int32) + ((128 : Int32) * ((rs (ix ((32 : Int32) + (ush p0 (28 : Int32))))) &&& (16777215 : Int32)))) + (ush ((ush p0 (12 : Int32)) &&& (65535 : Int32)) (10 : Int32))) + (64 : Int32)) rs rm) + (1 : Int32)))
            else
              if ((rm (ix ((f_Ref_search (((((rs (ix ((32 : Int32) + (ush p0 (28 : Int32))))) &&& (16777215 : Int32)) &&& (524287 : Int32)) ^^^ ((ush p0 (12 : Int32)) &&& (65535 : Int32))) ^^^ (-1 : Int32)) ((((-2147483648 : Int32) + ((128 : Int32) * ((rs (ix ((32 : Int32) + (ush p0 (28 : Int32))))) &&& (16777215 : Int32)))) + (ush ((ush p0 (12 : Int32)) &&& (65535 : Int32)) (10 : Int32))) + (64 : Int32)) rs rm) + (1 : Int32)))) &&& (3 : Int32)) = (0 : Int32) then
                ((0 : Int32), (-2 : Int32), re)
              else
                if p1 = (2 : Int32) then
                  if ((rm (ix ((f_Ref_search (((((rs (ix ((32 : Int32) + (ush p0 (28 : Int32))))) &&& (16777215 : Int32)) &&& (524287 : Int32)) ^^^ ((ush p0 (12 : Int32)) &&& (65535 : Int32))) ^^^ (-1 : Int32)) ((((-2147483648 : Int32) + ((128 : Int32) * ((rs (ix ((32 : Int32) + (ush p0 (28 : Int32))))) &&& (16777215 : Int32)))) + (ush ((ush p0 (12 : Int32)) &&& (65535 : Int32)) (10 : Int32))) + (64 : Int32)) rs rm) + (1 : Int32)))) &&& (3 : Int32)) = (3 : Int32) then
                    ((0 : Int32), (-2 : Int32), re)
                  else
                    if ((rm (ix ((f_Ref_search (((((rs (ix ((32 : Int32) + (ush p0 (28 : Int32))))) &&& (16777215 : Int32)) &&& (524287 : Int32)) ^^^ ((ush p0 (12 : Int32)) &&& (65535 : Int32))) ^^^ (-1 : Int32)) ((((-2147483648 : Int32) + ((128 : Int32) * ((rs (ix ((32 : Int32) + (ush p0 (28 : Int32))))) &&& (16777215 : Int32)))) + (ush ((ush p0 (12 : Int32)) &&& (65535 : Int32)) (10 : Int32))) + (64 : Int32)) rs rm) + (1 : Int32)))) &&& (3 : Int32)) = (1 : Int32) then
                      ((0 : Int32), (-2 : Int32), re)
                    else
                      ((((rm (ix ((f_Ref_search (((((rs (ix ((32 : Int32) + (ush p0 (28 : Int32))))) &&& (16777215 : Int32)) &&& (524287 : Int32)) ^^^ ((ush p0 (12 : Int32)) &&& (65535 : Int32))) ^^^ (-1 : Int32)) ((((-2147483648 : Int32) + ((128 : Int32) * ((rs (ix ((32 : Int32) + (ush p0 (28 : Int32))))) &&& (16777215 : Int32)))) + (ush ((ush p0 (12 : Int32)) &&& (65535 : Int32)) (10 : Int32))) + (64 : Int32)) rs rm) + (1 : Int32)))) &&& (-4096 : Int32)) ||| (p0 &&& (4095 : Int32))), rr, ((f_Ref_search (((((rs (ix ((32 : Int32) + (ush p0 (28 : Int32))))) &&& (16777215 : Int32)) &&& (524287 : Int32)) ^^^ ((ush p0 (12 : Int32)) &&& (65535 : Int32))) ^^^ (-1 : Int32)) ((((-2147483648 : Int32) + ((128 : Int32) * ((rs (ix ((32 : Int32) + (ush p0 (28 : Int32))))) &&& (16777215 : Int32)))) + (ush ((ush p0 (12 : Int32)) &&& (65535 : Int32)) (10 : Int32))) + (64 : Int32)) rs rm) + (1 : Int32)))
                else
                  ((((rm (ix ((f_Ref_search (((((rs (ix ((32 : Int32) + (ush p0 (28 : Int32))))) &&& (16777215 : Int32)) &&& (524287 : Int32)) ^^^ ((ush p0 (12 : Int32)) &&& (65535 : Int32))) ^^^ (-1 : Int32)) ((((-2147483648 : Int32) + ((128 : Int32) * ((rs (ix ((32 : Int32) + (ush p0 (28 : Int32))))) &&& (16777215 : Int32)))) + (ush ((ush p0 (12 : Int32)) &&& (65535 : Int32)) (10 : Int32))) + (64 : Int32)) rs rm) + (1 : Int32)))) &&& (-4096 : Int32)) ||| (p0 &&& (4095 : Int32))), rr, ((f_Ref_search (((((rs (ix ((32 : Int32) + (ush p0 (28 : Int32))))) &&& (16777215 : Int32)) &&& (524287 : Int32)) ^^^ ((ush p0 (12 : Int32)) &&& (65535 : Int32))) ^^^ (-1 : Int32)) ((((-2147483648 : Int32) + ((128 : Int32) * ((rs (ix ((32 : Int32) + (ush p0 (28 : Int32))))) &&& (16777215 : Int32)))) + (ush ((ush p0 (12 : Int32)) &&& (65535 : Int32)) (10 : Int32))) + (64 : Int32)) rs rm) + (1 : Int32)))
          else
            ((0 : Int32), (-1 : Int32), re)
      else
        ((0 : Int32), (-3 : Int32), re)
    else
      if (0 : Int32) ≤ (f_Ref_search ((((rs (ix ((32 : Int32) + (ush p0 (28 : Int32))))) &&& (16777215 : Int32)) &&& (524287 : Int32)) ^^^ ((ush p0 (12 : Int32)) &&& (65535 : Int32))) (((-2147483648 : Int32) + ((128 : Int32) * ((rs (ix ((32 : Int32) + (ush p0 (28 : Int32))))) &&& (16777215 : Int32)))) + (ush ((ush p0 (12 : Int32)) &&& (65535 : Int32)) (10 : Int32))) rs rm) then
        if (f_Ref_bit (rs (ix ((32 : Int32) + (ush p0 (28 : Int32))))) (if p2 = (0 : Int32) then (30 : Int32) else (29 : Int32))) = (0 : Int32) then
          if p1 = (2 : Int32) then
            if ((rm (ix ((f_Ref_search ((((rs (ix ((32 : Int32) + (ush p0 (28 : Int32))))) &&& (16777215 : Int32)) &&& (524287 : Int32)) ^^^ ((ush p0 (12 : Int32)) &&& (65535 : Int32))) (((-2147483648 : Int32) + ((128 : Int32) * ((rs (ix ((32 : Int32) + (ush p0 (28 : Int32))))) &&& (16777215 : Int32)))) + (ush ((ush p0 (12 : Int32)) &&& (65535 : Int32)) (10 : Int32))) rs rm) + (1 : Int32)))) &&& (3 : Int32)) = (3 : Int32) then
              ((0 : Int32), (-2 : Int32), re)
            else
              ((((rm (ix ((f_Ref_search ((((rs (ix ((32 : Int32) + (ush p0 (28 : Int32))))) &&& (16777215 : Int32)) &&& (524287 : Int32)) ^^^ ((ush p0 (12 : Int32)) &&& (65535 : Int32))) (((-2147483648 : Int32) + ((128 : Int32) * ((rs (ix ((32 : Int32) + (ush p0 (28 : Int32))))) &&& (16777215 : Int32)))) + (ush ((ush p0 (12 : Int32)) &&& (65535 : Int32)) (10 : Int32))) rs rm) + (1 : Int32)))) &&& (-4096 : Int32)) ||| (p0 &&& (4095 : Int32))), rr, ((f_Ref_search ((((rs (ix ((32 : Int32) + (ush p0 (28 : Int32))))) &&& (16777215 : Int32)) &&& (524287 : Int32)) ^^^ ((ush p0 (12 : Int32)) &&& (65535 : Int32))) (((-2147483648 : Int32) + ((128 : Int32) * ((rs (ix ((32 : Int32) + (ush p0 (28 : Int32))))) &&& (16777215 : Int32)))) + (ush ((ush p0 (12 : Int32)) &&& (65535 : Int32)) (10 : Int32))) rs rm) + (1 : Int32)))
          else
            ((((rm (ix ((f_Ref_search ((((rs (ix ((32 : Int32) + (ush p0 (28 : Int32))))) &&& (16777215 : Int32)) &&& (524287 : Int32)) ^^^ ((ush p0 (12 : Int32)) &&& (65535 : Int32))) (((-2147483648 : Int32) + ((128 : Int32) * ((rs (ix ((32 : Int32) + (ush p0 (28 : Int32))))) &&& (16777215 : Int32)))) + (ush ((ush p0 (12 : Int32)) &&& (65535 : Int32)) (10 : Int32))) rs rm) + (1 : Int32)))) &&& (-4096 : Int32)) ||| (p0 &&& (4095 : Int32))), rr, ((f_Ref_search ((((rs (ix ((32 : Int32) + (ush p0 (28 : Int32))))) &&& (16777215 : Int32)) &&& (524287 : Int32)) ^^^ ((ush p0 (12 : Int32)) &&& (65535 : Int32))) (((-2147483648 : Int32) + ((128 : Int32) * ((rs (ix ((32 : Int32) + (ush p0 (28 : Int32))))) &&& (16777215 : Int32)))) + (ush ((ush p0 (12 : Int32)) &&& (65535 : Int32)) (10 : Int32))) rs rm) + (1 : Int32)))
        else
          if ((rm (ix ((f_Ref_search ((((rs (ix ((32 : Int32) + (ush p0 (28 : Int32))))) &&& (16777215 : Int32)) &&& (524287 : Int32)) ^^^ ((ush p0 (12 : Int32)) &&& (65535 : Int32))) (((-2147483648 : Int32) + ((128 : Int32) * ((rs (ix ((32 : Int32) + (ush p0 (28 : Int32))))) &&& (16777215 : Int32)))) + (ush ((ush p0 (12 : Int32)) &&& (65535 : Int32)) (10 : Int32))) rs rm) + (1 : Int32)))) &&& (3 : Int32)) = (0 : Int32) then
            ((0 : Int32), (-2 : Int32), re)
          else
            if p1 = (2 : Int32) then
              if ((rm (ix ((f_Ref_search ((((rs (ix ((32 : Int32) + (ush p0 (28 : Int32))))) &&& (16777215 : Int32)) &&& (524287 : Int32)) ^^^ ((ush p0 (12 : Int32)) &&& (65535 : Int32))) (((-2147483648 : Int32) + ((128 : Int32) * ((rs (ix ((32 : Int32) + (ush p0 (28 : Int32))))) &&& (16777215 : Int32)))) + (ush ((ush p0 (12 : Int32)) &&& (65535 : Int32)) (10 : Int32))) rs rm) + (1 : Int32)))) &&& (3 : Int32)) = (3 : Int32) then
                ((0 : Int32), (-2 : Int32), re)
              else
                if ((rm (ix ((f_Ref_search ((((rs (ix ((32 : Int32) + (ush p0 (28 : Int32))))) &&& (16777215 : Int32)) &&& (524287 : Int32)) ^^^ ((ush p0 (12 : Int32)) &&& (65535 : Int32))) (((-2147483648 : Int32) + ((128 : Int32) * ((rs (ix ((32 : Int32) + (ush p0 (28 : Int32))))) &&& (16777215 : Int32)))) + (ush ((ush p0 (12 : Int32)) &&& (65535 : Int32)) (10 : Int32))) rs rm) + (1 : Int32)))) &&& (3 : Int32)) = (1 : Int32) then
                  ((0 : Int32), (-2 : Int32), re)
                else
                  ((((rm (ix ((f_Ref_search ((((rs (ix ((32 : Int32) + (ush p0 (28 : Int32))))) &&& (16777215 : Int32)) &&& (524287 : Int32)) ^^^ ((ush p0 (12 : Int32)) &&& (65535 : Int32))) (((-2147483648 : Int32) + ((128 : Int32) * ((rs (ix ((32 : Int32) + (ush p0 (28 : Int32))))) &&& (16777215 : Int32)))) + (ush ((ush p0 (12 : Int32)) &&& (65535 : Int32)) (10 : Int32))) rs rm) + (1 : Int32)))) &&& (-4096 : Int32)) ||| (p0 &&& (4095 : Int32))), rr, ((f_Ref_search ((((rs (ix ((32 : Int32) + (ush p0 (28 : Int32))))) &&& (16777215 : Int32)) &&& (524287 : Int32)) ^^^ ((ush p0 (12 : Int32)) &&& (65535 : Int32))) (((-2147483648 : Int32) + ((128 : Int32) * ((rs (ix ((32 : Int32) + (ush p0 (28 : Int32))))) &&& (16777215 : Int32)))) + (ush ((ush p0 (12 : Int32)) &&& (65535 : Int32)) (10 : Int32))) rs rm) + (1 : Int32)))
            else
              ((((rm (ix ((f_Ref_search ((((rs (ix ((32 : Int32) + (ush p0 (28 : Int32))))) &&& (16777215 : Int32)) &&& (524287 : Int32)) ^^^ ((ush p0 (12 : Int32)) &&& (65535 : Int32))) (((-2147483648 : Int32) + ((128 : Int32) * ((rs (ix ((32 : Int32) + (ush p0 (28 : Int32))))) &&& (16777215 : Int32)))) + (ush ((ush p0 (12 : Int32)) &&& (65535 : Int32)) (10 : Int32))) rs rm) + (1 : Int32)))) &&& (-4096 : Int32)) ||| (p0 &&& (4095 : Int32))), rr, ((f_Ref_search ((((rs (ix ((32 : Int32) + (ush p0 (28 : Int32))))) &&& (16777215 : Int32)) &&& (524287 : Int32)) ^^^ ((ush p0 (12 : Int32)) &&& (65535 : Int32))) (((-2147483648 : Int32) + ((128 : Int32) * ((rs (ix ((32 : Int32) + (ush p0 (28 : Int32))))) &&& (16777215 : Int32)))) + (ush ((ush p0 (12 : Int32)) &&& (65535 : Int32)) (10 : Int32))) rs rm) + (1 : Int32)))
      else
        if (0 : Int32) ≤ (f_Ref_search (((((rs (ix ((32 : Int32) + (ush p0 (28 : Int32))))) &&& (16777215 : Int32)) &&& (524287 : Int32)) ^^^ ((ush p0 (12 : Int32)) &&& (65535 : Int32))) ^^^ (-1 : Int32)) ((((-2147483648 : Int32) + ((128 : Int32) * ((rs (ix ((32 : Int32) + (ush p0 (28 : Int32))))) &&& (16777215 : Int32)))) + (ush ((ush p0 (12 : Int32)) &&& (65535 : Int32)) (10 : Int32))) + (64 : Int32)) rs rm) then
          if (f_Ref_bit (rs (ix ((32 : Int32) + (ush p0 (28 : Int32))))) (if p2 = (0 : Int32) then (30 : Int32) else (29 : Int32))) = (0 : Int32) then
            if p1 = (2 : Int32) then
              if ((rm (ix ((f_Ref_search (((((rs (ix ((32 : Int32) + (ush p0 (28 : Int32))))) &&& (16777215 : Int32)) &&& (524287 : Int32)) ^^^ ((ush p0 (12 : Int32)) &&& (65535 : Int32))) ^^^ (-1 : Int32)) ((((-2147483648 : Int32) + ((128 : Int32) * ((rs (ix ((32 : Int32) + (ush p0 (28 : Int32))))) &&& (16777215 : Int32)))) + (ush ((ush p0 (12 : Int32)) &&& (65535 : Int32)) (10 : Int32))) + (64 : Int32)) rs rm) + (1 : Int32)))) &&& (3 : Int32)) = (3 : Int32) then
                ((0 : Int32), (-2 : Int32), re)
              else
                ((((rm (ix ((f_Ref_search (((((rs (ix ((32 : Int32) + (ush p0 (28 : Int32))))) &&& (16777215 : Int32)) &&& (524287 : Int32)) ^^^ ((ush p0 (12 : Int32)) &&& (65535 : Int32))) ^^^ (-1 : Int32)) ((((-2147483648 : Int32) + ((128 : Int32) * ((rs (ix ((32 : Int32) + (ush p0 (28 : Int32))))) &&& (16777215 : Int32)))) + (ush ((ush p0 (12 : Int32)) &&& (65535 : Int32)) (10 : Int32))) + (64 : Int32)) rs rm) + (1 : Int32)))) &&& (-4096 : Int32)) ||| (p0 &&& (4095 : Int32))), rr, ((f_Ref_search (((((rs (ix ((32 : Int32) + (ush p0 (28 : Int32))))) &&& (16777215 : Int32)) &&& (524287 : Int32)) ^^^ ((ush p0 (12 : Int32)) &&& (65535 : Int32))) ^^^ (-1 : Int32)) ((((-2147483648 : Int32) + ((128 : Int32) * ((rs (ix ((32 : Int32) + (ush p0 (28 : Int32))))) &&& (16777215 : Int32)))) + (ush ((ush p0 (12 : Int32)) &&& (65535 : Int32)) (10 : Int32))) + (64 : Int32)) rs rm) + (1 : Int32)))
            else
              ((((rm (ix ((f_Ref_search (((((rs (ix ((32 : Int32) + (ush p0 (28 : Int32))))) &&& (16777215 : Int32)) &&& (524287 : Int32)) ^^^ ((ush p0 (12 : Int32)) &&& (65535 : Int32))) ^^^ (-1 : Int32)) ((((-2147483648 : Int32) + ((128 : Int32) * ((rs (ix ((32 : Int32) + (ush p0 (28 : Int32))))) &&& (16777215 : Int32)))) + (ush ((ush p0 (12 : Int32)) &&& (65535 : Int32)) (10 : Int32))) + (64 : Int32)) rs rm) + (1 : Int32)))) &&& (-4096 : Int32)) ||| (p0 &&& (4095 : Int32))), rr, ((f_Ref_search (((((rs (ix ((32 : Int32) + (ush p0 (28 : Int32))))) &&& (16777215 : Int32)) &&& (524287 : Int32)) ^^^ ((ush p0 (12 : Int32)) &&& (65535 : Int32))) ^^^ (-1 : Int32)) ((((-2147483648 : Int32) + ((128 : Int32) * ((rs (ix ((32 : Int32) + (ush p0 (28 : Int32))))) &&& (16777215 : Int32)))) + (ush ((ush p0 (12 : Int32)) &&& (65535 : Int32)) (10 : Int32))) + (64 : Int32)) rs rm) + (1 : Int32)))
          else
            if ((rm (ix ((f_Ref_search (((((rs (ix ((32 : Int32) + (ush p0 (28 : Int32))))) &&& (16777215 : Int32)) &&& (524287 : Int32)) ^^^ ((ush p0 (12 : Int32)) &&& (65535 : Int32))) ^^^ (-1 : Int32)) ((((-2147483648 : Int32) + ((128 : Int32) * ((rs (ix ((32 : Int32) + (ush p0 (28 : Int32))))) &&& (16777215 : Int32)))) + (ush ((ush p0 (12 : Int32)) &&& (65535 : Int32)) (10 : Int32))) + (64 : Int32)) rs rm) + (1 : Int32)))) &&& (3 : Int32)) = (0 : Int32) then
              ((0 : Int32), (-2 : Int32), re)
            else
              if p1 = (2 : Int32) then
                if ((rm (ix ((f_Ref_search (((((rs (ix ((32 : Int32) + (ush p0 (28 : Int32))))) &&& (16777215 : Int32)) &&& (524287 : Int32)) ^^^ ((ush p0 (12 : Int32)) &&& (65535 : Int32))) ^^^ (-1 : Int32)) ((((-2147483648 : Int32) + ((128 : Int32) * ((rs (ix ((32 : Int32) + (ush p0 (28 : Int32))))) &&& (16777215 : Int32)))) + (ush ((ush p0 (12 : Int32)) &&& (65535 : Int32)) (10 : Int32))) + (64 : Int32)) rs rm) + (1 : Int32)))) &&& (3 : Int32)) = (3 : Int32) then
                  ((0 : Int32), (-2 : Int32), re)
                else
                  if ((rm (ix ((f_Ref_search (((((rs (ix ((32 : Int32) + (ush p0 (28 : Int32))))) &&& (16777215 : Int32)) &&& (524287 : Int32)) ^^^ ((ush p0 (12 : Int32)) &&& (65535 : Int32))) ^^^ (-1 : Int32)) ((((-2147483648 : Int32) + ((128 : Int32) * ((rs (ix ((32 : Int32) + (ush p0 (28 : Int32))))) &&& (16777215 : Int32)))) + (ush ((ush p0 (12 : Int32)) &&& (65535 : Int32)) (10 : Int32))) + (64 : Int32)) rs rm) + (1 : Int32)))) &&& (3 : Int32)) = (1 : Int32) then
                    ((0 : Int32), (-2 : Int32), re)
                  else
                    ((((rm (ix ((f_Ref_search (((((rs (ix ((32 : Int32) + (ush p0 (28 : Int32))))) &&& (16777215 : Int32)) &&& (524287 : Int32)) ^^^ ((ush p0 (12 : Int32)) &&& (65535 : Int32))) ^^^ (-1 : Int32)) ((((-2147483648 : Int32) + ((128 : Int32) * ((rs (ix ((32 : Int32) + (ush p0 (28 : Int32))))) &&& (16777215 : Int32)))) + (ush ((ush p0 (12 : Int32)) &&& (65535 : Int32)) (10 : Int32))) + (64 : Int32)) rs rm) + (1 : Int32)))) &&& (-4096 : Int32)) ||| (p0 &&& (4095 : Int32))), rr, ((f_Ref_search (((((rs (ix ((32 : Int32) + (ush p0 (28 : Int32))))) &&& (16777215 : Int32)) &&& (524287 : Int32)) ^^^ ((ush p0 (12 : Int32)) &&& (65535 : Int32))) ^^^ (-1 : Int32)) ((((-2147483648 : Int32) + ((128 : Int32) * ((rs (ix ((32 : Int32) + (ush p0 (28 : Int32))))) &&& (16777215 : Int32)))) + (ush ((ush p0 (12 : Int32)) &&& (65535 : Int32)) (10 : Int32))) + (64 : Int32)) rs rm) + (1 : Int32)))
              else
                ((((rm (ix ((f_Ref_search (((((rs (ix ((32 : Int32) + (ush p0 (28 : Int32))))) &&& (16777215 : Int32)) &&& (524287 : Int32)) ^^^ ((ush p0 (12 : Int32)) &&& (65535 : Int32))) ^^^ (-1 : Int32)) ((((-2147483648 : Int32) + ((128 : Int32) * ((rs (ix ((32 : Int32) + (ush p0 (28 : Int32))))) &&& (16777215 : Int32)))) + (ush ((ush p0 (12 : Int32)) &&& (65535 : Int32)) (10 : Int32))) + (64 : Int32)) rs rm) + (1 : Int32)))) &&& (-4096 : Int32)) ||| (p0 &&& (4095 : Int32))), rr, ((f_Ref_search (((((rs (ix ((32 : Int32) + (ush p0 (28 : Int32))))) &&& (16777215 : Int32)) &&& (524287 : Int32)) ^^^ ((ush p0 (12 : Int32)) &&& (65535 : Int32))) ^^^ (-1 : Int32)) ((((-2147483648 : Int32) + ((128 : Int32) * ((rs (ix ((32 : Int32) + (ush p0 (28 : Int32))))) &&& (16777215 : Int32)))) + (ush ((ush p0 (12 : Int32)) &&& (65535 : Int32)) (10 : Int32))) + (64 : Int32)) rs rm) + (1 : Int32)))
        else
          ((0 : Int32), (-1 : Int32), re)
  else
    ((0 : Int32), (-1 : Int32), re)
theorem se_lt (p0 p1 : Int32) (rs rm : Nat → Int32) : f_Ref_search p0 p1 rs rm < 16383 := by
  unfold f_Ref_search
  exact lt_ite (se_k _ _ _ (by decide) (by decide)) (lt_ite (se_k _ _ _ (by decide) (by decide)) (lt_ite (se_k _ _ _ (by decide) (by decide)) (lt_ite (se_k _ _ _ (by decide) (by decide)) (lt_ite (se_k _ _ _ (by decide) (by decide)) (lt_ite (se_k _ _ _ (by decide) (by decide)) (lt_ite (se_k _ _ _ (by decide) (by decide)) (lt_ite (se_k _ _ _ (by decide) (by decide)) (by decide))))))))
def en_ok (z : Int32 × Int32 × Int32) : Prop := z.2.2 < 16384
set_option maxHeartbeats 4000000 in
set_option maxRecDepth 100000 in
theorem en_paged (p0 p1 p2 : Int32) (rs rm : Nat → Int32) (rr re : Int32) (h : re < 16384) : en_ok (f_Ref_paged p0 p1 p2 rs rm rr re) := by
  unfold f_Ref_paged
  repeat' (with_reducible refine pred_ite ?_ ?_)
  all_goals (unfold en_ok)
  all_goals (try dsimp only)
  all_goals first | with_reducible exact h | exact se_s (se_lt _ _ _ _)
theorem en_pg (p0 p1 p2 : Int32) (rs rm : Nat → Int32) : (f_Ref_paged p0 p1 p2 rs rm 0 (-1)).2.2 < 16384 := en_paged p0 p1 p2 rs rm 0 (-1) (by decide)
set_option maxHeartbeats 4000000 in
set_option maxRecDepth 100000 in
theorem c_Ref_paged (l : Launch) (D : va_G) (aT bG bS bM : Nat) (dG dS dM : ClassId) (rg : Nat → Int32) (rs : Nat → Int32) (rm : Nat → Int32) (rl : Int32) (rk : Int32) (rr : Int32) (re : Int32) (rc : Int32) (rd : Int32) (ra : Int32) (rb : Int32) (rn : Int32) (rf : Int32) (rw : Int32) (p0 : Int32) (p1 : Int32) (p2 : Int32) : kMi l y_Ref_paged b_Ref_paged 13 (some .int) 1 24 D kCl [(dG, .int), (dS, .int), (dM, .int)] [.ref aT, .int p0, .int p1, .int p2] [(aT, .inr (11, [.ref bG, .ref bS, .ref bM, .int rl, .int rk, .int rr, .int re, .int rc, .int rd, .int ra, .int rb, .int rn, .int rf, .int rw])), (bG, .inl (dG, 32, .inl rg)), (bS, .inl (dS, 48, .inl rs)), (bM, .inl (dM, 16384, .inl rm))] (f_Ref_paged p0 p1 p2 rs rm rr re).1 [(aT, .inr (11, [.ref bG, .ref bS, .ref bM, .int rl, .int rk, .int (f_Ref_paged p0 p1 p2 rs rm rr re).2.1, .int (f_Ref_paged p0 p1 p2 rs rm rr re).2.2, .int rc, .int rd, .int ra, .int rb, .int rn, .int rf, .int rw])), (bG, .inl (dG, 32, .inl rg)), (bS, .inl (dS, 48, .inl rs)), (bM, .inl (dM, 16384, .inl rm))] := by
  refine k_entry (Qc := fun A => kQi D kCl [(dG, .int), (dS, .int), (dM, .int)] (f_Ref_paged p0 p1 p2 rs rm rr re).1 [(aT, .inr (11, [.ref bG, .ref bS, .ref bM, .int rl, .int rk, .int (f_Ref_paged p0 p1 p2 rs rm rr re).2.1, .int (f_Ref_paged p0 p1 p2 rs rm rr re).2.2, .int rc, .int rd, .int ra, .int rb, .int rn, .int rf, .int rw])), (bG, .inl (dG, 32, .inl rg)), (bS, .inl (dS, 48, .inl rs)), (bM, .inl (dM, 16384, .inl rm))] A) (lv := [(0, .ref aT), (1, .int p0), (2, .int p1), (3, .int p2)]) (by decide) (Nat.le_of_ble_eq_true rfl) rfl ?_
  intro p e s m below meth c A ls hx hb hr hml hB hown hlocks hin hA hK hN hP hD hS hl
  have hown : s.vm.findClass "MappedProcessorModel" = some m.cls := hown
  refine lv_aload_n hx hb d_Ref_paged_0 rfl (lv_at hl 0 rfl) ?_
  refine va_get (D := D) (ci := 11) (v := .ref bS) (C := "MappedProcessorModel") (T := T_Ref) (N := 14) hx hb hB iw_Ref hown hK hP 0 rfl rfl 1 (by decide) (hB _ mw_644) (fun _ h9 => h9) rfl d_Ref_paged_1 ?_
  refine lv_bipush (v := (32 : Int32)) hx hb d_Ref_paged_4 (by decide) ?_
  refine lv_iload_n hx hb d_Ref_paged_6 rfl (lv_at hl 1 rfl) ?_
  refine lv_bipush (v := (28 : Int32)) hx hb d_Ref_paged_7 (by decide) ?_
  refine lv_iushr (v := (ush p0 (28 : Int32))) hx hb d_Ref_paged_9 rfl ?_
  refine lv_iadd hx hb d_Ref_paged_10 ?_
  refine k_iald (j := (ix ((32 : Int32) + (ush p0 (28 : Int32))))) hx hb hK hP 2 1 rfl rfl rfl (ix_seg2 _) d_Ref_paged_11 ?_
  refine lv_istore (lv' := [(4, .int (rs (ix ((32 : Int32) + (ush p0 (28 : Int32)))))), (0, .ref aT), (1, .int p0), (2, .int p1), (3, .int p2)]) hx hb d_Ref_paged_12 hl (by decide) rfl (fun ls hl => ?_)
  refine lv_iload hx hb d_Ref_paged_14 (lv_at hl 0 rfl) ?_
  refine lv_bipush (v := (31 : Int32)) hx hb d_Ref_paged_16 (by decide) ?_
  refine k_cSi (As := [.int (rs (ix ((32 : Int32) + (ush p0 (28 : Int32))))), .int (31 : Int32)]) (rest := []) (wr := [(aT, .inr (11, [.ref bG, .ref bS, .ref bM, .int rl, .int rk, .int rr, .int re, .int rc, .int rd, .int ra, .int rb, .int rn, .int rf, .int rw])), (bG, .inl (dG, 32, .inl rg)), (bS, .inl (dS, 48, .inl rs)), (bM, .inl (dM, 16384, .inl rm))]) (wj := [(aT, .inr (11, [.ref bG, .ref bS, .ref bM, .int rl, .int rk, .int rr, .int re, .int rc, .int rd, .int ra, .int rb, .int rn, .int rf, .int rw])), (bG, .inl (dG, 32, .inl rg)), (bS, .inl (dS, 48, .inl rs)), (bM, .inl (dM, 16384, .inl rm))]) ⟨hx, hb, hml, hown, hB⟩ (c_Ref_bit l D (rs (ix ((32 : Int32) + (ush p0 (28 : Int32))))) (31 : Int32)) yl_Ref_bit mw_725 hK hN hP hD hS hA [] [] [0, 1, 2, 3] [0, 1, 2, 3] rfl rfl rfl rfl (by decide +kernel) rfl hl.1 rfl (Nat.le_of_ble_eq_true rfl) ⟨Nat.le_of_ble_eq_true rfl, Nat.le_of_ble_eq_true rfl⟩ d_Ref_paged_18 ⟨Nat.le_of_ble_eq_true rfl, Nat.le_of_ble_eq_true rfl⟩ (fun H locs hP hD hS => ?_)
  refine lv_if_ne (tgt := 38) hx hb d_Ref_paged_21 (by decide) (fun (h1 : ¬ (f_Ref_bit (rs (ix ((32 : Int32) + (ush p0 (28 : Int32))))) (31 : Int32)) = (0 : Int32)) => ?_) (fun (h1 : (f_Ref_bit (rs (ix ((32 : Int32) + (ush p0 (28 : Int32))))) (31 : Int32)) = (0 : Int32)) => ?_)
  · refine lv_aload_n hx hb d_Ref_paged_38 rfl (lv_at hl 1 rfl) ?_
    refine lv_iload hx hb d_Ref_paged_39 (lv_at hl 0 rfl) ?_
    refine lv_bipush (v := (31 : Int32)) hx hb d_Ref_paged_41 (by decide) ?_
    refine k_cSi (As := [.int (rs (ix ((32 : Int32) + (ush p0 (28 : Int32))))), .int (31 : Int32)]) (rest := [.ref aT]) (wr := [(aT, .inr (11, [.ref bG, .ref bS, .ref bM, .int rl, .int rk, .int rr, .int re, .int rc, .int rd, .int ra, .int rb, .int rn, .int rf, .int rw])), (bG, .inl (dG, 32, .inl rg)), (bS, .inl (dS, 48, .inl rs)), (bM, .inl (dM, 16384, .inl rm))]) (wj := [(aT, .inr (11, [.ref bG, .ref bS, .ref bM, .int rl, .int rk, .int rr, .int re, .int rc, .int rd, .int ra, .int rb, .int rn, .int rf, .int rw])), (bG, .inl (dG, 32, .inl rg)), (bS, .inl (dS, 48, .inl rs)), (bM, .inl (dM, 16384, .inl rm))]) ⟨hx, hb, hml, hown, hB⟩ (c_Ref_bit l D (rs (ix ((32 : Int32) + (ush p0 (28 : Int32))))) (31 : Int32)) yl_Ref_bit mw_725 hK hN hP hD hS hA [] [] [0, 1, 2, 3] [0, 1, 2, 3] rfl rfl rfl rfl (by decide +kernel) rfl hl.1 rfl (Nat.le_of_ble_eq_true rfl) ⟨Nat.le_of_ble_eq_true rfl, Nat.le_of_ble_eq_true rfl⟩ d_Ref_paged_43 ⟨Nat.le_of_ble_eq_true rfl, Nat.le_of_ble_eq_true rfl⟩ (fun H locs hP hD hS => ?_)
    refine lv_if_eq (tgt := 53) hx hb d_Ref_paged_46 (by decide) (fun (h2 : (f_Ref_bit (rs (ix ((32 : Int32) + (ush p0 (28 : Int32))))) (31 : Int32)) = (0 : Int32)) => ?_) (fun (h2 : ¬ (f_Ref_bit (rs (ix ((32 : Int32) + (ush p0 (28 : Int32))))) (31 : Int32)) = (0 : Int32)) => ?_)
    · exact absurd h2 h1
    refine lv_iconst (v := (-1 : Int32)) hx hb d_Ref_paged_49 (by decide) ?_
    refine lv_goto (tgt := 55) hx hb d_Ref_paged_50 (by decide) ?_
    refine va_put (D := D) (ci := 11) (v := .int (-1 : Int32)) (ty := .int) (C := "MappedProcessorModel") (T := T_Ref) (N := 14) hx hb hB iw_Ref ty_Ref ty_Ref_ok nm_Ref hown hK hP hD hS 0 rfl rfl 5 (by decide) (hB _ mw_648) (fun _ h9 => h9) rfl (by decide +kernel) rfl rfl (Nat.le_of_ble_eq_true rfl) d_Ref_paged_55 (fun H locs hP hD hS => ?_)
    have hP : va_P D kCl [(aT, .inr (11, [.ref bG, .ref bS, .ref bM, .int rl, .int rk, .int (-1 : Int32), .int re, .int rc, .int rd, .int ra, .int rb, .int rn, .int rf, .int rw])), (bG, .inl (dG, 32, .inl rg)), (bS, .inl (dS, 48, .inl rs)), (bM, .inl (dM, 16384, .inl rm))] H := hP
    have hD : va_D A [(aT, .inr (11, [.ref bG, .ref bS, .ref bM, .int rl, .int rk, .int (-1 : Int32), .int re, .int rc, .int rd, .int ra, .int rb, .int rn, .int rf, .int rw])), (bG, .inl (dG, 32, .inl rg)), (bS, .inl (dS, 48, .inl rs)), (bM, .inl (dM, 16384, .inl rm))] := hD
    refine lv_iconst (v := (0 : Int32)) hx hb d_Ref_paged_58 (by decide) ?_
    have ef : f_Ref_paged p0 p1 p2 rs rm rr re = ((0 : Int32), (-1 : Int32), re) := by unfold f_Ref_paged; rw [if_neg h1]
    exact k_iret hx hb hr hlocks hK hP hD hS [0, 1, 2, 3] rfl (by rw [ef] <;> rfl) (by rw [ef] <;> rfl) d_Ref_paged_59
  · refine lv_iload_n hx hb d_Ref_paged_24 rfl (lv_at hl 3 rfl) ?_
    refine lv_if_ne (tgt := 60) hx hb d_Ref_paged_25 (by decide) (fun (h3 : ¬ p1 = (0 : Int32)) => ?_) (fun (h3 : p1 = (0 : Int32)) => ?_)
    · refine lv_iload hx hb d_Ref_paged_60 (lv_at hl 0 rfl) ?_
      refine lv_ldc (v := (16777215 : Int32)) hx hb hown (hB _ mw_736) d_Ref_paged_62 ?_
      refine lv_iand hx hb d_Ref_paged_64 ?_
      refine lv_istore (lv' := [(5, .int ((rs (ix ((32 : Int32) + (ush p0 (28 : Int32))))) &&& (16777215 : Int32))), (4, .int (rs (ix ((32 : Int32) + (ush p0 (28 : Int32)))))), (0, .ref aT), (1, .int p0), (2, .int p1), (3, .int p2)]) hx hb d_Ref_paged_65 hl (by decide) rfl (fun ls hl => ?_)
      refine lv_iload_n hx hb d_Ref_paged_67 rfl (lv_at hl 3 rfl) ?_
      refine lv_bipush (v := (12 : Int32)) hx hb d_Ref_paged_68 (by decide) ?_
      refine lv_iushr (v := (ush p0 (12 : Int32))) hx hb d_Ref_paged_70 rfl ?_
      refine lv_ldc (v := (65535 : Int32)) hx hb hown (hB _ mw_737) d_Ref_paged_71 ?_
      refine lv_iand hx hb d_Ref_paged_73 ?_
      refine lv_istore (lv' := [(6, .int ((ush p0 (12 : Int32)) &&& (65535 : Int32))), (5, .int ((rs (ix ((32 : Int32) + (ush p0 (28 : Int32))))) &&& (16777215 : Int32))), (4, .int (rs (ix ((32 : Int32) + (ush p0 (28 : Int32)))))), (0, .ref aT), (1, .int p0), (2, .int p1), (3, .int p2)]) hx hb d_Ref_paged_74 hl (by decide) rfl (fun ls hl => ?_)
      refine lv_iload hx hb d_Ref_paged_76 (lv_at hl 1 rfl) ?_
      refine lv_ldc (v := (524287 : Int32)) hx hb hown (hB _ mw_738) d_Ref_paged_78 ?_
      refine lv_iand hx hb d_Ref_paged_80 ?_
      refine lv_iload hx hb d_Ref_paged_81 (lv_at hl 0 rfl) ?_
      refine lv_ixor hx hb d_Ref_paged_83 ?_
      refine lv_istore (lv' := [(7, .int ((((rs (ix ((32 : Int32) + (ush p0 (28 : Int32))))) &&& (16777215 : Int32)) &&& (524287 : Int32)) ^^^ ((ush p0 (12 : Int32)) &&& (65535 : Int32)))), (6, .int ((ush p0 (12 : Int32)) &&& (65535 : Int32))), (5, .int ((rs (ix ((32 : Int32) + (ush p0 (28 : Int32))))) &&& (16777215 : Int32))), (4, .int (rs (ix ((32 : Int32) + (ush p0 (28 : Int32)))))), (0, .ref aT), (1, .int p0), (2, .int p1), (3, .int p2)]) hx hb d_Ref_paged_84 hl (by decide) rfl (fun ls hl => ?_)
      refine lv_ldc (v := (-2147483648 : Int32)) hx hb hown (hB _ mw_739) d_Ref_paged_86 ?_
      refine lv_sipush (v := (128 : Int32)) hx hb d_Ref_paged_88 (by decide) ?_
      refine lv_iload hx hb d_Ref_paged_91 (lv_at hl 2 rfl) ?_
      refine lv_imul hx hb d_Ref_paged_93 ?_
      refine lv_iadd hx hb d_Ref_paged_94 ?_
      refine lv_iload hx hb d_Ref_paged_95 (lv_at hl 1 rfl) ?_
      refine lv_bipush (v := (10 : Int32)) hx hb d_Ref_paged_97 (by decide) ?_
      refine lv_iushr (v := (ush ((ush p0 (12 : Int32)) &&& (65535 : Int32)) (10 : Int32))) hx hb d_Ref_paged_99 rfl ?_
      refine lv_iadd hx hb d_Ref_paged_100 ?_
      refine lv_istore (lv' := [(8, .int (((-2147483648 : Int32) + ((128 : Int32) * ((rs (ix ((32 : Int32) + (ush p0 (28 : Int32))))) &&& (16777215 : Int32)))) + (ush ((ush p0 (12 : Int32)) &&& (65535 : Int32)) (10 : Int32)))), (7, .int ((((rs (ix ((32 : Int32) + (ush p0 (28 : Int32))))) &&& (16777215 : Int32)) &&& (524287 : Int32)) ^^^ ((ush p0 (12 : Int32)) &&& (65535 : Int32)))), (6, .int ((ush p0 (12 : Int32)) &&& (65535 : Int32))), (5, .int ((rs (ix ((32 : Int32) + (ush p0 (28 : Int32))))) &&& (16777215 : Int32))), (4, .int (rs (ix ((32 : Int32) + (ush p0 (28 : Int32)))))), (0, .ref aT), (1, .int p0), (2, .int p1), (3, .int p2)]) hx hb d_Ref_paged_101 hl (by decide) rfl (fun ls hl => ?_)
      refine lv_aload_n hx hb d_Ref_paged_103 rfl (lv_at hl 5 rfl) ?_
      refine lv_iload hx hb d_Ref_paged_104 (lv_at hl 1 rfl) ?_
      refine lv_iload hx hb d_Ref_paged_106 (lv_at hl 0 rfl) ?_
      refine k_cVi (As := [.int ((((rs (ix ((32 : Int32) + (ush p0 (28 : Int32))))) &&& (16777215 : Int32)) &&& (524287 : Int32)) ^^^ ((ush p0 (12 : Int32)) &&& (65535 : Int32))), .int (((-2147483648 : Int32) + ((128 : Int32) * ((rs (ix ((32 : Int32) + (ush p0 (28 : Int32))))) &&& (16777215 : Int32)))) + (ush ((ush p0 (12 : Int32)) &&& (65535 : Int32)) (10 : Int32)))]) (rest := []) (wr := []) (wj := [(aT, .inr (11, [.ref bG, .ref bS, .ref bM, .int rl, .int rk, .int rr, .int re, .int rc, .int rd, .int ra, .int rb, .int rn, .int rf, .int rw])), (bG, .inl (dG, 32, .inl rg)), (bS, .inl (dS, 48, .inl rs)), (bM, .inl (dM, 16384, .inl rm))]) ⟨hx, hb, hml, hown, hB⟩ (c_Ref_search l D aT bG bS bM dG dS dM rg rs rm rl rk rr re rc rd ra rb rn rf rw ((((rs (ix ((32 : Int32) + (ush p0 (28 : Int32))))) &&& (16777215 : Int32)) &&& (524287 : Int32)) ^^^ ((ush p0 (12 : Int32)) &&& (65535 : Int32))) (((-2147483648 : Int32) + ((128 : Int32) * ((rs (ix ((32 : Int32) + (ush p0 (28 : Int32))))) &&& (16777215 : Int32)))) + (ush ((ush p0 (12 : Int32)) &&& (65535 : Int32)) (10 : Int32)))) yl_Ref_search mw_740 hK hN hP hD hS hA [0, 1, 2] [0, 1, 2, 3] [] [0, 1, 2, 3] rfl rfl rfl rfl (by decide +kernel) 0 rfl rfl rfl rfl hl.1 rfl (Nat.le_of_ble_eq_true rfl) ⟨Nat.le_of_ble_eq_true rfl, Nat.le_of_ble_eq_true rfl⟩ d_Ref_paged_108 ⟨Nat.le_of_ble_eq_true rfl, Nat.le_of_ble_eq_true rfl⟩ (fun H locs hP hD hS => ?_)
      refine lv_istore (lv' := [(9, .int (f_Ref_search ((((rs (ix ((32 : Int32) + (ush p0 (28 : Int32))))) &&& (16777215 : Int32)) &&& (524287 : Int32)) ^^^ ((ush p0 (12 : Int32)) &&& (65535 : Int32))) (((-2147483648 : Int32) + ((128 : Int32) * ((rs (ix ((32 : Int32) + (ush p0 (28 : Int32))))) &&& (16777215 : Int32)))) + (ush ((ush p0 (12 : Int32)) &&& (65535 : Int32)) (10 : Int32))) rs rm)), (8, .int (((-2147483648 : Int32) + ((128 : Int32) * ((rs (ix ((32 : Int32) + (ush p0 (28 : Int32))))) &&& (16777215 : Int32)))) + (ush ((ush p0 (12 : Int32)) &&& (65535 : Int32)) (10 : Int32)))), (7, .int ((((rs (ix ((32 : Int32) + (ush p0 (28 : Int32))))) &&& (16777215 : Int32)) &&& (524287 : Int32)) ^^^ ((ush p0 (12 : Int32)) &&& (65535 : Int32)))), (6, .int ((ush p0 (12 : Int32)) &&& (65535 : Int32))), (5, .int ((rs (ix ((32 : Int32) + (ush p0 (28 : Int32))))) &&& (16777215 : Int32))), (4, .int (rs (ix ((32 : Int32) + (ush p0 (28 : Int32)))))), (0, .ref aT), (1, .int p0), (2, .int p1), (3, .int p2)]) hx hb d_Ref_paged_111 hl (by decide) rfl (fun ls hl => ?_)
      refine lv_iload hx hb d_Ref_paged_113 (lv_at hl 0 rfl) ?_
      refine lv_if_ge (tgt := 134) hx hb d_Ref_paged_115 (by decide) (fun (h7 : (0 : Int32) ≤ (f_Ref_search ((((rs (ix ((32 : Int32) + (ush p0 (28 : Int32))))) &&& (16777215 : Int32)) &&& (524287 : Int32)) ^^^ ((ush p0 (12 : Int32)) &&& (65535 : Int32))) (((-2147483648 : Int32) + ((128 : Int32) * ((rs (ix ((32 : Int32) + (ush p0 (28 : Int32))))) &&& (16777215 : Int32)))) + (ush ((ush p0 (12 : Int32)) &&& (65535 : Int32)) (10 : Int32))) rs rm)) => ?_) (fun (h7 : ¬ (0 : Int32) ≤ (f_Ref_search ((((rs (ix ((32 : Int32) + (ush p0 (28 : Int32))))) &&& (16777215 : Int32)) &&& (524287 : Int32)) ^^^ ((ush p0 (12 : Int32)) &&& (65535 : Int32))) (((-2147483648 : Int32) + ((128 : Int32) * ((rs (ix ((32 : Int32) + (ush p0 (28 : Int32))))) &&& (16777215 : Int32)))) + (ush ((ush p0 (12 : Int32)) &&& (65535 : Int32)) (10 : Int32))) rs rm)) => ?_)
      · refine lv_iload hx hb d_Ref_paged_134 (lv_at hl 0 rfl) ?_
        refine lv_istore (lv' := [(9, .int (f_Ref_search ((((rs (ix ((32 : Int32) + (ush p0 (28 : Int32))))) &&& (16777215 : Int32)) &&& (524287 : Int32)) ^^^ ((ush p0 (12 : Int32)) &&& (65535 : Int32))) (((-2147483648 : Int32) + ((128 : Int32) * ((rs (ix ((32 : Int32) + (ush p0 (28 : Int32))))) &&& (16777215 : Int32)))) + (ush ((ush p0 (12 : Int32)) &&& (65535 : Int32)) (10 : Int32))) rs rm)), (8, .int (((-2147483648 : Int32) + ((128 : Int32) * ((rs (ix ((32 : Int32) + (ush p0 (28 : Int32))))) &&& (16777215 : Int32)))) + (ush ((ush p0 (12 : Int32)) &&& (65535 : Int32)) (10 : Int32)))), (7, .int ((((rs (ix ((32 : Int32) + (ush p0 (28 : Int32))))) &&& (16777215 : Int32)) &&& (524287 : Int32)) ^^^ ((ush p0 (12 : Int32)) &&& (65535 : Int32)))), (6, .int ((ush p0 (12 : Int32)) &&& (65535 : Int32))), (5, .int ((rs (ix ((32 : Int32) + (ush p0 (28 : Int32))))) &&& (16777215 : Int32))), (4, .int (rs (ix ((32 : Int32) + (ush p0 (28 : Int32)))))), (0, .ref aT), (1, .int p0), (2, .int p1), (3, .int p2)]) hx hb d_Ref_paged_136 hl (by decide) rfl (fun ls hl => ?_)
        refine lv_iload hx hb d_Ref_paged_138 (lv_at hl 0 rfl) ?_
        refine lv_if_ge (tgt := 150) hx hb d_Ref_paged_140 (by decide) (fun (h8 : (0 : Int32) ≤ (f_Ref_search ((((rs (ix ((32 : Int32) + (ush p0 (28 : Int32))))) &&& (16777215 : Int32)) &&& (524287 : Int32)) ^^^ ((ush p0 (12 : Int32)) &&& (65535 : Int32))) (((-2147483648 : Int32) + ((128 : Int32) * ((rs (ix ((32 : Int32) + (ush p0 (28 : Int32))))) &&& (16777215 : Int32)))) + (ush ((ush p0 (12 : Int32)) &&& (65535 : Int32)) (10 : Int32))) rs rm)) => ?_) (fun (h8 : ¬ (0 : Int32) ≤ (f_Ref_search ((((rs (ix ((32 : Int32) + (ush p0 (28 : Int32))))) &&& (16777215 : Int32)) &&& (524287 : Int32)) ^^^ ((ush p0 (12 : Int32)) &&& (65535 : Int32))) (((-2147483648 : Int32) + ((128 : Int32) * ((rs (ix ((32 : Int32) + (ush p0 (28 : Int32))))) &&& (16777215 : Int32)))) + (ush ((ush p0 (12 : Int32)) &&& (65535 : Int32)) (10 : Int32))) rs rm)) => ?_)
        rotate_left
        · exact absurd h7 h8
        refine lv_aload_n hx hb d_Ref_paged_150 rfl (lv_at hl 6 rfl) ?_
        refine va_get (D := D) (ci := 11) (v := .ref bM) (C := "MappedProcessorModel") (T := T_Ref) (N := 14) hx hb hB iw_Ref hown hK hP 0 rfl rfl 2 (by decide) (hB _ mw_645) (fun _ h9 => h9) rfl d_Ref_paged_151 ?_
        refine lv_iload hx hb d_Ref_paged_154 (lv_at hl 0 rfl) ?_
        refine lv_iconst (v := (1 : Int32)) hx hb d_Ref_paged_156 (by decide) ?_
        refine lv_iadd hx hb d_Ref_paged_157 ?_
        refine k_iald (j := (ix ((f_Ref_search ((((rs (ix ((32 : Int32) + (ush p0 (28 : Int32))))) &&& (16777215 : Int32)) &&& (524287 : Int32)) ^^^ ((ush p0 (12 : Int32)) &&& (65535 : Int32))) (((-2147483648 : Int32) + ((128 : Int32) * ((rs (ix ((32 : Int32) + (ush p0 (28 : Int32))))) &&& (16777215 : Int32)))) + (ush ((ush p0 (12 : Int32)) &&& (65535 : Int32)) (10 : Int32))) rs rm) + (1 : Int32)))) hx hb hK hP 3 2 rfl rfl rfl (ix_succ h7 (se_lt _ _ _ _)) d_Ref_paged_158 ?_
        refine lv_istore (lv' := [(10, .int (rm (ix ((f_Ref_search ((((rs (ix ((32 : Int32) + (ush p0 (28 : Int32))))) &&& (16777215 : Int32)) &&& (524287 : Int32)) ^^^ ((ush p0 (12 : Int32)) &&& (65535 : Int32))) (((-2147483648 : Int32) + ((128 : Int32) * ((rs (ix ((32 : Int32) + (ush p0 (28 : Int32))))) &&& (16777215 : Int32)))) + (ush ((ush p0 (12 : Int32)) &&& (65535 : Int32)) (10 : Int32))) rs rm) + (1 : Int32))))), (9, .int (f_Ref_search ((((rs (ix ((32 : Int32) + (ush p0 (28 : Int32))))) &&& (16777215 : Int32)) &&& (524287 : Int32)) ^^^ ((ush p0 (12 : Int32)) &&& (65535 : Int32))) (((-2147483648 : Int32) + ((128 : Int32) * ((rs (ix ((32 : Int32) + (ush p0 (28 : Int32))))) &&& (16777215 : Int32)))) + (ush ((ush p0 (12 : Int32)) &&& (65535 : Int32)) (10 : Int32))) rs rm)), (8, .int (((-2147483648 : Int32) + ((128 : Int32) * ((rs (ix ((32 : Int32) + (ush p0 (28 : Int32))))) &&& (16777215 : Int32)))) + (ush ((ush p0 (12 : Int32)) &&& (65535 : Int32)) (10 : Int32)))), (7, .int ((((rs (ix ((32 : Int32) + (ush p0 (28 : Int32))))) &&& (16777215 : Int32)) &&& (524287 : Int32)) ^^^ ((ush p0 (12 : Int32)) &&& (65535 : Int32)))), (6, .int ((ush p0 (12 : Int32)) &&& (65535 : Int32))), (5, .int ((rs (ix ((32 : Int32) + (ush p0 (28 : Int32))))) &&& (16777215 : Int32))), (4, .int (rs (ix ((32 : Int32) + (ush p0 (28 : Int32)))))), (0, .ref aT), (1, .int p0), (2, .int p1), (3, .int p2)]) hx hb d_Ref_paged_159 hl (by decide) rfl (fun ls hl => ?_)
        refine lv_iload hx hb d_Ref_paged_161 (lv_at hl 0 rfl) ?_
        refine lv_iconst (v := (3 : Int32)) hx hb d_Ref_paged_163 (by decide) ?_
        refine lv_iand hx hb d_Ref_paged_164 ?_
        refine lv_istore (lv' := [(11, .int ((rm (ix ((f_Ref_search ((((rs (ix ((32 : Int32) + (ush p0 (28 : Int32))))) &&& (16777215 : Int32)) &&& (524287 : Int32)) ^^^ ((ush p0 (12 : Int32)) &&& (65535 : Int32))) (((-2147483648 : Int32) + ((128 : Int32) * ((rs (ix ((32 : Int32) + (ush p0 (28 : Int32))))) &&& (16777215 : Int32)))) + (ush ((ush p0 (12 : Int32)) &&& (65535 : Int32)) (10 : Int32))) rs rm) + (1 : Int32)))) &&& (3 : Int32))), (10, .int (rm (ix ((f_Ref_search ((((rs (ix ((32 : Int32) + (ush p0 (28 : Int32))))) &&& (16777215 : Int32)) &&& (524287 : Int32)) ^^^ ((ush p0 (12 : Int32)) &&& (65535 : Int32))) (((-2147483648 : Int32) + ((128 : Int32) * ((rs (ix ((32 : Int32) + (ush p0 (28 : Int32))))) &&& (16777215 : Int32)))) + (ush ((ush p0 (12 : Int32)) &&& (65535 : Int32)) (10 : Int32))) rs rm) + (1 : Int32))))), (9, .int (f_Ref_search ((((rs (ix ((32 : Int32) + (ush p0 (28 : Int32))))) &&& (16777215 : Int32)) &&& (524287 : Int32)) ^^^ ((ush p0 (12 : Int32)) &&& (65535 : Int32))) (((-2147483648 : Int32) + ((128 : Int32) * ((rs (ix ((32 : Int32) + (ush p0 (28 : Int32))))) &&& (16777215 : Int32)))) + (ush ((ush p0 (12 : Int32)) &&& (65535 : Int32)) (10 : Int32))) rs rm)), (8, .int (((-2147483648 : Int32) + ((128 : Int32) * ((rs (ix ((32 : Int32) + (ush p0 (28 : Int32))))) &&& (16777215 : Int32)))) + (ush ((ush p0 (12 : Int32)) &&& (65535 : Int32)) (10 : Int32)))), (7, .int ((((rs (ix ((32 : Int32) + (ush p0 (28 : Int32))))) &&& (16777215 : Int32)) &&& (524287 : Int32)) ^^^ ((ush p0 (12 : Int32)) &&& (65535 : Int32)))), (6, .int ((ush p0 (12 : Int32)) &&& (65535 : Int32))), (5, .int ((rs (ix ((32 : Int32) + (ush p0 (28 : Int32))))) &&& (16777215 : Int32))), (4, .int (rs (ix ((32 : Int32) + (ush p0 (28 : Int32)))))), (0, .ref aT), (1, .int p0), (2, .int p1), (3, .int p2)]) hx hb d_Ref_paged_165 hl (by decide) rfl (fun ls hl => ?_)
        refine lv_iload hx hb d_Ref_paged_167 (lv_at hl 7 rfl) ?_
        refine lv_iload_n hx hb d_Ref_paged_169 rfl (lv_at hl 11 rfl) ?_
        refine k_join2 (c0 := p2 = (0 : Int32)) (x1 := (30 : Int32)) (x2 := (29 : Int32)) (rest := [.int (rs (ix ((32 : Int32) + (ush p0 (28 : Int32)))))]) 180 ?_ (fun k10 k11 => ?_)
        rotate_left
        · refine lv_if_eq (tgt := 178) hx hb d_Ref_paged_170 (by decide) (fun (h9 : p2 = (0 : Int32)) => ?_) (fun (h9 : ¬ p2 = (0 : Int32)) => ?_)
          · refine lv_bipush (v := (30 : Int32)) hx hb d_Ref_paged_178 (by decide) ?_
            exact k10 h9
          · refine lv_bipush (v := (29 : Int32)) hx hb d_Ref_paged_173 (by decide) ?_
            refine lv_goto (tgt := 180) hx hb d_Ref_paged_175 (by decide) ?_
            exact k11 h9
        refine k_cSi (As := [.int (rs (ix ((32 : Int32) + (ush p0 (28 : Int32))))), .int (if p2 = (0 : Int32) then (30 : Int32) else (29 : Int32))]) (rest := []) (wr := [(aT, .inr (11, [.ref bG, .ref bS, .ref bM, .int rl, .int rk, .int rr, .int re, .int rc, .int rd, .int ra, .int rb, .int rn, .int rf, .int rw])), (bG, .inl (dG, 32, .inl rg)), (bS, .inl (dS, 48, .inl rs)), (bM, .inl (dM, 16384, .inl rm))]) (wj := [(aT, .inr (11, [.ref bG, .ref bS, .ref bM, .int rl, .int rk, .int rr, .int re, .int rc, .int rd, .int ra, .int rb, .int rn, .int rf, .int rw])), (bG, .inl (dG, 32, .inl rg)), (bS, .inl (dS, 48, .inl rs)), (bM, .inl (dM, 16384, .inl rm))]) ⟨hx, hb, hml, hown, hB⟩ (c_Ref_bit l D (rs (ix ((32 : Int32) + (ush p0 (28 : Int32))))) (if p2 = (0 : Int32) then (30 : Int32) else (29 : Int32))) yl_Ref_bit mw_725 hK hN hP hD hS hA [] [] [0, 1, 2, 3] [0, 1, 2, 3] rfl rfl rfl rfl (by decide +kernel) rfl hl.1 rfl (Nat.le_of_ble_eq_true rfl) ⟨Nat.le_of_ble_eq_true rfl, Nat.le_of_ble_eq_true rfl⟩ d_Ref_paged_180 ⟨Nat.le_of_ble_eq_true rfl, Nat.le_of_ble_eq_true rfl⟩ (fun H locs hP hD hS => ?_)
        refine lv_istore (lv' := [(12, .int (f_Ref_bit (rs (ix ((32 : Int32) + (ush p0 (28 : Int32))))) (if p2 = (0 : Int32) then (30 : Int32) else (29 : Int32)))), (11, .int ((rm (ix ((f_Ref_search ((((rs (ix ((32 : Int32) + (ush p0 (28 : Int32))))) &&& (16777215 : Int32)) &&& (524287 : Int32)) ^^^ ((ush p0 (12 : Int32)) &&& (65535 : Int32))) (((-2147483648 : Int32) + ((128 : Int32) * ((rs (ix ((32 : Int32) + (ush p0 (28 : Int32))))) &&& (16777215 : Int32)))) + (ush ((ush p0 (12 : Int32)) &&& (65535 : Int32)) (10 : Int32))) rs rm) + (1 : Int32)))) &&& (3 : Int32))), (10, .int (rm (ix ((f_Ref_search ((((rs (ix ((32 : Int32) + (ush p0 (28 : Int32))))) &&& (16777215 : Int32)) &&& (524287 : Int32)) ^^^ ((ush p0 (12 : Int32)) &&& (65535 : Int32))) (((-2147483648 : Int32) + ((128 : Int32) * ((rs (ix ((32 : Int32) + (ush p0 (28 : Int32))))) &&& (16777215 : Int32)))) + (ush ((ush p0 (12 : Int32)) &&& (65535 : Int32)) (10 : Int32))) rs rm) + (1 : Int32))))), (9, .int (f_Ref_search ((((rs (ix ((32 : Int32) + (ush p0 (28 : Int32))))) &&& (16777215 : Int32)) &&& (524287 : Int32)) ^^^ ((ush p0 (12 : Int32)) &&& (65535 : Int32))) (((-2147483648 : Int32) + ((128 : Int32) * ((rs (ix ((32 : Int32) + (ush p0 (28 : Int32))))) &&& (16777215 : Int32)))) + (ush ((ush p0 (12 : Int32)) &&& (65535 : Int32)) (10 : Int32))) rs rm)), (8, .int (((-2147483648 : Int32) + ((128 : Int32) * ((rs (ix ((32 : Int32) + (ush p0 (28 : Int32))))) &&& (16777215 : Int32)))) + (ush ((ush p0 (12 : Int32)) &&& (65535 : Int32)) (10 : Int32)))), (7, .int ((((rs (ix ((32 : Int32) + (ush p0 (28 : Int32))))) &&& (16777215 : Int32)) &&& (524287 : Int32)) ^^^ ((ush p0 (12 : Int32)) &&& (65535 : Int32)))), (6, .int ((ush p0 (12 : Int32)) &&& (65535 : Int32))), (5, .int ((rs (ix ((32 : Int32) + (ush p0 (28 : Int32))))) &&& (16777215 : Int32))), (4, .int (rs (ix ((32 : Int32) + (ush p0 (28 : Int32)))))), (0, .ref aT), (1, .int p0), (2, .int p1), (3, .int p2)]) hx hb d_Ref_paged_183 hl (by decide) rfl (fun ls hl => ?_)
        refine lv_iload hx hb d_Ref_paged_185 (lv_at hl 0 rfl) ?_
        refine lv_if_eq (tgt := 195) hx hb d_Ref_paged_187 (by decide) (fun (h14 : (f_Ref_bit (rs (ix ((32 : Int32) + (ush p0 (28 : Int32))))) (if p2 = (0 : Int32) then (30 : Int32) else (29 : Int32))) = (0 : Int32)) => ?_) (fun (h14 : ¬ (f_Ref_bit (rs (ix ((32 : Int32) + (ush p0 (28 : Int32))))) (if p2 = (0 : Int32) then (30 : Int32) else (29 : Int32))) = (0 : Int32)) => ?_)
        · refine lv_iload_n hx hb d_Ref_paged_195 rfl (lv_at hl 11 rfl) ?_
          refine lv_iconst (v := (2 : Int32)) hx hb d_Ref_paged_196 (by decide) ?_
          refine lv_icmp_ne (tgt := 225) hx hb d_Ref_paged_197 (by decide) (fun (h15 : ¬ p1 = (2 : Int32)) => ?_) (fun (h15 : p1 = (2 : Int32)) => ?_)
          · refine lv_aload_n hx hb d_Ref_paged_225 rfl (lv_at hl 9 rfl) ?_
            refine lv_iload hx hb d_Ref_paged_226 (lv_at hl 3 rfl) ?_
            refine lv_iconst (v := (1 : Int32)) hx hb d_Ref_paged_228 (by decide) ?_
            refine lv_iadd hx hb d_Ref_paged_229 ?_
            refine va_put (D := D) (ci := 11) (v := .int ((f_Ref_search ((((rs (ix ((32 : Int32) + (ush p0 (28 : Int32))))) &&& (16777215 : Int32)) &&& (524287 : Int32)) ^^^ ((ush p0 (12 : Int32)) &&& (65535 : Int32))) (((-2147483648 : Int32) + ((128 : Int32) * ((rs (ix ((32 : Int32) + (ush p0 (28 : Int32))))) &&& (16777215 : Int32)))) + (ush ((ush p0 (12 : Int32)) &&& (65535 : Int32)) (10 : Int32))) rs rm) + (1 : Int32))) (ty := .int) (C := "MappedProcessorModel") (T := T_Ref) (N := 14) hx hb hB iw_Ref ty_Ref ty_Ref_ok nm_Ref hown hK hP hD hS 0 rfl rfl 6 (by decide) (hB _ mw_649) (fun _ h9 => h9) rfl (by decide +kernel) rfl rfl (Nat.le_of_ble_eq_true rfl) d_Ref_paged_230 (fun H locs hP hD hS => ?_)
            have hP : va_P D kCl [(aT, .inr (11, [.ref bG, .ref bS, .ref bM, .int rl, .int rk, .int rr, .int ((f_Ref_search ((((rs (ix ((32 : Int32) + (ush p0 (28 : Int32))))) &&& (16777215 : Int32)) &&& (524287 : Int32)) ^^^ ((ush p0 (12 : Int32)) &&& (65535 : Int32))) (((-2147483648 : Int32) + ((128 : Int32) * ((rs (ix ((32 : Int32) + (ush p0 (28 : Int32))))) &&& (16777215 : Int32)))) + (ush ((ush p0 (12 : Int32)) &&& (65535 : Int32)) (10 : Int32))) rs rm) + (1 : Int32)), .int rc, .int rd, .int ra, .int rb, .int rn, .int rf, .int rw])), (bG, .inl (dG, 32, .inl rg)), (bS, .inl (dS, 48, .inl rs)), (bM, .inl (dM, 16384, .inl rm))] H := hP
            have hD : va_D A [(aT, .inr (11, [.ref bG, .ref bS, .ref bM, .int rl, .int rk, .int rr, .int ((f_Ref_search ((((rs (ix ((32 : Int32) + (ush p0 (28 : Int32))))) &&& (16777215 : Int32)) &&& (524287 : Int32)) ^^^ ((ush p0 (12 : Int32)) &&& (65535 : Int32))) (((-2147483648 : Int32) + ((128 : Int32) * ((rs (ix ((32 : Int32) + (ush p0 (28 : Int32))))) &&& (16777215 : Int32)))) + (ush ((ush p0 (12 : Int32)) &&& (65535 : Int32)) (10 : Int32))) rs rm) + (1 : Int32)), .int rc, .int rd, .int ra, .int rb, .int rn, .int rf, .int rw])), (bG, .inl (dG, 32, .inl rg)), (bS, .inl (dS, 48, .inl rs)), (bM, .inl (dM, 16384, .inl rm))] := hD
            refine lv_iload hx hb d_Ref_paged_233 (lv_at hl 2 rfl) ?_
            refine lv_sipush (v := (-4096 : Int32)) hx hb d_Ref_paged_235 (by decide) ?_
            refine lv_iand hx hb d_Ref_paged_238 ?_
            refine lv_iload_n hx hb d_Ref_paged_239 rfl (lv_at hl 10 rfl) ?_
            refine lv_sipush (v := (4095 : Int32)) hx hb d_Ref_paged_240 (by decide) ?_
            refine lv_iand hx hb d_Ref_paged_243 ?_
            refine lv_ior hx hb d_Ref_paged_244 ?_
            have ef : f_Ref_paged p0 p1 p2 rs rm rr re = ((((rm (ix ((f_Ref_search ((((rs (ix ((32 : Int32) + (ush p0 (28 : Int32))))) &&& (16777215 : Int32)) &&& (524287 : Int32)) ^^^ ((ush p0 (12 : Int32)) &&& (65535 : Int32))) (((-2147483648 : Int32) + ((128 : Int32) * ((rs (ix ((32 : Int32) + (ush p0 (28 : Int32))))) &&& (16777215 : Int32)))) + (ush ((ush p0 (12 : Int32)) &&& (65535 : Int32)) (10 : Int32))) rs rm) + (1 : Int32)))) &&& (-4096 : Int32)) ||| (p0 &&& (4095 : Int32))), rr, ((f_Ref_search ((((rs (ix ((32 : Int32) + (ush p0 (28 : Int32))))) &&& (16777215 : Int32)) &&& (524287 : Int32)) ^^^ ((ush p0 (12 : Int32)) &&& (65535 : Int32))) (((-2147483648 : Int32) + ((128 : Int32) * ((rs (ix ((32 : Int32) + (ush p0 (28 : Int32))))) &&& (16777215 : Int32)))) + (ush ((ush p0 (12 : Int32)) &&& (65535 : Int32)) (10 : Int32))) rs rm) + (1 : Int32))) := by unfold f_Ref_paged; rw [if_pos h1, if_neg h3, if_pos h7, if_pos h14, if_neg h15]
            exact k_iret hx hb hr hlocks hK hP hD hS [0, 1, 2, 3] rfl (by rw [ef] <;> rfl) (by rw [ef] <;> rfl) d_Ref_paged_245
          · refine lv_iload hx hb d_Ref_paged_200 (lv_at hl 1 rfl) ?_
            refine lv_iconst (v := (3 : Int32)) hx hb d_Ref_paged_202 (by decide) ?_
            refine lv_icmp_eq (tgt := 217) hx hb d_Ref_paged_203 (by decide) (fun (h16 : ((rm (ix ((f_Ref_search ((((rs (ix ((32 : Int32) + (ush p0 (28 : Int32))))) &&& (16777215 : Int32)) &&& (524287 : Int32)) ^^^ ((ush p0 (12 : Int32)) &&& (65535 : Int32))) (((-2147483648 : Int32) + ((128 : Int32) * ((rs (ix ((32 : Int32) + (ush p0 (28 : Int32))))) &&& (16777215 : Int32)))) + (ush ((ush p0 (12 : Int32)) &&& (65535 : Int32)) (10 : Int32))) rs rm) + (1 : Int32)))) &&& (3 : Int32)) = (3 : Int32)) => ?_) (fun (h16 : ¬ ((rm (ix ((f_Ref_search ((((rs (ix ((32 : Int32) + (ush p0 (28 : Int32))))) &&& (16777215 : Int32)) &&& (524287 : Int32)) ^^^ ((ush p0 (12 : Int32)) &&& (65535 : Int32))) (((-2147483648 : Int32) + ((128 : Int32) * ((rs (ix ((32 : Int32) + (ush p0 (28 : Int32))))) &&& (16777215 : Int32)))) + (ush ((ush p0 (12 : Int32)) &&& (65535 : Int32)) (10 : Int32))) rs rm) + (1 : Int32)))) &&& (3 : Int32)) = (3 : Int32)) => ?_)
            · refine lv_aload_n hx hb d_Ref_paged_217 rfl (lv_at hl 9 rfl) ?_
              refine lv_bipush (v := (-2 : Int32)) hx hb d_Ref_paged_218 (by decide) ?_
              refine va_put (D := D) (ci := 11) (v := .int (-2 : Int32)) (ty := .int) (C := "MappedProcessorModel") (T := T_Ref) (N := 14) hx hb hB iw_Ref ty_Ref ty_Ref_ok nm_Ref hown hK hP hD hS 0 rfl rfl 5 (by decide) (hB _ mw_648) (fun _ h9 => h9) rfl (by decide +kernel) rfl rfl (Nat.le_of_ble_eq_true rfl) d_Ref_paged_220 (fun H locs hP hD hS => ?_)
              have hP : va_P D kCl [(aT, .inr (11, [.ref bG, .ref bS, .ref bM, .int rl, .int rk, .int (-2 : Int32), .int re, .int rc, .int rd, .int ra, .int rb, .int rn, .int rf, .int rw])), (bG, .inl (dG, 32, .inl rg)), (bS, .inl (dS, 48, .inl rs)), (bM, .inl (dM, 16384, .inl rm))] H := hP
              have hD : va_D A [(aT, .inr (11, [.ref bG, .ref bS, .ref bM, .int rl, .int rk, .int (-2 : Int32), .int re, .int rc, .int rd, .int ra, .int rb, .int rn, .int rf, .int rw])), (bG, .inl (dG, 32, .inl rg)), (bS, .inl (dS, 48, .inl rs)), (bM, .inl (dM, 16384, .inl rm))] := hD
              refine lv_iconst (v := (0 : Int32)) hx hb d_Ref_paged_223 (by decide) ?_
              have ef : f_Ref_paged p0 p1 p2 rs rm rr re = ((0 : Int32), (-2 : Int32), re) := by unfold f_Ref_paged; rw [if_pos h1, if_neg h3, if_pos h7, if_pos h14, if_pos h15, if_pos h16]
              exact k_iret hx hb hr hlocks hK hP hD hS [0, 1, 2, 3] rfl (by rw [ef] <;> rfl) (by rw [ef] <;> rfl) d_Ref_paged_224
            · refine lv_iload hx hb d_Ref_paged_206 (lv_at hl 0 rfl) ?_
              refine lv_if_eq (tgt := 225) hx hb d_Ref_paged_208 (by decide) (fun (h17 : (f_Ref_bit (rs (ix ((32 : Int32) + (ush p0 (28 : Int32))))) (if p2 = (0 : Int32) then (30 : Int32) else (29 : Int32))) = (0 : Int32)) => ?_) (fun (h17 : ¬ (f_Ref_bit (rs (ix ((32 : Int32) + (ush p0 (28 : Int32))))) (if p2 = (0 : Int32) then (30 : Int32) else (29 : Int32))) = (0 : Int32)) => ?_)
              rotate_left
              · exact absurd h14 h17
              refine lv_aload_n hx hb d_Ref_paged_225 rfl (lv_at hl 9 rfl) ?_
              refine lv_iload hx hb d_Ref_paged_226 (lv_at hl 3 rfl) ?_
              refine lv_iconst (v := (1 : Int32)) hx hb d_Ref_paged_228 (by decide) ?_
              refine lv_iadd hx hb d_Ref_paged_229 ?_
              refine va_put (D := D) (ci := 11) (v := .int ((f_Ref_search ((((rs (ix ((32 : Int32) + (ush p0 (28 : Int32))))) &&& (16777215 : Int32)) &&& (524287 : Int32)) ^^^ ((ush p0 (12 : Int32)) &&& (65535 : Int32))) (((-2147483648 : Int32) + ((128 : Int32) * ((rs (ix ((32 : Int32) + (ush p0 (28 : Int32))))) &&& (16777215 : Int32)))) + (ush ((ush p0 (12 : Int32)) &&& (65535 : Int32)) (10 : Int32))) rs rm) + (1 : Int32))) (ty := .int) (C := "MappedProcessorModel") (T := T_Ref) (N := 14) hx hb hB iw_Ref ty_Ref ty_Ref_ok nm_Ref hown hK hP hD hS 0 rfl rfl 6 (by decide) (hB _ mw_649) (fun _ h9 => h9) rfl (by decide +kernel) rfl rfl (Nat.le_of_ble_eq_true rfl) d_Ref_paged_230 (fun H locs hP hD hS => ?_)
              have hP : va_P D kCl [(aT, .inr (11, [.ref bG, .ref bS, .ref bM, .int rl, .int rk, .int rr, .int ((f_Ref_search ((((rs (ix ((32 : Int32) + (ush p0 (28 : Int32))))) &&& (16777215 : Int32)) &&& (524287 : Int32)) ^^^ ((ush p0 (12 : Int32)) &&& (65535 : Int32))) (((-2147483648 : Int32) + ((128 : Int32) * ((rs (ix ((32 : Int32) + (ush p0 (28 : Int32))))) &&& (16777215 : Int32)))) + (ush ((ush p0 (12 : Int32)) &&& (65535 : Int32)) (10 : Int32))) rs rm) + (1 : Int32)), .int rc, .int rd, .int ra, .int rb, .int rn, .int rf, .int rw])), (bG, .inl (dG, 32, .inl rg)), (bS, .inl (dS, 48, .inl rs)), (bM, .inl (dM, 16384, .inl rm))] H := hP
              have hD : va_D A [(aT, .inr (11, [.ref bG, .ref bS, .ref bM, .int rl, .int rk, .int rr, .int ((f_Ref_search ((((rs (ix ((32 : Int32) + (ush p0 (28 : Int32))))) &&& (16777215 : Int32)) &&& (524287 : Int32)) ^^^ ((ush p0 (12 : Int32)) &&& (65535 : Int32))) (((-2147483648 : Int32) + ((128 : Int32) * ((rs (ix ((32 : Int32) + (ush p0 (28 : Int32))))) &&& (16777215 : Int32)))) + (ush ((ush p0 (12 : Int32)) &&& (65535 : Int32)) (10 : Int32))) rs rm) + (1 : Int32)), .int rc, .int rd, .int ra, .int rb, .int rn, .int rf, .int rw])), (bG, .inl (dG, 32, .inl rg)), (bS, .inl (dS, 48, .inl rs)), (bM, .inl (dM, 16384, .inl rm))] := hD
              refine lv_iload hx hb d_Ref_paged_233 (lv_at hl 2 rfl) ?_
              refine lv_sipush (v := (-4096 : Int32)) hx hb d_Ref_paged_235 (by decide) ?_
              refine lv_iand hx hb d_Ref_paged_238 ?_
              refine lv_iload_n hx hb d_Ref_paged_239 rfl (lv_at hl 10 rfl) ?_
              refine lv_sipush (v := (4095 : Int32)) hx hb d_Ref_paged_240 (by decide) ?_
              refine lv_iand hx hb d_Ref_paged_243 ?_
              refine lv_ior hx hb d_Ref_paged_244 ?_
              have ef : f_Ref_paged p0 p1 p2 rs rm rr re = ((((rm (ix ((f_Ref_search ((((rs (ix ((32 : Int32) + (ush p0 (28 : Int32))))) &&& (16777215 : Int32)) &&& (524287 : Int32)) ^^^ ((ush p0 (12 : Int32)) &&& (65535 : Int32))) (((-2147483648 : Int32) + ((128 : Int32) * ((rs (ix ((32 : Int32) + (ush p0 (28 : Int32))))) &&& (16777215 : Int32)))) + (ush ((ush p0 (12 : Int32)) &&& (65535 : Int32)) (10 : Int32))) rs rm) + (1 : Int32)))) &&& (-4096 : Int32)) ||| (p0 &&& (4095 : Int32))), rr, ((f_Ref_search ((((rs (ix ((32 : Int32) + (ush p0 (28 : Int32))))) &&& (16777215 : Int32)) &&& (524287 : Int32)) ^^^ ((ush p0 (12 : Int32)) &&& (65535 : Int32))) (((-2147483648 : Int32) + ((128 : Int32) * ((rs (ix ((32 : Int32) + (ush p0 (28 : Int32))))) &&& (16777215 : Int32)))) + (ush ((ush p0 (12 : Int32)) &&& (65535 : Int32)) (10 : Int32))) rs rm) + (1 : Int32))) := by unfold f_Ref_paged; rw [if_pos h1, if_neg h3, if_pos h7, if_pos h14, if_pos h15, if_neg h16]
              exact k_iret hx hb hr hlocks hK hP hD hS [0, 1, 2, 3] rfl (by rw [ef] <;> rfl) (by rw [ef] <;> rfl) d_Ref_paged_245
        · refine lv_iload hx hb d_Ref_paged_190 (lv_at hl 1 rfl) ?_
          refine lv_if_eq (tgt := 217) hx hb d_Ref_paged_192 (by decide) (fun (h18 : ((rm (ix ((f_Ref_search ((((rs (ix ((32 : Int32) + (ush p0 (28 : Int32))))) &&& (16777215 : Int32)) &&& (524287 : Int32)) ^^^ ((ush p0 (12 : Int32)) &&& (65535 : Int32))) (((-2147483648 : Int32) + ((128 : Int32) * ((rs (ix ((32 : Int32) + (ush p0 (28 : Int32))))) &&& (16777215 : Int32)))) + (ush ((ush p0 (12 : Int32)) &&& (65535 : Int32)) (10 : Int32))) rs rm) + (1 : Int32)))) &&& (3 : Int32)) = (0 : Int32)) => ?_) (fun (h18 : ¬ ((rm (ix ((f_Ref_search ((((rs (ix ((32 : Int32) + (ush p0 (28 : Int32))))) &&& (16777215 : Int32)) &&& (524287 : Int32)) ^^^ ((ush p0 (12 : Int32)) &&& (65535 : Int32))) (((-2147483648 : Int32) + ((128 : Int32) * ((rs (ix ((32 : Int32) + (ush p0 (28 : Int32))))) &&& (16777215 : Int32)))) + (ush ((ush p0 (12 : Int32)) &&& (65535 : Int32)) (10 : Int32))) rs rm) + (1 : Int32)))) &&& (3 : Int32)) = (0 : Int32)) => ?_)
          · refine lv_aload_n hx hb d_Ref_paged_217 rfl (lv_at hl 9 rfl) ?_
            refine lv_bipush (v := (-2 : Int32)) hx hb d_Ref_paged_218 (by decide) ?_
            refine va_put (D := D) (ci := 11) (v := .int (-2 : Int32)) (ty := .int) (C := "MappedProcessorModel") (T := T_Ref) (N := 14) hx hb hB iw_Ref ty_Ref ty_Ref_ok nm_Ref hown hK hP hD hS 0 rfl rfl 5 (by decide) (hB _ mw_648) (fun _ h9 => h9) rfl (by decide +kernel) rfl rfl (Nat.le_of_ble_eq_true rfl) d_Ref_paged_220 (fun H locs hP hD hS => ?_)
            have hP : va_P D kCl [(aT, .inr (11, [.ref bG, .ref bS, .ref bM, .int rl, .int rk, .int (-2 : Int32), .int re, .int rc, .int rd, .int ra, .int rb, .int rn, .int rf, .int rw])), (bG, .inl (dG, 32, .inl rg)), (bS, .inl (dS, 48, .inl rs)), (bM, .inl (dM, 16384, .inl rm))] H := hP
            have hD : va_D A [(aT, .inr (11, [.ref bG, .ref bS, .ref bM, .int rl, .int rk, .int (-2 : Int32), .int re, .int rc, .int rd, .int ra, .int rb, .int rn, .int rf, .int rw])), (bG, .inl (dG, 32, .inl rg)), (bS, .inl (dS, 48, .inl rs)), (bM, .inl (dM, 16384, .inl rm))] := hD
            refine lv_iconst (v := (0 : Int32)) hx hb d_Ref_paged_223 (by decide) ?_
            have ef : f_Ref_paged p0 p1 p2 rs rm rr re = ((0 : Int32), (-2 : Int32), re) := by unfold f_Ref_paged; rw [if_pos h1, if_neg h3, if_pos h7, if_neg h14, if_pos h18]
            exact k_iret hx hb hr hlocks hK hP hD hS [0, 1, 2, 3] rfl (by rw [ef] <;> rfl) (by rw [ef] <;> rfl) d_Ref_paged_224
          · refine lv_iload_n hx hb d_Ref_paged_195 rfl (lv_at hl 11 rfl) ?_
            refine lv_iconst (v := (2 : Int32)) hx hb d_Ref_paged_196 (by decide) ?_
            refine lv_icmp_ne (tgt := 225) hx hb d_Ref_paged_197 (by decide) (fun (h19 : ¬ p1 = (2 : Int32)) => ?_) (fun (h19 : p1 = (2 : Int32)) => ?_)
            · refine lv_aload_n hx hb d_Ref_paged_225 rfl (lv_at hl 9 rfl) ?_
              refine lv_iload hx hb d_Ref_paged_226 (lv_at hl 3 rfl) ?_
              refine lv_iconst (v := (1 : Int32)) hx hb d_Ref_paged_228 (by decide) ?_
              refine lv_iadd hx hb d_Ref_paged_229 ?_
              refine va_put (D := D) (ci := 11) (v := .int ((f_Ref_search ((((rs (ix ((32 : Int32) + (ush p0 (28 : Int32))))) &&& (16777215 : Int32)) &&& (524287 : Int32)) ^^^ ((ush p0 (12 : Int32)) &&& (65535 : Int32))) (((-2147483648 : Int32) + ((128 : Int32) * ((rs (ix ((32 : Int32) + (ush p0 (28 : Int32))))) &&& (16777215 : Int32)))) + (ush ((ush p0 (12 : Int32)) &&& (65535 : Int32)) (10 : Int32))) rs rm) + (1 : Int32))) (ty := .int) (C := "MappedProcessorModel") (T := T_Ref) (N := 14) hx hb hB iw_Ref ty_Ref ty_Ref_ok nm_Ref hown hK hP hD hS 0 rfl rfl 6 (by decide) (hB _ mw_649) (fun _ h9 => h9) rfl (by decide +kernel) rfl rfl (Nat.le_of_ble_eq_true rfl) d_Ref_paged_230 (fun H locs hP hD hS => ?_)
              have hP : va_P D kCl [(aT, .inr (11, [.ref bG, .ref bS, .ref bM, .int rl, .int rk, .int rr, .int ((f_Ref_search ((((rs (ix ((32 : Int32) + (ush p0 (28 : Int32))))) &&& (16777215 : Int32)) &&& (524287 : Int32)) ^^^ ((ush p0 (12 : Int32)) &&& (65535 : Int32))) (((-2147483648 : Int32) + ((128 : Int32) * ((rs (ix ((32 : Int32) + (ush p0 (28 : Int32))))) &&& (16777215 : Int32)))) + (ush ((ush p0 (12 : Int32)) &&& (65535 : Int32)) (10 : Int32))) rs rm) + (1 : Int32)), .int rc, .int rd, .int ra, .int rb, .int rn, .int rf, .int rw])), (bG, .inl (dG, 32, .inl rg)), (bS, .inl (dS, 48, .inl rs)), (bM, .inl (dM, 16384, .inl rm))] H := hP
              have hD : va_D A [(aT, .inr (11, [.ref bG, .ref bS, .ref bM, .int rl, .int rk, .int rr, .int ((f_Ref_search ((((rs (ix ((32 : Int32) + (ush p0 (28 : Int32))))) &&& (16777215 : Int32)) &&& (524287 : Int32)) ^^^ ((ush p0 (12 : Int32)) &&& (65535 : Int32))) (((-2147483648 : Int32) + ((128 : Int32) * ((rs (ix ((32 : Int32) + (ush p0 (28 : Int32))))) &&& (16777215 : Int32)))) + (ush ((ush p0 (12 : Int32)) &&& (65535 : Int32)) (10 : Int32))) rs rm) + (1 : Int32)), .int rc, .int rd, .int ra, .int rb, .int rn, .int rf, .int rw])), (bG, .inl (dG, 32, .inl rg)), (bS, .inl (dS, 48, .inl rs)), (bM, .inl (dM, 16384, .inl rm))] := hD
              refine lv_iload hx hb d_Ref_paged_233 (lv_at hl 2 rfl) ?_
              refine lv_sipush (v := (-4096 : Int32)) hx hb d_Ref_paged_235 (by decide) ?_
              refine lv_iand hx hb d_Ref_paged_238 ?_
              refine lv_iload_n hx hb d_Ref_paged_239 rfl (lv_at hl 10 rfl) ?_
              refine lv_sipush (v := (4095 : Int32)) hx hb d_Ref_paged_240 (by decide) ?_
              refine lv_iand hx hb d_Ref_paged_243 ?_
              refine lv_ior hx hb d_Ref_paged_244 ?_
              have ef : f_Ref_paged p0 p1 p2 rs rm rr re = ((((rm (ix ((f_Ref_search ((((rs (ix ((32 : Int32) + (ush p0 (28 : Int32))))) &&& (16777215 : Int32)) &&& (524287 : Int32)) ^^^ ((ush p0 (12 : Int32)) &&& (65535 : Int32))) (((-2147483648 : Int32) + ((128 : Int32) * ((rs (ix ((32 : Int32) + (ush p0 (28 : Int32))))) &&& (16777215 : Int32)))) + (ush ((ush p0 (12 : Int32)) &&& (65535 : Int32)) (10 : Int32))) rs rm) + (1 : Int32)))) &&& (-4096 : Int32)) ||| (p0 &&& (4095 : Int32))), rr, ((f_Ref_search ((((rs (ix ((32 : Int32) + (ush p0 (28 : Int32))))) &&& (16777215 : Int32)) &&& (524287 : Int32)) ^^^ ((ush p0 (12 : Int32)) &&& (65535 : Int32))) (((-2147483648 : Int32) + ((128 : Int32) * ((rs (ix ((32 : Int32) + (ush p0 (28 : Int32))))) &&& (16777215 : Int32)))) + (ush ((ush p0 (12 : Int32)) &&& (65535 : Int32)) (10 : Int32))) rs rm) + (1 : Int32))) := by unfold f_Ref_paged; rw [if_pos h1, if_neg h3, if_pos h7, if_neg h14, if_neg h18, if_neg h19]
              exact k_iret hx hb hr hlocks hK hP hD hS [0, 1, 2, 3] rfl (by rw [ef] <;> rfl) (by rw [ef] <;> rfl) d_Ref_paged_245
            · refine lv_iload hx hb d_Ref_paged_200 (lv_at hl 1 rfl) ?_
              refine lv_iconst (v := (3 : Int32)) hx hb d_Ref_paged_202 (by decide) ?_
              refine lv_icmp_eq (tgt := 217) hx hb d_Ref_paged_203 (by decide) (fun (h20 : ((rm (ix ((f_Ref_search ((((rs (ix ((32 : Int32) + (ush p0 (28 : Int32))))) &&& (16777215 : Int32)) &&& (524287 : Int32)) ^^^ ((ush p0 (12 : Int32)) &&& (65535 : Int32))) (((-2147483648 : Int32) + ((128 : Int32) * ((rs (ix ((32 : Int32) + (ush p0 (28 : Int32))))) &&& (16777215 : Int32)))) + (ush ((ush p0 (12 : Int32)) &&& (65535 : Int32)) (10 : Int32))) rs rm) + (1 : Int32)))) &&& (3 : Int32)) = (3 : Int32)) => ?_) (fun (h20 : ¬ ((rm (ix ((f_Ref_search ((((rs (ix ((32 : Int32) + (ush p0 (28 : Int32))))) &&& (16777215 : Int32)) &&& (524287 : Int32)) ^^^ ((ush p0 (12 : Int32)) &&& (65535 : Int32))) (((-2147483648 : Int32) + ((128 : Int32) * ((rs (ix ((32 : Int32) + (ush p0 (28 : Int32))))) &&& (16777215 : Int32)))) + (ush ((ush p0 (12 : Int32)) &&& (65535 : Int32)) (10 : Int32))) rs rm) + (1 : Int32)))) &&& (3 : Int32)) = (3 : Int32)) => ?_)
              · refine lv_aload_n hx hb d_Ref_paged_217 rfl (lv_at hl 9 rfl) ?_
                refine lv_bipush (v := (-2 : Int32)) hx hb d_Ref_paged_218 (by decide) ?_
                refine va_put (D := D) (ci := 11) (v := .int (-2 : Int32)) (ty := .int) (C := "MappedProcessorModel") (T := T_Ref) (N := 14) hx hb hB iw_Ref ty_Ref ty_Ref_ok nm_Ref hown hK hP hD hS 0 rfl rfl 5 (by decide) (hB _ mw_648) (fun _ h9 => h9) rfl (by decide +kernel) rfl rfl (Nat.le_of_ble_eq_true rfl) d_Ref_paged_220 (fun H locs hP hD hS => ?_)
                have hP : va_P D kCl [(aT, .inr (11, [.ref bG, .ref bS, .ref bM, .int rl, .int rk, .int (-2 : Int32), .int re, .int rc, .int rd, .int ra, .int rb, .int rn, .int rf, .int rw])), (bG, .inl (dG, 32, .inl rg)), (bS, .inl (dS, 48, .inl rs)), (bM, .inl (dM, 16384, .inl rm))] H := hP
                have hD : va_D A [(aT, .inr (11, [.ref bG, .ref bS, .ref bM, .int rl, .int rk, .int (-2 : Int32), .int re, .int rc, .int rd, .int ra, .int rb, .int rn, .int rf, .int rw])), (bG, .inl (dG, 32, .inl rg)), (bS, .inl (dS, 48, .inl rs)), (bM, .inl (dM, 16384, .inl rm))] := hD
                refine lv_iconst (v := (0 : Int32)) hx hb d_Ref_paged_223 (by decide) ?_
                have ef : f_Ref_paged p0 p1 p2 rs rm rr re = ((0 : Int32), (-2 : Int32), re) := by unfold f_Ref_paged; rw [if_pos h1, if_neg h3, if_pos h7, if_neg h14, if_neg h18, if_pos h19, if_pos h20]
                exact k_iret hx hb hr hlocks hK hP hD hS [0, 1, 2, 3] rfl (by rw [ef] <;> rfl) (by rw [ef] <;> rfl) d_Ref_paged_224
              · refine lv_iload hx hb d_Ref_paged_206 (lv_at hl 0 rfl) ?_
                refine lv_if_eq (tgt := 225) hx hb d_Ref_paged_208 (by decide) (fun (h21 : (f_Ref_bit (rs (ix ((32 : Int32) + (ush p0 (28 : Int32))))) (if p2 = (0 : Int32) then (30 : Int32) else (29 : Int32))) = (0 : Int32)) => ?_) (fun (h21 : ¬ (f_Ref_bit (rs (ix ((32 : Int32) + (ush p0 (28 : Int32))))) (if p2 = (0 : Int32) then (30 : Int32) else (29 : Int32))) = (0 : Int32)) => ?_)
                · exact absurd h21 h14
                refine lv_iload hx hb d_Ref_paged_211 (lv_at hl 1 rfl) ?_
                refine lv_iconst (v := (1 : Int32)) hx hb d_Ref_paged_213 (by decide) ?_
                refine lv_icmp_ne (tgt := 225) hx hb d_Ref_paged_214 (by decide) (fun (h22 : ¬ ((rm (ix ((f_Ref_search ((((rs (ix ((32 : Int32) + (ush p0 (28 : Int32))))) &&& (16777215 : Int32)) &&& (524287 : Int32)) ^^^ ((ush p0 (12 : Int32)) &&& (65535 : Int32))) (((-2147483648 : Int32) + ((128 : Int32) * ((rs (ix ((32 : Int32) + (ush p0 (28 : Int32))))) &&& (16777215 : Int32)))) + (ush ((ush p0 (12 : Int32)) &&& (65535 : Int32)) (10 : Int32))) rs rm) + (1 : Int32)))) &&& (3 : Int32)) = (1 : Int32)) => ?_) (fun (h22 : ((rm (ix ((f_Ref_search ((((rs (ix ((32 : Int32) + (ush p0 (28 : Int32))))) &&& (16777215 : Int32)) &&& (524287 : Int32)) ^^^ ((ush p0 (12 : Int32)) &&& (65535 : Int32))) (((-2147483648 : Int32) + ((128 : Int32) * ((rs (ix ((32 : Int32) + (ush p0 (28 : Int32))))) &&& (16777215 : Int32)))) + (ush ((ush p0 (12 : Int32)) &&& (65535 : Int32)) (10 : Int32))) rs rm) + (1 : Int32)))) &&& (3 : Int32)) = (1 : Int32)) => ?_)
                · refine lv_aload_n hx hb d_Ref_paged_225 rfl (lv_at hl 9 rfl) ?_
                  refine lv_iload hx hb d_Ref_paged_226 (lv_at hl 3 rfl) ?_
                  refine lv_iconst (v := (1 : Int32)) hx hb d_Ref_paged_228 (by decide) ?_
                  refine lv_iadd hx hb d_Ref_paged_229 ?_
                  refine va_put (D := D) (ci := 11) (v := .int ((f_Ref_search ((((rs (ix ((32 : Int32) + (ush p0 (28 : Int32))))) &&& (16777215 : Int32)) &&& (524287 : Int32)) ^^^ ((ush p0 (12 : Int32)) &&& (65535 : Int32))) (((-2147483648 : Int32) + ((128 : Int32) * ((rs (ix ((32 : Int32) + (ush p0 (28 : Int32))))) &&& (16777215 : Int32)))) + (ush ((ush p0 (12 : Int32)) &&& (65535 : Int32)) (10 : Int32))) rs rm) + (1 : Int32))) (ty := .int) (C := "MappedProcessorModel") (T := T_Ref) (N := 14) hx hb hB iw_Ref ty_Ref ty_Ref_ok nm_Ref hown hK hP hD hS 0 rfl rfl 6 (by decide) (hB _ mw_649) (fun _ h9 => h9) rfl (by decide +kernel) rfl rfl (Nat.le_of_ble_eq_true rfl) d_Ref_paged_230 (fun H locs hP hD hS => ?_)
                  have hP : va_P D kCl [(aT, .inr (11, [.ref bG, .ref bS, .ref bM, .int rl, .int rk, .int rr, .int ((f_Ref_search ((((rs (ix ((32 : Int32) + (ush p0 (28 : Int32))))) &&& (16777215 : Int32)) &&& (524287 : Int32)) ^^^ ((ush p0 (12 : Int32)) &&& (65535 : Int32))) (((-2147483648 : Int32) + ((128 : Int32) * ((rs (ix ((32 : Int32) + (ush p0 (28 : Int32))))) &&& (16777215 : Int32)))) + (ush ((ush p0 (12 : Int32)) &&& (65535 : Int32)) (10 : Int32))) rs rm) + (1 : Int32)), .int rc, .int rd, .int ra, .int rb, .int rn, .int rf, .int rw])), (bG, .inl (dG, 32, .inl rg)), (bS, .inl (dS, 48, .inl rs)), (bM, .inl (dM, 16384, .inl rm))] H := hP
                  have hD : va_D A [(aT, .inr (11, [.ref bG, .ref bS, .ref bM, .int rl, .int rk, .int rr, .int ((f_Ref_search ((((rs (ix ((32 : Int32) + (ush p0 (28 : Int32))))) &&& (16777215 : Int32)) &&& (524287 : Int32)) ^^^ ((ush p0 (12 : Int32)) &&& (65535 : Int32))) (((-2147483648 : Int32) + ((128 : Int32) * ((rs (ix ((32 : Int32) + (ush p0 (28 : Int32))))) &&& (16777215 : Int32)))) + (ush ((ush p0 (12 : Int32)) &&& (65535 : Int32)) (10 : Int32))) rs rm) + (1 : Int32)), .int rc, .int rd, .int ra, .int rb, .int rn, .int rf, .int rw])), (bG, .inl (dG, 32, .inl rg)), (bS, .inl (dS, 48, .inl rs)), (bM, .inl (dM, 16384, .inl rm))] := hD
                  refine lv_iload hx hb d_Ref_paged_233 (lv_at hl 2 rfl) ?_
                  refine lv_sipush (v := (-4096 : Int32)) hx hb d_Ref_paged_235 (by decide) ?_
                  refine lv_iand hx hb d_Ref_paged_238 ?_
                  refine lv_iload_n hx hb d_Ref_paged_239 rfl (lv_at hl 10 rfl) ?_
                  refine lv_sipush (v := (4095 : Int32)) hx hb d_Ref_paged_240 (by decide) ?_
                  refine lv_iand hx hb d_Ref_paged_243 ?_
                  refine lv_ior hx hb d_Ref_paged_244 ?_
                  have ef : f_Ref_paged p0 p1 p2 rs rm rr re = ((((rm (ix ((f_Ref_search ((((rs (ix ((32 : Int32) + (ush p0 (28 : Int32))))) &&& (16777215 : Int32)) &&& (524287 : Int32)) ^^^ ((ush p0 (12 : Int32)) &&& (65535 : Int32))) (((-2147483648 : Int32) + ((128 : Int32) * ((rs (ix ((32 : Int32) + (ush p0 (28 : Int32))))) &&& (16777215 : Int32)))) + (ush ((ush p0 (12 : Int32)) &&& (65535 : Int32)) (10 : Int32))) rs rm) + (1 : Int32)))) &&& (-4096 : Int32)) ||| (p0 &&& (4095 : Int32))), rr, ((f_Ref_search ((((rs (ix ((32 : Int32) + (ush p0 (28 : Int32))))) &&& (16777215 : Int32)) &&& (524287 : Int32)) ^^^ ((ush p0 (12 : Int32)) &&& (65535 : Int32))) (((-2147483648 : Int32) + ((128 : Int32) * ((rs (ix ((32 : Int32) + (ush p0 (28 : Int32))))) &&& (16777215 : Int32)))) + (ush ((ush p0 (12 : Int32)) &&& (65535 : Int32)) (10 : Int32))) rs rm) + (1 : Int32))) := by unfold f_Ref_paged; rw [if_pos h1, if_neg h3, if_pos h7, if_neg h14, if_neg h18, if_pos h19, if_neg h20, if_neg h22]
                  exact k_iret hx hb hr hlocks hK hP hD hS [0, 1, 2, 3] rfl (by rw [ef] <;> rfl) (by rw [ef] <;> rfl) d_Ref_paged_245
                · refine lv_aload_n hx hb d_Ref_paged_217 rfl (lv_at hl 9 rfl) ?_
                  refine lv_bipush (v := (-2 : Int32)) hx hb d_Ref_paged_218 (by decide) ?_
                  refine va_put (D := D) (ci := 11) (v := .int (-2 : Int32)) (ty := .int) (C := "MappedProcessorModel") (T := T_Ref) (N := 14) hx hb hB iw_Ref ty_Ref ty_Ref_ok nm_Ref hown hK hP hD hS 0 rfl rfl 5 (by decide) (hB _ mw_648) (fun _ h9 => h9) rfl (by decide +kernel) rfl rfl (Nat.le_of_ble_eq_true rfl) d_Ref_paged_220 (fun H locs hP hD hS => ?_)
                  have hP : va_P D kCl [(aT, .inr (11, [.ref bG, .ref bS, .ref bM, .int rl, .int rk, .int (-2 : Int32), .int re, .int rc, .int rd, .int ra, .int rb, .int rn, .int rf, .int rw])), (bG, .inl (dG, 32, .inl rg)), (bS, .inl (dS, 48, .inl rs)), (bM, .inl (dM, 16384, .inl rm))] H := hP
                  have hD : va_D A [(aT, .inr (11, [.ref bG, .ref bS, .ref bM, .int rl, .int rk, .int (-2 : Int32), .int re, .int rc, .int rd, .int ra, .int rb, .int rn, .int rf, .int rw])), (bG, .inl (dG, 32, .inl rg)), (bS, .inl (dS, 48, .inl rs)), (bM, .inl (dM, 16384, .inl rm))] := hD
                  refine lv_iconst (v := (0 : Int32)) hx hb d_Ref_paged_223 (by decide) ?_
                  have ef : f_Ref_paged p0 p1 p2 rs rm rr re = ((0 : Int32), (-2 : Int32), re) := by unfold f_Ref_paged; rw [if_pos h1, if_neg h3, if_pos h7, if_neg h14, if_neg h18, if_pos h19, if_neg h20, if_pos h22]
                  exact k_iret hx hb hr hlocks hK hP hD hS [0, 1, 2, 3] rfl (by rw [ef] <;> rfl) (by rw [ef] <;> rfl) d_Ref_paged_224
      · refine lv_aload_n hx hb d_Ref_paged_118 rfl (lv_at hl 6 rfl) ?_
        refine lv_iload hx hb d_Ref_paged_119 (lv_at hl 2 rfl) ?_
        refine lv_iconst (v := (-1 : Int32)) hx hb d_Ref_paged_121 (by decide) ?_
        refine lv_ixor hx hb d_Ref_paged_122 ?_
        refine lv_iload hx hb d_Ref_paged_123 (lv_at hl 1 rfl) ?_
        refine lv_bipush (v := (64 : Int32)) hx hb d_Ref_paged_125 (by decide) ?_
        refine lv_iadd hx hb d_Ref_paged_127 ?_
        refine k_cVi (As := [.int (((((rs (ix ((32 : Int32) + (ush p0 (28 : Int32))))) &&& (16777215 : Int32)) &&& (524287 : Int32)) ^^^ ((ush p0 (12 : Int32)) &&& (65535 : Int32))) ^^^ (-1 : Int32)), .int ((((-2147483648 : Int32) + ((128 : Int32) * ((rs (ix ((32 : Int32) + (ush p0 (28 : Int32))))) &&& (16777215 : Int32)))) + (ush ((ush p0 (12 : Int32)) &&& (65535 : Int32)) (10 : Int32))) + (64 : Int32))]) (rest := []) (wr := []) (wj := [(aT, .inr (11, [.ref bG, .ref bS, .ref bM, .int rl, .int rk, .int rr, .int re, .int rc, .int rd, .int ra, .int rb, .int rn, .int rf, .int rw])), (bG, .inl (dG, 32, .inl rg)), (bS, .inl (dS, 48, .inl rs)), (bM, .inl (dM, 16384, .inl rm))]) ⟨hx, hb, hml, hown, hB⟩ (c_Ref_search l D aT bG bS bM dG dS dM rg rs rm rl rk rr re rc rd ra rb rn rf rw (((((rs (ix ((32 : Int32) + (ush p0 (28 : Int32))))) &&& (16777215 : Int32)) &&& (524287 : Int32)) ^^^ ((ush p0 (12 : Int32)) &&& (65535 : Int32))) ^^^ (-1 : Int32)) ((((-2147483648 : Int32) + ((128 : Int32) * ((rs (ix ((32 : Int32) + (ush p0 (28 : Int32))))) &&& (16777215 : Int32)))) + (ush ((ush p0 (12 : Int32)) &&& (65535 : Int32)) (10 : Int32))) + (64 : Int32))) yl_Ref_search mw_740 hK hN hP hD hS hA [0, 1, 2] [0, 1, 2, 3] [] [0, 1, 2, 3] rfl rfl rfl rfl (by decide +kernel) 0 rfl rfl rfl rfl hl.1 rfl (Nat.le_of_ble_eq_true rfl) ⟨Nat.le_of_ble_eq_true rfl, Nat.le_of_ble_eq_true rfl⟩ d_Ref_paged_128 ⟨Nat.le_of_ble_eq_true rfl, Nat.le_of_ble_eq_true rfl⟩ (fun H locs hP hD hS => ?_)
        refine lv_goto (tgt := 136) hx hb d_Ref_paged_131 (by decide) ?_
        refine lv_istore (lv' := [(9, .int (f_Ref_search (((((rs (ix ((32 : Int32) + (ush p0 (28 : Int32))))) &&& (16777215 : Int32)) &&& (524287 : Int32)) ^^^ ((ush p0 (12 : Int32)) &&& (65535 : Int32))) ^^^ (-1 : Int32)) ((((-2147483648 : Int32) + ((128 : Int32) * ((rs (ix ((32 : Int32) + (ush p0 (28 : Int32))))) &&& (16777215 : Int32)))) + (ush ((ush p0 (12 : Int32)) &&& (65535 : Int32)) (10 : Int32))) + (64 : Int32)) rs rm)), (8, .int (((-2147483648 : Int32) + ((128 : Int32) * ((rs (ix ((32 : Int32) + (ush p0 (28 : Int32))))) &&& (16777215 : Int32)))) + (ush ((ush p0 (12 : Int32)) &&& (65535 : Int32)) (10 : Int32)))), (7, .int ((((rs (ix ((32 : Int32) + (ush p0 (28 : Int32))))) &&& (16777215 : Int32)) &&& (524287 : Int32)) ^^^ ((ush p0 (12 : Int32)) &&& (65535 : Int32)))), (6, .int ((ush p0 (12 : Int32)) &&& (65535 : Int32))), (5, .int ((rs (ix ((32 : Int32) + (ush p0 (28 : Int32))))) &&& (16777215 : Int32))), (4, .int (rs (ix ((32 : Int32) + (ush p0 (28 : Int32)))))), (0, .ref aT), (1, .int p0), (2, .int p1), (3, .int p2)]) hx hb d_Ref_paged_136 hl (by decide) rfl (fun ls hl => ?_)
        refine lv_iload hx hb d_Ref_paged_138 (lv_at hl 0 rfl) ?_
        refine lv_if_ge (tgt := 150) hx hb d_Ref_paged_140 (by decide) (fun (h23 : (0 : Int32) ≤ (f_Ref_search (((((rs (ix ((32 : Int32) + (ush p0 (28 : Int32))))) &&& (16777215 : Int32)) &&& (524287 : Int32)) ^^^ ((ush p0 (12 : Int32)) &&& (65535 : Int32))) ^^^ (-1 : Int32)) ((((-2147483648 : Int32) + ((128 : Int32) * ((rs (ix ((32 : Int32) + (ush p0 (28 : Int32))))) &&& (16777215 : Int32)))) + (ush ((ush p0 (12 : Int32)) &&& (65535 : Int32)) (10 : Int32))) + (64 : Int32)) rs rm)) => ?_) (fun (h23 : ¬ (0 : Int32) ≤ (f_Ref_search (((((rs (ix ((32 : Int32) + (ush p0 (28 : Int32))))) &&& (16777215 : Int32)) &&& (524287 : Int32)) ^^^ ((ush p0 (12 : Int32)) &&& (65535 : Int32))) ^^^ (-1 : Int32)) ((((-2147483648 : Int32) + ((128 : Int32) * ((rs (ix ((32 : Int32) + (ush p0 (28 : Int32))))) &&& (16777215 : Int32)))) + (ush ((ush p0 (12 : Int32)) &&& (65535 : Int32)) (10 : Int32))) + (64 : Int32)) rs rm)) => ?_)
        · refine lv_aload_n hx hb d_Ref_paged_150 rfl (lv_at hl 6 rfl) ?_
          refine va_get (D := D) (ci := 11) (v := .ref bM) (C := "MappedProcessorModel") (T := T_Ref) (N := 14) hx hb hB iw_Ref hown hK hP 0 rfl rfl 2 (by decide) (hB _ mw_645) (fun _ h9 => h9) rfl d_Ref_paged_151 ?_
          refine lv_iload hx hb d_Ref_paged_154 (lv_at hl 0 rfl) ?_
          refine lv_iconst (v := (1 : Int32)) hx hb d_Ref_paged_156 (by decide) ?_
          refine lv_iadd hx hb d_Ref_paged_157 ?_
          refine k_iald (j := (ix ((f_Ref_search (((((rs (ix ((32 : Int32) + (ush p0 (28 : Int32))))) &&& (16777215 : Int32)) &&& (524287 : Int32)) ^^^ ((ush p0 (12 : Int32)) &&& (65535 : Int32))) ^^^ (-1 : Int32)) ((((-2147483648 : Int32) + ((128 : Int32) * ((rs (ix ((32 : Int32) + (ush p0 (28 : Int32))))) &&& (16777215 : Int32)))) + (ush ((ush p0 (12 : Int32)) &&& (65535 : Int32)) (10 : Int32))) + (64 : Int32)) rs rm) + (1 : Int32)))) hx hb hK hP 3 2 rfl rfl rfl (ix_succ h23 (se_lt _ _ _ _)) d_Ref_paged_158 ?_
          refine lv_istore (lv' := [(10, .int (rm (ix ((f_Ref_search (((((rs (ix ((32 : Int32) + (ush p0 (28 : Int32))))) &&& (16777215 : Int32)) &&& (524287 : Int32)) ^^^ ((ush p0 (12 : Int32)) &&& (65535 : Int32))) ^^^ (-1 : Int32)) ((((-2147483648 : Int32) + ((128 : Int32) * ((rs (ix ((32 : Int32) + (ush p0 (28 : Int32))))) &&& (16777215 : Int32)))) + (ush ((ush p0 (12 : Int32)) &&& (65535 : Int32)) (10 : Int32))) + (64 : Int32)) rs rm) + (1 : Int32))))), (9, .int (f_Ref_search (((((rs (ix ((32 : Int32) + (ush p0 (28 : Int32))))) &&& (16777215 : Int32)) &&& (524287 : Int32)) ^^^ ((ush p0 (12 : Int32)) &&& (65535 : Int32))) ^^^ (-1 : Int32)) ((((-2147483648 : Int32) + ((128 : Int32) * ((rs (ix ((32 : Int32) + (ush p0 (28 : Int32))))) &&& (16777215 : Int32)))) + (ush ((ush p0 (12 : Int32)) &&& (65535 : Int32)) (10 : Int32))) + (64 : Int32)) rs rm)), (8, .int (((-2147483648 : Int32) + ((128 : Int32) * ((rs (ix ((32 : Int32) + (ush p0 (28 : Int32))))) &&& (16777215 : Int32)))) + (ush ((ush p0 (12 : Int32)) &&& (65535 : Int32)) (10 : Int32)))), (7, .int ((((rs (ix ((32 : Int32) + (ush p0 (28 : Int32))))) &&& (16777215 : Int32)) &&& (524287 : Int32)) ^^^ ((ush p0 (12 : Int32)) &&& (65535 : Int32)))), (6, .int ((ush p0 (12 : Int32)) &&& (65535 : Int32))), (5, .int ((rs (ix ((32 : Int32) + (ush p0 (28 : Int32))))) &&& (16777215 : Int32))), (4, .int (rs (ix ((32 : Int32) + (ush p0 (28 : Int32)))))), (0, .ref aT), (1, .int p0), (2, .int p1), (3, .int p2)]) hx hb d_Ref_paged_159 hl (by decide) rfl (fun ls hl => ?_)
          refine lv_iload hx hb d_Ref_paged_161 (lv_at hl 0 rfl) ?_
          refine lv_iconst (v := (3 : Int32)) hx hb d_Ref_paged_163 (by decide) ?_
          refine lv_iand hx hb d_Ref_paged_164 ?_
          refine lv_istore (lv' := [(11, .int ((rm (ix ((f_Ref_search (((((rs (ix ((32 : Int32) + (ush p0 (28 : Int32))))) &&& (16777215 : Int32)) &&& (524287 : Int32)) ^^^ ((ush p0 (12 : Int32)) &&& (65535 : Int32))) ^^^ (-1 : Int32)) ((((-2147483648 : Int32) + ((128 : Int32) * ((rs (ix ((32 : Int32) + (ush p0 (28 : Int32))))) &&& (16777215 : Int32)))) + (ush ((ush p0 (12 : Int32)) &&& (65535 : Int32)) (10 : Int32))) + (64 : Int32)) rs rm) + (1 : Int32)))) &&& (3 : Int32))), (10, .int (rm (ix ((f_Ref_search (((((rs (ix ((32 : Int32) + (ush p0 (28 : Int32))))) &&& (16777215 : Int32)) &&& (524287 : Int32)) ^^^ ((ush p0 (12 : Int32)) &&& (65535 : Int32))) ^^^ (-1 : Int32)) ((((-2147483648 : Int32) + ((128 : Int32) * ((rs (ix ((32 : Int32) + (ush p0 (28 : Int32))))) &&& (16777215 : Int32)))) + (ush ((ush p0 (12 : Int32)) &&& (65535 : Int32)) (10 : Int32))) + (64 : Int32)) rs rm) + (1 : Int32))))), (9, .int (f_Ref_search (((((rs (ix ((32 : Int32) + (ush p0 (28 : Int32))))) &&& (16777215 : Int32)) &&& (524287 : Int32)) ^^^ ((ush p0 (12 : Int32)) &&& (65535 : Int32))) ^^^ (-1 : Int32)) ((((-2147483648 : Int32) + ((128 : Int32) * ((rs (ix ((32 : Int32) + (ush p0 (28 : Int32))))) &&& (16777215 : Int32)))) + (ush ((ush p0 (12 : Int32)) &&& (65535 : Int32)) (10 : Int32))) + (64 : Int32)) rs rm)), (8, .int (((-2147483648 : Int32) + ((128 : Int32) * ((rs (ix ((32 : Int32) + (ush p0 (28 : Int32))))) &&& (16777215 : Int32)))) + (ush ((ush p0 (12 : Int32)) &&& (65535 : Int32)) (10 : Int32)))), (7, .int ((((rs (ix ((32 : Int32) + (ush p0 (28 : Int32))))) &&& (16777215 : Int32)) &&& (524287 : Int32)) ^^^ ((ush p0 (12 : Int32)) &&& (65535 : Int32)))), (6, .int ((ush p0 (12 : Int32)) &&& (65535 : Int32))), (5, .int ((rs (ix ((32 : Int32) + (ush p0 (28 : Int32))))) &&& (16777215 : Int32))), (4, .int (rs (ix ((32 : Int32) + (ush p0 (28 : Int32)))))), (0, .ref aT), (1, .int p0), (2, .int p1), (3, .int p2)]) hx hb d_Ref_paged_165 hl (by decide) rfl (fun ls hl => ?_)
          refine lv_iload hx hb d_Ref_paged_167 (lv_at hl 7 rfl) ?_
          refine lv_iload_n hx hb d_Ref_paged_169 rfl (lv_at hl 11 rfl) ?_
          refine k_join2 (c0 := p2 = (0 : Int32)) (x1 := (30 : Int32)) (x2 := (29 : Int32)) (rest := [.int (rs (ix ((32 : Int32) + (ush p0 (28 : Int32)))))]) 180 ?_ (fun k25 k26 => ?_)
          rotate_left
          · refine lv_if_eq (tgt := 178) hx hb d_Ref_paged_170 (by decide) (fun (h24 : p2 = (0 : Int32)) => ?_) (fun (h24 : ¬ p2 = (0 : Int32)) => ?_)
            · refine lv_bipush (v := (30 : Int32)) hx hb d_Ref_paged_178 (by decide) ?_
              exact k25 h24
            · refine lv_bipush (v := (29 : Int32)) hx hb d_Ref_paged_173 (by decide) ?_
              refine lv_goto (tgt := 180) hx hb d_Ref_paged_175 (by decide) ?_
              exact k26 h24
          refine k_cSi (As := [.int (rs (ix ((32 : Int32) + (ush p0 (28 : Int32))))), .int (if p2 = (0 : Int32) then (30 : Int32) else (29 : Int32))]) (rest := []) (wr := [(aT, .inr (11, [.ref bG, .ref bS, .ref bM, .int rl, .int rk, .int rr, .int re, .int rc, .int rd, .int ra, .int rb, .int rn, .int rf, .int rw])), (bG, .inl (dG, 32, .inl rg)), (bS, .inl (dS, 48, .inl rs)), (bM, .inl (dM, 16384, .inl rm))]) (wj := [(aT, .inr (11, [.ref bG, .ref bS, .ref bM, .int rl, .int rk, .int rr, .int re, .int rc, .int rd, .int ra, .int rb, .int rn, .int rf, .int rw])), (bG, .inl (dG, 32, .inl rg)), (bS, .inl (dS, 48, .inl rs)), (bM, .inl (dM, 16384, .inl rm))]) ⟨hx, hb, hml, hown, hB⟩ (c_Ref_bit l D (rs (ix ((32 : Int32) + (ush p0 (28 : Int32))))) (if p2 = (0 : Int32) then (30 : Int32) else (29 : Int32))) yl_Ref_bit mw_725 hK hN hP hD hS hA [] [] [0, 1, 2, 3] [0, 1, 2, 3] rfl rfl rfl rfl (by decide +kernel) rfl hl.1 rfl (Nat.le_of_ble_eq_true rfl) ⟨Nat.le_of_ble_eq_true rfl, Nat.le_of_ble_eq_true rfl⟩ d_Ref_paged_180 ⟨Nat.le_of_ble_eq_true rfl, Nat.le_of_ble_eq_true rfl⟩ (fun H locs hP hD hS => ?_)
          refine lv_istore (lv' := [(12, .int (f_Ref_bit (rs (ix ((32 : Int32) + (ush p0 (28 : Int32))))) (if p2 = (0 : Int32) then (30 : Int32) else (29 : Int32)))), (11, .int ((rm (ix ((f_Ref_search (((((rs (ix ((32 : Int32) + (ush p0 (28 : Int32))))) &&& (16777215 : Int32)) &&& (524287 : Int32)) ^^^ ((ush p0 (12 : Int32)) &&& (65535 : Int32))) ^^^ (-1 : Int32)) ((((-2147483648 : Int32) + ((128 : Int32) * ((rs (ix ((32 : Int32) + (ush p0 (28 : Int32))))) &&& (16777215 : Int32)))) + (ush ((ush p0 (12 : Int32)) &&& (65535 : Int32)) (10 : Int32))) + (64 : Int32)) rs rm) + (1 : Int32)))) &&& (3 : Int32))), (10, .int (rm (ix ((f_Ref_search (((((rs (ix ((32 : Int32) + (ush p0 (28 : Int32))))) &&& (16777215 : Int32)) &&& (524287 : Int32)) ^^^ ((ush p0 (12 : Int32)) &&& (65535 : Int32))) ^^^ (-1 : Int32)) ((((-2147483648 : Int32) + ((128 : Int32) * ((rs (ix ((32 : Int32) + (ush p0 (28 : Int32))))) &&& (16777215 : Int32)))) + (ush ((ush p0 (12 : Int32)) &&& (65535 : Int32)) (10 : Int32))) + (64 : Int32)) rs rm) + (1 : Int32))))), (9, .int (f_Ref_search (((((rs (ix ((32 : Int32) + (ush p0 (28 : Int32))))) &&& (16777215 : Int32)) &&& (524287 : Int32)) ^^^ ((ush p0 (12 : Int32)) &&& (65535 : Int32))) ^^^ (-1 : Int32)) ((((-2147483648 : Int32) + ((128 : Int32) * ((rs (ix ((32 : Int32) + (ush p0 (28 : Int32))))) &&& (16777215 : Int32)))) + (ush ((ush p0 (12 : Int32)) &&& (65535 : Int32)) (10 : Int32))) + (64 : Int32)) rs rm)), (8, .int (((-2147483648 : Int32) + ((128 : Int32) * ((rs (ix ((32 : Int32) + (ush p0 (28 : Int32))))) &&& (16777215 : Int32)))) + (ush ((ush p0 (12 : Int32)) &&& (65535 : Int32)) (10 : Int32)))), (7, .int ((((rs (ix ((32 : Int32) + (ush p0 (28 : Int32))))) &&& (16777215 : Int32)) &&& (524287 : Int32)) ^^^ ((ush p0 (12 : Int32)) &&& (65535 : Int32)))), (6, .int ((ush p0 (12 : Int32)) &&& (65535 : Int32))), (5, .int ((rs (ix ((32 : Int32) + (ush p0 (28 : Int32))))) &&& (16777215 : Int32))), (4, .int (rs (ix ((32 : Int32) + (ush p0 (28 : Int32)))))), (0, .ref aT), (1, .int p0), (2, .int p1), (3, .int p2)]) hx hb d_Ref_paged_183 hl (by decide) rfl (fun ls hl => ?_)
          refine lv_iload hx hb d_Ref_paged_185 (lv_at hl 0 rfl) ?_
          refine lv_if_eq (tgt := 195) hx hb d_Ref_paged_187 (by decide) (fun (h29 : (f_Ref_bit (rs (ix ((32 : Int32) + (ush p0 (28 : Int32))))) (if p2 = (0 : Int32) then (30 : Int32) else (29 : Int32))) = (0 : Int32)) => ?_) (fun (h29 : ¬ (f_Ref_bit (rs (ix ((32 : Int32) + (ush p0 (28 : Int32))))) (if p2 = (0 : Int32) then (30 : Int32) else (29 : Int32))) = (0 : Int32)) => ?_)
          · refine lv_iload_n hx hb d_Ref_paged_195 rfl (lv_at hl 11 rfl) ?_
            refine lv_iconst (v := (2 : Int32)) hx hb d_Ref_paged_196 (by decide) ?_
            refine lv_icmp_ne (tgt := 225) hx hb d_Ref_paged_197 (by decide) (fun (h30 : ¬ p1 = (2 : Int32)) => ?_) (fun (h30 : p1 = (2 : Int32)) => ?_)
            · refine lv_aload_n hx hb d_Ref_paged_225 rfl (lv_at hl 9 rfl) ?_
              refine lv_iload hx hb d_Ref_paged_226 (lv_at hl 3 rfl) ?_
              refine lv_iconst (v := (1 : Int32)) hx hb d_Ref_paged_228 (by decide) ?_
              refine lv_iadd hx hb d_Ref_paged_229 ?_
              refine va_put (D := D) (ci := 11) (v := .int ((f_Ref_search (((((rs (ix ((32 : Int32) + (ush p0 (28 : Int32))))) &&& (16777215 : Int32)) &&& (524287 : Int32)) ^^^ ((ush p0 (12 : Int32)) &&& (65535 : Int32))) ^^^ (-1 : Int32)) ((((-2147483648 : Int32) + ((128 : Int32) * ((rs (ix ((32 : Int32) + (ush p0 (28 : Int32))))) &&& (16777215 : Int32)))) + (ush ((ush p0 (12 : Int32)) &&& (65535 : Int32)) (10 : Int32))) + (64 : Int32)) rs rm) + (1 : Int32))) (ty := .int) (C := "MappedProcessorModel") (T := T_Ref) (N := 14) hx hb hB iw_Ref ty_Ref ty_Ref_ok nm_Ref hown hK hP hD hS 0 rfl rfl 6 (by decide) (hB _ mw_649) (fun _ h9 => h9) rfl (by decide +kernel) rfl rfl (Nat.le_of_ble_eq_true rfl) d_Ref_paged_230 (fun H locs hP hD hS => ?_)
              have hP : va_P D kCl [(aT, .inr (11, [.ref bG, .ref bS, .ref bM, .int rl, .int rk, .int rr, .int ((f_Ref_search (((((rs (ix ((32 : Int32) + (ush p0 (28 : Int32))))) &&& (16777215 : Int32)) &&& (524287 : Int32)) ^^^ ((ush p0 (12 : Int32)) &&& (65535 : Int32))) ^^^ (-1 : Int32)) ((((-2147483648 : Int32) + ((128 : Int32) * ((rs (ix ((32 : Int32) + (ush p0 (28 : Int32))))) &&& (16777215 : Int32)))) + (ush ((ush p0 (12 : Int32)) &&& (65535 : Int32)) (10 : Int32))) + (64 : Int32)) rs rm) + (1 : Int32)), .int rc, .int rd, .int ra, .int rb, .int rn, .int rf, .int rw])), (bG, .inl (dG, 32, .inl rg)), (bS, .inl (dS, 48, .inl rs)), (bM, .inl (dM, 16384, .inl rm))] H := hP
              have hD : va_D A [(aT, .inr (11, [.ref bG, .ref bS, .ref bM, .int rl, .int rk, .int rr, .int ((f_Ref_search (((((rs (ix ((32 : Int32) + (ush p0 (28 : Int32))))) &&& (16777215 : Int32)) &&& (524287 : Int32)) ^^^ ((ush p0 (12 : Int32)) &&& (65535 : Int32))) ^^^ (-1 : Int32)) ((((-2147483648 : Int32) + ((128 : Int32) * ((rs (ix ((32 : Int32) + (ush p0 (28 : Int32))))) &&& (16777215 : Int32)))) + (ush ((ush p0 (12 : Int32)) &&& (65535 : Int32)) (10 : Int32))) + (64 : Int32)) rs rm) + (1 : Int32)), .int rc, .int rd, .int ra, .int rb, .int rn, .int rf, .int rw])), (bG, .inl (dG, 32, .inl rg)), (bS, .inl (dS, 48, .inl rs)), (bM, .inl (dM, 16384, .inl rm))] := hD
              refine lv_iload hx hb d_Ref_paged_233 (lv_at hl 2 rfl) ?_
              refine lv_sipush (v := (-4096 : Int32)) hx hb d_Ref_paged_235 (by decide) ?_
              refine lv_iand hx hb d_Ref_paged_238 ?_
              refine lv_iload_n hx hb d_Ref_paged_239 rfl (lv_at hl 10 rfl) ?_
              refine lv_sipush (v := (4095 : Int32)) hx hb d_Ref_paged_240 (by decide) ?_
              refine lv_iand hx hb d_Ref_paged_243 ?_
              refine lv_ior hx hb d_Ref_paged_244 ?_
              have ef : f_Ref_paged p0 p1 p2 rs rm rr re = ((((rm (ix ((f_Ref_search (((((rs (ix ((32 : Int32) + (ush p0 (28 : Int32))))) &&& (16777215 : Int32)) &&& (524287 : Int32)) ^^^ ((ush p0 (12 : Int32)) &&& (65535 : Int32))) ^^^ (-1 : Int32)) ((((-2147483648 : Int32) + ((128 : Int32) * ((rs (ix ((32 : Int32) + (ush p0 (28 : Int32))))) &&& (16777215 : Int32)))) + (ush ((ush p0 (12 : Int32)) &&& (65535 : Int32)) (10 : Int32))) + (64 : Int32)) rs rm) + (1 : Int32)))) &&& (-4096 : Int32)) ||| (p0 &&& (4095 : Int32))), rr, ((f_Ref_search (((((rs (ix ((32 : Int32) + (ush p0 (28 : Int32))))) &&& (16777215 : Int32)) &&& (524287 : Int32)) ^^^ ((ush p0 (12 : Int32)) &&& (65535 : Int32))) ^^^ (-1 : Int32)) ((((-2147483648 : Int32) + ((128 : Int32) * ((rs (ix ((32 : Int32) + (ush p0 (28 : Int32))))) &&& (16777215 : Int32)))) + (ush ((ush p0 (12 : Int32)) &&& (65535 : Int32)) (10 : Int32))) + (64 : Int32)) rs rm) + (1 : Int32))) := by unfold f_Ref_paged; rw [if_pos h1, if_neg h3, if_neg h7, if_pos h23, if_pos h29, if_neg h30]
              exact k_iret hx hb hr hlocks hK hP hD hS [0, 1, 2, 3] rfl (by rw [ef] <;> rfl) (by rw [ef] <;> rfl) d_Ref_paged_245
            · refine lv_iload hx hb d_Ref_paged_200 (lv_at hl 1 rfl) ?_
              refine lv_iconst (v := (3 : Int32)) hx hb d_Ref_paged_202 (by decide) ?_
              refine lv_icmp_eq (tgt := 217) hx hb d_Ref_paged_203 (by decide) (fun (h31 : ((rm (ix ((f_Ref_search (((((rs (ix ((32 : Int32) + (ush p0 (28 : Int32))))) &&& (16777215 : Int32)) &&& (524287 : Int32)) ^^^ ((ush p0 (12 : Int32)) &&& (65535 : Int32))) ^^^ (-1 : Int32)) ((((-2147483648 : Int32) + ((128 : Int32) * ((rs (ix ((32 : Int32) + (ush p0 (28 : Int32))))) &&& (16777215 : Int32)))) + (ush ((ush p0 (12 : Int32)) &&& (65535 : Int32)) (10 : Int32))) + (64 : Int32)) rs rm) + (1 : Int32)))) &&& (3 : Int32)) = (3 : Int32)) => ?_) (fun (h31 : ¬ ((rm (ix ((f_Ref_search (((((rs (ix ((32 : Int32) + (ush p0 (28 : Int32))))) &&& (16777215 : Int32)) &&& (524287 : Int32)) ^^^ ((ush p0 (12 : Int32)) &&& (65535 : Int32))) ^^^ (-1 : Int32)) ((((-2147483648 : Int32) + ((128 : Int32) * ((rs (ix ((32 : Int32) + (ush p0 (28 : Int32))))) &&& (16777215 : Int32)))) + (ush ((ush p0 (12 : Int32)) &&& (65535 : Int32)) (10 : Int32))) + (64 : Int32)) rs rm) + (1 : Int32)))) &&& (3 : Int32)) = (3 : Int32)) => ?_)
              · refine lv_aload_n hx hb d_Ref_paged_217 rfl (lv_at hl 9 rfl) ?_
                refine lv_bipush (v := (-2 : Int32)) hx hb d_Ref_paged_218 (by decide) ?_
                refine va_put (D := D) (ci := 11) (v := .int (-2 : Int32)) (ty := .int) (C := "MappedProcessorModel") (T := T_Ref) (N := 14) hx hb hB iw_Ref ty_Ref ty_Ref_ok nm_Ref hown hK hP hD hS 0 rfl rfl 5 (by decide) (hB _ mw_648) (fun _ h9 => h9) rfl (by decide +kernel) rfl rfl (Nat.le_of_ble_eq_true rfl) d_Ref_paged_220 (fun H locs hP hD hS => ?_)
                have hP : va_P D kCl [(aT, .inr (11, [.ref bG, .ref bS, .ref bM, .int rl, .int rk, .int (-2 : Int32), .int re, .int rc, .int rd, .int ra, .int rb, .int rn, .int rf, .int rw])), (bG, .inl (dG, 32, .inl rg)), (bS, .inl (dS, 48, .inl rs)), (bM, .inl (dM, 16384, .inl rm))] H := hP
                have hD : va_D A [(aT, .inr (11, [.ref bG, .ref bS, .ref bM, .int rl, .int rk, .int (-2 : Int32), .int re, .int rc, .int rd, .int ra, .int rb, .int rn, .int rf, .int rw])), (bG, .inl (dG, 32, .inl rg)), (bS, .inl (dS, 48, .inl rs)), (bM, .inl (dM, 16384, .inl rm))] := hD
                refine lv_iconst (v := (0 : Int32)) hx hb d_Ref_paged_223 (by decide) ?_
                have ef : f_Ref_paged p0 p1 p2 rs rm rr re = ((0 : Int32), (-2 : Int32), re) := by unfold f_Ref_paged; rw [if_pos h1, if_neg h3, if_neg h7, if_pos h23, if_pos h29, if_pos h30, if_pos h31]
                exact k_iret hx hb hr hlocks hK hP hD hS [0, 1, 2, 3] rfl (by rw [ef] <;> rfl) (by rw [ef] <;> rfl) d_Ref_paged_224
              · refine lv_iload hx hb d_Ref_paged_206 (lv_at hl 0 rfl) ?_
                refine lv_if_eq (tgt := 225) hx hb d_Ref_paged_208 (by decide) (fun (h32 : (f_Ref_bit (rs (ix ((32 : Int32) + (ush p0 (28 : Int32))))) (if p2 = (0 : Int32) then (30 : Int32) else (29 : Int32))) = (0 : Int32)) => ?_) (fun (h32 : ¬ (f_Ref_bit (rs (ix ((32 : Int32) + (ush p0 (28 : Int32))))) (if p2 = (0 : Int32) then (30 : Int32) else (29 : Int32))) = (0 : Int32)) => ?_)
                rotate_left
                · exact absurd h29 h32
                refine lv_aload_n hx hb d_Ref_paged_225 rfl (lv_at hl 9 rfl) ?_
                refine lv_iload hx hb d_Ref_paged_226 (lv_at hl 3 rfl) ?_
                refine lv_iconst (v := (1 : Int32)) hx hb d_Ref_paged_228 (by decide) ?_
                refine lv_iadd hx hb d_Ref_paged_229 ?_
                refine va_put (D := D) (ci := 11) (v := .int ((f_Ref_search (((((rs (ix ((32 : Int32) + (ush p0 (28 : Int32))))) &&& (16777215 : Int32)) &&& (524287 : Int32)) ^^^ ((ush p0 (12 : Int32)) &&& (65535 : Int32))) ^^^ (-1 : Int32)) ((((-2147483648 : Int32) + ((128 : Int32) * ((rs (ix ((32 : Int32) + (ush p0 (28 : Int32))))) &&& (16777215 : Int32)))) + (ush ((ush p0 (12 : Int32)) &&& (65535 : Int32)) (10 : Int32))) + (64 : Int32)) rs rm) + (1 : Int32))) (ty := .int) (C := "MappedProcessorModel") (T := T_Ref) (N := 14) hx hb hB iw_Ref ty_Ref ty_Ref_ok nm_Ref hown hK hP hD hS 0 rfl rfl 6 (by decide) (hB _ mw_649) (fun _ h9 => h9) rfl (by decide +kernel) rfl rfl (Nat.le_of_ble_eq_true rfl) d_Ref_paged_230 (fun H locs hP hD hS => ?_)
                have hP : va_P D kCl [(aT, .inr (11, [.ref bG, .ref bS, .ref bM, .int rl, .int rk, .int rr, .int ((f_Ref_search (((((rs (ix ((32 : Int32) + (ush p0 (28 : Int32))))) &&& (16777215 : Int32)) &&& (524287 : Int32)) ^^^ ((ush p0 (12 : Int32)) &&& (65535 : Int32))) ^^^ (-1 : Int32)) ((((-2147483648 : Int32) + ((128 : Int32) * ((rs (ix ((32 : Int32) + (ush p0 (28 : Int32))))) &&& (16777215 : Int32)))) + (ush ((ush p0 (12 : Int32)) &&& (65535 : Int32)) (10 : Int32))) + (64 : Int32)) rs rm) + (1 : Int32)), .int rc, .int rd, .int ra, .int rb, .int rn, .int rf, .int rw])), (bG, .inl (dG, 32, .inl rg)), (bS, .inl (dS, 48, .inl rs)), (bM, .inl (dM, 16384, .inl rm))] H := hP
                have hD : va_D A [(aT, .inr (11, [.ref bG, .ref bS, .ref bM, .int rl, .int rk, .int rr, .int ((f_Ref_search (((((rs (ix ((32 : Int32) + (ush p0 (28 : Int32))))) &&& (16777215 : Int32)) &&& (524287 : Int32)) ^^^ ((ush p0 (12 : Int32)) &&& (65535 : Int32))) ^^^ (-1 : Int32)) ((((-2147483648 : Int32) + ((128 : Int32) * ((rs (ix ((32 : Int32) + (ush p0 (28 : Int32))))) &&& (16777215 : Int32)))) + (ush ((ush p0 (12 : Int32)) &&& (65535 : Int32)) (10 : Int32))) + (64 : Int32)) rs rm) + (1 : Int32)), .int rc, .int rd, .int ra, .int rb, .int rn, .int rf, .int rw])), (bG, .inl (dG, 32, .inl rg)), (bS, .inl (dS, 48, .inl rs)), (bM, .inl (dM, 16384, .inl rm))] := hD
                refine lv_iload hx hb d_Ref_paged_233 (lv_at hl 2 rfl) ?_
                refine lv_sipush (v := (-4096 : Int32)) hx hb d_Ref_paged_235 (by decide) ?_
                refine lv_iand hx hb d_Ref_paged_238 ?_
                refine lv_iload_n hx hb d_Ref_paged_239 rfl (lv_at hl 10 rfl) ?_
                refine lv_sipush (v := (4095 : Int32)) hx hb d_Ref_paged_240 (by decide) ?_
                refine lv_iand hx hb d_Ref_paged_243 ?_
                refine lv_ior hx hb d_Ref_paged_244 ?_
                have ef : f_Ref_paged p0 p1 p2 rs rm rr re = ((((rm (ix ((f_Ref_search (((((rs (ix ((32 : Int32) + (ush p0 (28 : Int32))))) &&& (16777215 : Int32)) &&& (524287 : Int32)) ^^^ ((ush p0 (12 : Int32)) &&& (65535 : Int32))) ^^^ (-1 : Int32)) ((((-2147483648 : Int32) + ((128 : Int32) * ((rs (ix ((32 : Int32) + (ush p0 (28 : Int32))))) &&& (16777215 : Int32)))) + (ush ((ush p0 (12 : Int32)) &&& (65535 : Int32)) (10 : Int32))) + (64 : Int32)) rs rm) + (1 : Int32)))) &&& (-4096 : Int32)) ||| (p0 &&& (4095 : Int32))), rr, ((f_Ref_search (((((rs (ix ((32 : Int32) + (ush p0 (28 : Int32))))) &&& (16777215 : Int32)) &&& (524287 : Int32)) ^^^ ((ush p0 (12 : Int32)) &&& (65535 : Int32))) ^^^ (-1 : Int32)) ((((-2147483648 : Int32) + ((128 : Int32) * ((rs (ix ((32 : Int32) + (ush p0 (28 : Int32))))) &&& (16777215 : Int32)))) + (ush ((ush p0 (12 : Int32)) &&& (65535 : Int32)) (10 : Int32))) + (64 : Int32)) rs rm) + (1 : Int32))) := by unfold f_Ref_paged; rw [if_pos h1, if_neg h3, if_neg h7, if_pos h23, if_pos h29, if_pos h30, if_neg h31]
                exact k_iret hx hb hr hlocks hK hP hD hS [0, 1, 2, 3] rfl (by rw [ef] <;> rfl) (by rw [ef] <;> rfl) d_Ref_paged_245
          · refine lv_iload hx hb d_Ref_paged_190 (lv_at hl 1 rfl) ?_
            refine lv_if_eq (tgt := 217) hx hb d_Ref_paged_192 (by decide) (fun (h33 : ((rm (ix ((f_Ref_search (((((rs (ix ((32 : Int32) + (ush p0 (28 : Int32))))) &&& (16777215 : Int32)) &&& (524287 : Int32)) ^^^ ((ush p0 (12 : Int32)) &&& (65535 : Int32))) ^^^ (-1 : Int32)) ((((-2147483648 : Int32) + ((128 : Int32) * ((rs (ix ((32 : Int32) + (ush p0 (28 : Int32))))) &&& (16777215 : Int32)))) + (ush ((ush p0 (12 : Int32)) &&& (65535 : Int32)) (10 : Int32))) + (64 : Int32)) rs rm) + (1 : Int32)))) &&& (3 : Int32)) = (0 : Int32)) => ?_) (fun (h33 : ¬ ((rm (ix ((f_Ref_search (((((rs (ix ((32 : Int32) + (ush p0 (28 : Int32))))) &&& (16777215 : Int32)) &&& (524287 : Int32)) ^^^ ((ush p0 (12 : Int32)) &&& (65535 : Int32))) ^^^ (-1 : Int32)) ((((-2147483648 : Int32) + ((128 : Int32) * ((rs (ix ((32 : Int32) + (ush p0 (28 : Int32))))) &&& (16777215 : Int32)))) + (ush ((ush p0 (12 : Int32)) &&& (65535 : Int32)) (10 : Int32))) + (64 : Int32)) rs rm) + (1 : Int32)))) &&& (3 : Int32)) = (0 : Int32)) => ?_)
            · refine lv_aload_n hx hb d_Ref_paged_217 rfl (lv_at hl 9 rfl) ?_
              refine lv_bipush (v := (-2 : Int32)) hx hb d_Ref_paged_218 (by decide) ?_
              refine va_put (D := D) (ci := 11) (v := .int (-2 : Int32)) (ty := .int) (C := "MappedProcessorModel") (T := T_Ref) (N := 14) hx hb hB iw_Ref ty_Ref ty_Ref_ok nm_Ref hown hK hP hD hS 0 rfl rfl 5 (by decide) (hB _ mw_648) (fun _ h9 => h9) rfl (by decide +kernel) rfl rfl (Nat.le_of_ble_eq_true rfl) d_Ref_paged_220 (fun H locs hP hD hS => ?_)
              have hP : va_P D kCl [(aT, .inr (11, [.ref bG, .ref bS, .ref bM, .int rl, .int rk, .int (-2 : Int32), .int re, .int rc, .int rd, .int ra, .int rb, .int rn, .int rf, .int rw])), (bG, .inl (dG, 32, .inl rg)), (bS, .inl (dS, 48, .inl rs)), (bM, .inl (dM, 16384, .inl rm))] H := hP
              have hD : va_D A [(aT, .inr (11, [.ref bG, .ref bS, .ref bM, .int rl, .int rk, .int (-2 : Int32), .int re, .int rc, .int rd, .int ra, .int rb, .int rn, .int rf, .int rw])), (bG, .inl (dG, 32, .inl rg)), (bS, .inl (dS, 48, .inl rs)), (bM, .inl (dM, 16384, .inl rm))] := hD
              refine lv_iconst (v := (0 : Int32)) hx hb d_Ref_paged_223 (by decide) ?_
              have ef : f_Ref_paged p0 p1 p2 rs rm rr re = ((0 : Int32), (-2 : Int32), re) := by unfold f_Ref_paged; rw [if_pos h1, if_neg h3, if_neg h7, if_pos h23, if_neg h29, if_pos h33]
              exact k_iret hx hb hr hlocks hK hP hD hS [0, 1, 2, 3] rfl (by rw [ef] <;> rfl) (by rw [ef] <;> rfl) d_Ref_paged_224
            · refine lv_iload_n hx hb d_Ref_paged_195 rfl (lv_at hl 11 rfl) ?_
              refine lv_iconst (v := (2 : Int32)) hx hb d_Ref_paged_196 (by decide) ?_
              refine lv_icmp_ne (tgt := 225) hx hb d_Ref_paged_197 (by decide) (fun (h34 : ¬ p1 = (2 : Int32)) => ?_) (fun (h34 : p1 = (2 : Int32)) => ?_)
              · refine lv_aload_n hx hb d_Ref_paged_225 rfl (lv_at hl 9 rfl) ?_
                refine lv_iload hx hb d_Ref_paged_226 (lv_at hl 3 rfl) ?_
                refine lv_iconst (v := (1 : Int32)) hx hb d_Ref_paged_228 (by decide) ?_
                refine lv_iadd hx hb d_Ref_paged_229 ?_
                refine va_put (D := D) (ci := 11) (v := .int ((f_Ref_search (((((rs (ix ((32 : Int32) + (ush p0 (28 : Int32))))) &&& (16777215 : Int32)) &&& (524287 : Int32)) ^^^ ((ush p0 (12 : Int32)) &&& (65535 : Int32))) ^^^ (-1 : Int32)) ((((-2147483648 : Int32) + ((128 : Int32) * ((rs (ix ((32 : Int32) + (ush p0 (28 : Int32))))) &&& (16777215 : Int32)))) + (ush ((ush p0 (12 : Int32)) &&& (65535 : Int32)) (10 : Int32))) + (64 : Int32)) rs rm) + (1 : Int32))) (ty := .int) (C := "MappedProcessorModel") (T := T_Ref) (N := 14) hx hb hB iw_Ref ty_Ref ty_Ref_ok nm_Ref hown hK hP hD hS 0 rfl rfl 6 (by decide) (hB _ mw_649) (fun _ h9 => h9) rfl (by decide +kernel) rfl rfl (Nat.le_of_ble_eq_true rfl) d_Ref_paged_230 (fun H locs hP hD hS => ?_)
                have hP : va_P D kCl [(aT, .inr (11, [.ref bG, .ref bS, .ref bM, .int rl, .int rk, .int rr, .int ((f_Ref_search (((((rs (ix ((32 : Int32) + (ush p0 (28 : Int32))))) &&& (16777215 : Int32)) &&& (524287 : Int32)) ^^^ ((ush p0 (12 : Int32)) &&& (65535 : Int32))) ^^^ (-1 : Int32)) ((((-2147483648 : Int32) + ((128 : Int32) * ((rs (ix ((32 : Int32) + (ush p0 (28 : Int32))))) &&& (16777215 : Int32)))) + (ush ((ush p0 (12 : Int32)) &&& (65535 : Int32)) (10 : Int32))) + (64 : Int32)) rs rm) + (1 : Int32)), .int rc, .int rd, .int ra, .int rb, .int rn, .int rf, .int rw])), (bG, .inl (dG, 32, .inl rg)), (bS, .inl (dS, 48, .inl rs)), (bM, .inl (dM, 16384, .inl rm))] H := hP
                have hD : va_D A [(aT, .inr (11, [.ref bG, .ref bS, .ref bM, .int rl, .int rk, .int rr, .int ((f_Ref_search (((((rs (ix ((32 : Int32) + (ush p0 (28 : Int32))))) &&& (16777215 : Int32)) &&& (524287 : Int32)) ^^^ ((ush p0 (12 : Int32)) &&& (65535 : Int32))) ^^^ (-1 : Int32)) ((((-2147483648 : Int32) + ((128 : Int32) * ((rs (ix ((32 : Int32) + (ush p0 (28 : Int32))))) &&& (16777215 : Int32)))) + (ush ((ush p0 (12 : Int32)) &&& (65535 : Int32)) (10 : Int32))) + (64 : Int32)) rs rm) + (1 : Int32)), .int rc, .int rd, .int ra, .int rb, .int rn, .int rf, .int rw])), (bG, .inl (dG, 32, .inl rg)), (bS, .inl (dS, 48, .inl rs)), (bM, .inl (dM, 16384, .inl rm))] := hD
                refine lv_iload hx hb d_Ref_paged_233 (lv_at hl 2 rfl) ?_
                refine lv_sipush (v := (-4096 : Int32)) hx hb d_Ref_paged_235 (by decide) ?_
                refine lv_iand hx hb d_Ref_paged_238 ?_
                refine lv_iload_n hx hb d_Ref_paged_239 rfl (lv_at hl 10 rfl) ?_
                refine lv_sipush (v := (4095 : Int32)) hx hb d_Ref_paged_240 (by decide) ?_
                refine lv_iand hx hb d_Ref_paged_243 ?_
                refine lv_ior hx hb d_Ref_paged_244 ?_
                have ef : f_Ref_paged p0 p1 p2 rs rm rr re = ((((rm (ix ((f_Ref_search (((((rs (ix ((32 : Int32) + (ush p0 (28 : Int32))))) &&& (16777215 : Int32)) &&& (524287 : Int32)) ^^^ ((ush p0 (12 : Int32)) &&& (65535 : Int32))) ^^^ (-1 : Int32)) ((((-2147483648 : Int32) + ((128 : Int32) * ((rs (ix ((32 : Int32) + (ush p0 (28 : Int32))))) &&& (16777215 : Int32)))) + (ush ((ush p0 (12 : Int32)) &&& (65535 : Int32)) (10 : Int32))) + (64 : Int32)) rs rm) + (1 : Int32)))) &&& (-4096 : Int32)) ||| (p0 &&& (4095 : Int32))), rr, ((f_Ref_search (((((rs (ix ((32 : Int32) + (ush p0 (28 : Int32))))) &&& (16777215 : Int32)) &&& (524287 : Int32)) ^^^ ((ush p0 (12 : Int32)) &&& (65535 : Int32))) ^^^ (-1 : Int32)) ((((-2147483648 : Int32) + ((128 : Int32) * ((rs (ix ((32 : Int32) + (ush p0 (28 : Int32))))) &&& (16777215 : Int32)))) + (ush ((ush p0 (12 : Int32)) &&& (65535 : Int32)) (10 : Int32))) + (64 : Int32)) rs rm) + (1 : Int32))) := by unfold f_Ref_paged; rw [if_pos h1, if_neg h3, if_neg h7, if_pos h23, if_neg h29, if_neg h33, if_neg h34]
                exact k_iret hx hb hr hlocks hK hP hD hS [0, 1, 2, 3] rfl (by rw [ef] <;> rfl) (by rw [ef] <;> rfl) d_Ref_paged_245
              · refine lv_iload hx hb d_Ref_paged_200 (lv_at hl 1 rfl) ?_
                refine lv_iconst (v := (3 : Int32)) hx hb d_Ref_paged_202 (by decide) ?_
                refine lv_icmp_eq (tgt := 217) hx hb d_Ref_paged_203 (by decide) (fun (h35 : ((rm (ix ((f_Ref_search (((((rs (ix ((32 : Int32) + (ush p0 (28 : Int32))))) &&& (16777215 : Int32)) &&& (524287 : Int32)) ^^^ ((ush p0 (12 : Int32)) &&& (65535 : Int32))) ^^^ (-1 : Int32)) ((((-2147483648 : Int32) + ((128 : Int32) * ((rs (ix ((32 : Int32) + (ush p0 (28 : Int32))))) &&& (16777215 : Int32)))) + (ush ((ush p0 (12 : Int32)) &&& (65535 : Int32)) (10 : Int32))) + (64 : Int32)) rs rm) + (1 : Int32)))) &&& (3 : Int32)) = (3 : Int32)) => ?_) (fun (h35 : ¬ ((rm (ix ((f_Ref_search (((((rs (ix ((32 : Int32) + (ush p0 (28 : Int32))))) &&& (16777215 : Int32)) &&& (524287 : Int32)) ^^^ ((ush p0 (12 : Int32)) &&& (65535 : Int32))) ^^^ (-1 : Int32)) ((((-2147483648 : Int32) + ((128 : Int32) * ((rs (ix ((32 : Int32) + (ush p0 (28 : Int32))))) &&& (16777215 : Int32)))) + (ush ((ush p0 (12 : Int32)) &&& (65535 : Int32)) (10 : Int32))) + (64 : Int32)) rs rm) + (1 : Int32)))) &&& (3 : Int32)) = (3 : Int32)) => ?_)
                · refine lv_aload_n hx hb d_Ref_paged_217 rfl (lv_at hl 9 rfl) ?_
                  refine lv_bipush (v := (-2 : Int32)) hx hb d_Ref_paged_218 (by decide) ?_
                  refine va_put (D := D) (ci := 11) (v := .int (-2 : Int32)) (ty := .int) (C := "MappedProcessorModel") (T := T_Ref) (N := 14) hx hb hB iw_Ref ty_Ref ty_Ref_ok nm_Ref hown hK hP hD hS 0 rfl rfl 5 (by decide) (hB _ mw_648) (fun _ h9 => h9) rfl (by decide +kernel) rfl rfl (Nat.le_of_ble_eq_true rfl) d_Ref_paged_220 (fun H locs hP hD hS => ?_)
                  have hP : va_P D kCl [(aT, .inr (11, [.ref bG, .ref bS, .ref bM, .int rl, .int rk, .int (-2 : Int32), .int re, .int rc, .int rd, .int ra, .int rb, .int rn, .int rf, .int rw])), (bG, .inl (dG, 32, .inl rg)), (bS, .inl (dS, 48, .inl rs)), (bM, .inl (dM, 16384, .inl rm))] H := hP
                  have hD : va_D A [(aT, .inr (11, [.ref bG, .ref bS, .ref bM, .int rl, .int rk, .int (-2 : Int32), .int re, .int rc, .int rd, .int ra, .int rb, .int rn, .int rf, .int rw])), (bG, .inl (dG, 32, .inl rg)), (bS, .inl (dS, 48, .inl rs)), (bM, .inl (dM, 16384, .inl rm))] := hD
                  refine lv_iconst (v := (0 : Int32)) hx hb d_Ref_paged_223 (by decide) ?_
                  have ef : f_Ref_paged p0 p1 p2 rs rm rr re = ((0 : Int32), (-2 : Int32), re) := by unfold f_Ref_paged; rw [if_pos h1, if_neg h3, if_neg h7, if_pos h23, if_neg h29, if_neg h33, if_pos h34, if_pos h35]
                  exact k_iret hx hb hr hlocks hK hP hD hS [0, 1, 2, 3] rfl (by rw [ef] <;> rfl) (by rw [ef] <;> rfl) d_Ref_paged_224
                · refine lv_iload hx hb d_Ref_paged_206 (lv_at hl 0 rfl) ?_
                  refine lv_if_eq (tgt := 225) hx hb d_Ref_paged_208 (by decide) (fun (h36 : (f_Ref_bit (rs (ix ((32 : Int32) + (ush p0 (28 : Int32))))) (if p2 = (0 : Int32) then (30 : Int32) else (29 : Int32))) = (0 : Int32)) => ?_) (fun (h36 : ¬ (f_Ref_bit (rs (ix ((32 : Int32) + (ush p0 (28 : Int32))))) (if p2 = (0 : Int32) then (30 : Int32) else (29 : Int32))) = (0 : Int32)) => ?_)
                  · exact absurd h36 h29
                  refine lv_iload hx hb d_Ref_paged_211 (lv_at hl 1 rfl) ?_
                  refine lv_iconst (v := (1 : Int32)) hx hb d_Ref_paged_213 (by decide) ?_
                  refine lv_icmp_ne (tgt := 225) hx hb d_Ref_paged_214 (by decide) (fun (h37 : ¬ ((rm (ix ((f_Ref_search (((((rs (ix ((32 : Int32) + (ush p0 (28 : Int32))))) &&& (16777215 : Int32)) &&& (524287 : Int32)) ^^^ ((ush p0 (12 : Int32)) &&& (65535 : Int32))) ^^^ (-1 : Int32)) ((((-2147483648 : Int32) + ((128 : Int32) * ((rs (ix ((32 : Int32) + (ush p0 (28 : Int32))))) &&& (16777215 : Int32)))) + (ush ((ush p0 (12 : Int32)) &&& (65535 : Int32)) (10 : Int32))) + (64 : Int32)) rs rm) + (1 : Int32)))) &&& (3 : Int32)) = (1 : Int32)) => ?_) (fun (h37 : ((rm (ix ((f_Ref_search (((((rs (ix ((32 : Int32) + (ush p0 (28 : Int32))))) &&& (16777215 : Int32)) &&& (524287 : Int32)) ^^^ ((ush p0 (12 : Int32)) &&& (65535 : Int32))) ^^^ (-1 : Int32)) ((((-2147483648 : Int32) + ((128 : Int32) * ((rs (ix ((32 : Int32) + (ush p0 (28 : Int32))))) &&& (16777215 : Int32)))) + (ush ((ush p0 (12 : Int32)) &&& (65535 : Int32)) (10 : Int32))) + (64 : Int32)) rs rm) + (1 : Int32)))) &&& (3 : Int32)) = (1 : Int32)) => ?_)
                  · refine lv_aload_n hx hb d_Ref_paged_225 rfl (lv_at hl 9 rfl) ?_
                    refine lv_iload hx hb d_Ref_paged_226 (lv_at hl 3 rfl) ?_
                    refine lv_iconst (v := (1 : Int32)) hx hb d_Ref_paged_228 (by decide) ?_
                    refine lv_iadd hx hb d_Ref_paged_229 ?_
                    refine va_put (D := D) (ci := 11) (v := .int ((f_Ref_search (((((rs (ix ((32 : Int32) + (ush p0 (28 : Int32))))) &&& (16777215 : Int32)) &&& (524287 : Int32)) ^^^ ((ush p0 (12 : Int32)) &&& (65535 : Int32))) ^^^ (-1 : Int32)) ((((-2147483648 : Int32) + ((128 : Int32) * ((rs (ix ((32 : Int32) + (ush p0 (28 : Int32))))) &&& (16777215 : Int32)))) + (ush ((ush p0 (12 : Int32)) &&& (65535 : Int32)) (10 : Int32))) + (64 : Int32)) rs rm) + (1 : Int32))) (ty := .int) (C := "MappedProcessorModel") (T := T_Ref) (N := 14) hx hb hB iw_Ref ty_Ref ty_Ref_ok nm_Ref hown hK hP hD hS 0 rfl rfl 6 (by decide) (hB _ mw_649) (fun _ h9 => h9) rfl (by decide +kernel) rfl rfl (Nat.le_of_ble_eq_true rfl) d_Ref_paged_230 (fun H locs hP hD hS => ?_)
                    have hP : va_P D kCl [(aT, .inr (11, [.ref bG, .ref bS, .ref bM, .int rl, .int rk, .int rr, .int ((f_Ref_search (((((rs (ix ((32 : Int32) + (ush p0 (28 : Int32))))) &&& (16777215 : Int32)) &&& (524287 : Int32)) ^^^ ((ush p0 (12 : Int32)) &&& (65535 : Int32))) ^^^ (-1 : Int32)) ((((-2147483648 : Int32) + ((128 : Int32) * ((rs (ix ((32 : Int32) + (ush p0 (28 : Int32))))) &&& (16777215 : Int32)))) + (ush ((ush p0 (12 : Int32)) &&& (65535 : Int32)) (10 : Int32))) + (64 : Int32)) rs rm) + (1 : Int32)), .int rc, .int rd, .int ra, .int rb, .int rn, .int rf, .int rw])), (bG, .inl (dG, 32, .inl rg)), (bS, .inl (dS, 48, .inl rs)), (bM, .inl (dM, 16384, .inl rm))] H := hP
                    have hD : va_D A [(aT, .inr (11, [.ref bG, .ref bS, .ref bM, .int rl, .int rk, .int rr, .int ((f_Ref_search (((((rs (ix ((32 : Int32) + (ush p0 (28 : Int32))))) &&& (16777215 : Int32)) &&& (524287 : Int32)) ^^^ ((ush p0 (12 : Int32)) &&& (65535 : Int32))) ^^^ (-1 : Int32)) ((((-2147483648 : Int32) + ((128 : Int32) * ((rs (ix ((32 : Int32) + (ush p0 (28 : Int32))))) &&& (16777215 : Int32)))) + (ush ((ush p0 (12 : Int32)) &&& (65535 : Int32)) (10 : Int32))) + (64 : Int32)) rs rm) + (1 : Int32)), .int rc, .int rd, .int ra, .int rb, .int rn, .int rf, .int rw])), (bG, .inl (dG, 32, .inl rg)), (bS, .inl (dS, 48, .inl rs)), (bM, .inl (dM, 16384, .inl rm))] := hD
                    refine lv_iload hx hb d_Ref_paged_233 (lv_at hl 2 rfl) ?_
                    refine lv_sipush (v := (-4096 : Int32)) hx hb d_Ref_paged_235 (by decide) ?_
                    refine lv_iand hx hb d_Ref_paged_238 ?_
                    refine lv_iload_n hx hb d_Ref_paged_239 rfl (lv_at hl 10 rfl) ?_
                    refine lv_sipush (v := (4095 : Int32)) hx hb d_Ref_paged_240 (by decide) ?_
                    refine lv_iand hx hb d_Ref_paged_243 ?_
                    refine lv_ior hx hb d_Ref_paged_244 ?_
                    have ef : f_Ref_paged p0 p1 p2 rs rm rr re = ((((rm (ix ((f_Ref_search (((((rs (ix ((32 : Int32) + (ush p0 (28 : Int32))))) &&& (16777215 : Int32)) &&& (524287 : Int32)) ^^^ ((ush p0 (12 : Int32)) &&& (65535 : Int32))) ^^^ (-1 : Int32)) ((((-2147483648 : Int32) + ((128 : Int32) * ((rs (ix ((32 : Int32) + (ush p0 (28 : Int32))))) &&& (16777215 : Int32)))) + (ush ((ush p0 (12 : Int32)) &&& (65535 : Int32)) (10 : Int32))) + (64 : Int32)) rs rm) + (1 : Int32)))) &&& (-4096 : Int32)) ||| (p0 &&& (4095 : Int32))), rr, ((f_Ref_search (((((rs (ix ((32 : Int32) + (ush p0 (28 : Int32))))) &&& (16777215 : Int32)) &&& (524287 : Int32)) ^^^ ((ush p0 (12 : Int32)) &&& (65535 : Int32))) ^^^ (-1 : Int32)) ((((-2147483648 : Int32) + ((128 : Int32) * ((rs (ix ((32 : Int32) + (ush p0 (28 : Int32))))) &&& (16777215 : Int32)))) + (ush ((ush p0 (12 : Int32)) &&& (65535 : Int32)) (10 : Int32))) + (64 : Int32)) rs rm) + (1 : Int32))) := by unfold f_Ref_paged; rw [if_pos h1, if_neg h3, if_neg h7, if_pos h23, if_neg h29, if_neg h33, if_pos h34, if_neg h35, if_neg h37]
                    exact k_iret hx hb hr hlocks hK hP hD hS [0, 1, 2, 3] rfl (by rw [ef] <;> rfl) (by rw [ef] <;> rfl) d_Ref_paged_245
                  · refine lv_aload_n hx hb d_Ref_paged_217 rfl (lv_at hl 9 rfl) ?_
                    refine lv_bipush (v := (-2 : Int32)) hx hb d_Ref_paged_218 (by decide) ?_
                    refine va_put (D := D) (ci := 11) (v := .int (-2 : Int32)) (ty := .int) (C := "MappedProcessorModel") (T := T_Ref) (N := 14) hx hb hB iw_Ref ty_Ref ty_Ref_ok nm_Ref hown hK hP hD hS 0 rfl rfl 5 (by decide) (hB _ mw_648) (fun _ h9 => h9) rfl (by decide +kernel) rfl rfl (Nat.le_of_ble_eq_true rfl) d_Ref_paged_220 (fun H locs hP hD hS => ?_)
                    have hP : va_P D kCl [(aT, .inr (11, [.ref bG, .ref bS, .ref bM, .int rl, .int rk, .int (-2 : Int32), .int re, .int rc, .int rd, .int ra, .int rb, .int rn, .int rf, .int rw])), (bG, .inl (dG, 32, .inl rg)), (bS, .inl (dS, 48, .inl rs)), (bM, .inl (dM, 16384, .inl rm))] H := hP
                    have hD : va_D A [(aT, .inr (11, [.ref bG, .ref bS, .ref bM, .int rl, .int rk, .int (-2 : Int32), .int re, .int rc, .int rd, .int ra, .int rb, .int rn, .int rf, .int rw])), (bG, .inl (dG, 32, .inl rg)), (bS, .inl (dS, 48, .inl rs)), (bM, .inl (dM, 16384, .inl rm))] := hD
                    refine lv_iconst (v := (0 : Int32)) hx hb d_Ref_paged_223 (by decide) ?_
                    have ef : f_Ref_paged p0 p1 p2 rs rm rr re = ((0 : Int32), (-2 : Int32), re) := by unfold f_Ref_paged; rw [if_pos h1, if_neg h3, if_neg h7, if_pos h23, if_neg h29, if_neg h33, if_pos h34, if_neg h35, if_pos h37]
                    exact k_iret hx hb hr hlocks hK hP hD hS [0, 1, 2, 3] rfl (by rw [ef] <;> rfl) (by rw [ef] <;> rfl) d_Ref_paged_224
        · refine lv_aload_n hx hb d_Ref_paged_143 rfl (lv_at hl 6 rfl) ?_
          refine lv_iconst (v := (-1 : Int32)) hx hb d_Ref_paged_144 (by decide) ?_
          refine va_put (D := D) (ci := 11) (v := .int (-1 : Int32)) (ty := .int) (C := "MappedProcessorModel") (T := T_Ref) (N := 14) hx hb hB iw_Ref ty_Ref ty_Ref_ok nm_Ref hown hK hP hD hS 0 rfl rfl 5 (by decide) (hB _ mw_648) (fun _ h9 => h9) rfl (by decide +kernel) rfl rfl (Nat.le_of_ble_eq_true rfl) d_Ref_paged_145 (fun H locs hP hD hS => ?_)
          have hP : va_P D kCl [(aT, .inr (11, [.ref bG, .ref bS, .ref bM, .int rl, .int rk, .int (-1 : Int32), .int re, .int rc, .int rd, .int ra, .int rb, .int rn, .int rf, .int rw])), (bG, .inl (dG, 32, .inl rg)), (bS, .inl (dS, 48, .inl rs)), (bM, .inl (dM, 16384, .inl rm))] H := hP
          have hD : va_D A [(aT, .inr (11, [.ref bG, .ref bS, .ref bM, .int rl, .int rk, .int (-1 : Int32), .int re, .int rc, .int rd, .int ra, .int rb, .int rn, .int rf, .int rw])), (bG, .inl (dG, 32, .inl rg)), (bS, .inl (dS, 48, .inl rs)), (bM, .inl (dM, 16384, .inl rm))] := hD
          refine lv_iconst (v := (0 : Int32)) hx hb d_Ref_paged_148 (by decide) ?_
          have ef : f_Ref_paged p0 p1 p2 rs rm rr re = ((0 : Int32), (-1 : Int32), re) := by unfold f_Ref_paged; rw [if_pos h1, if_neg h3, if_neg h7, if_neg h23]
          exact k_iret hx hb hr hlocks hK hP hD hS [0, 1, 2, 3] rfl (by rw [ef] <;> rfl) (by rw [ef] <;> rfl) d_Ref_paged_149
    · refine lv_iload hx hb d_Ref_paged_28 (lv_at hl 0 rfl) ?_
      refine lv_bipush (v := (28 : Int32)) hx hb d_Ref_paged_30 (by decide) ?_
      refine k_cSi (As := [.int (rs (ix ((32 : Int32) + (ush p0 (28 : Int32))))), .int (28 : Int32)]) (rest := []) (wr := [(aT, .inr (11, [.ref bG, .ref bS, .ref bM, .int rl, .int rk, .int rr, .int re, .int rc, .int rd, .int ra, .int rb, .int rn, .int rf, .int rw])), (bG, .inl (dG, 32, .inl rg)), (bS, .inl (dS, 48, .inl rs)), (bM, .inl (dM, 16384, .inl rm))]) (wj := [(aT, .inr (11, [.ref bG, .ref bS, .ref bM, .int rl, .int rk, .int rr, .int re, .int rc, .int rd, .int ra, .int rb, .int rn, .int rf, .int rw])), (bG, .inl (dG, 32, .inl rg)), (bS, .inl (dS, 48, .inl rs)), (bM, .inl (dM, 16384, .inl rm))]) ⟨hx, hb, hml, hown, hB⟩ (c_Ref_bit l D (rs (ix ((32 : Int32) + (ush p0 (28 : Int32))))) (28 : Int32)) yl_Ref_bit mw_725 hK hN hP hD hS hA [] [] [0, 1, 2, 3] [0, 1, 2, 3] rfl rfl rfl rfl (by decide +kernel) rfl hl.1 rfl (Nat.le_of_ble_eq_true rfl) ⟨Nat.le_of_ble_eq_true rfl, Nat.le_of_ble_eq_true rfl⟩ d_Ref_paged_32 ⟨Nat.le_of_ble_eq_true rfl, Nat.le_of_ble_eq_true rfl⟩ (fun H locs hP hD hS => ?_)
      refine lv_if_eq (tgt := 60) hx hb d_Ref_paged_35 (by decide) (fun (h38 : (f_Ref_bit (rs (ix ((32 : Int32) + (ush p0 (28 : Int32))))) (28 : Int32)) = (0 : Int32)) => ?_) (fun (h38 : ¬ (f_Ref_bit (rs (ix ((32 : Int32) + (ush p0 (28 : Int32))))) (28 : Int32)) = (0 : Int32)) => ?_)
      · refine lv_iload hx hb d_Ref_paged_60 (lv_at hl 0 rfl) ?_
        refine lv_ldc (v := (16777215 : Int32)) hx hb hown (hB _ mw_736) d_Ref_paged_62 ?_
        refine lv_iand hx hb d_Ref_paged_64 ?_
        refine lv_istore (lv' := [(5, .int ((rs (ix ((32 : Int32) + (ush p0 (28 : Int32))))) &&& (16777215 : Int32))), (4, .int (rs (ix ((32 : Int32) + (ush p0 (28 : Int32)))))), (0, .ref aT), (1, .int p0), (2, .int p1), (3, .int p2)]) hx hb d_Ref_paged_65 hl (by decide) rfl (fun ls hl => ?_)
        refine lv_iload_n hx hb d_Ref_paged_67 rfl (lv_at hl 3 rfl) ?_
        refine lv_bipush (v := (12 : Int32)) hx hb d_Ref_paged_68 (by decide) ?_
        refine lv_iushr (v := (ush p0 (12 : Int32))) hx hb d_Ref_paged_70 rfl ?_
        refine lv_ldc (v := (65535 : Int32)) hx hb hown (hB _ mw_737) d_Ref_paged_71 ?_
        refine lv_iand hx hb d_Ref_paged_73 ?_
        refine lv_istore (lv' := [(6, .int ((ush p0 (12 : Int32)) &&& (65535 : Int32))), (5, .int ((rs (ix ((32 : Int32) + (ush p0 (28 : Int32))))) &&& (16777215 : Int32))), (4, .int (rs (ix ((32 : Int32) + (ush p0 (28 : Int32)))))), (0, .ref aT), (1, .int p0), (2, .int p1), (3, .int p2)]) hx hb d_Ref_paged_74 hl (by decide) rfl (fun ls hl => ?_)
        refine lv_iload hx hb d_Ref_paged_76 (lv_at hl 1 rfl) ?_
        refine lv_ldc (v := (524287 : Int32)) hx hb hown (hB _ mw_738) d_Ref_paged_78 ?_
        refine lv_iand hx hb d_Ref_paged_80 ?_
        refine lv_iload hx hb d_Ref_paged_81 (lv_at hl 0 rfl) ?_
        refine lv_ixor hx hb d_Ref_paged_83 ?_
        refine lv_istore (lv' := [(7, .int ((((rs (ix ((32 : Int32) + (ush p0 (28 : Int32))))) &&& (16777215 : Int32)) &&& (524287 : Int32)) ^^^ ((ush p0 (12 : Int32)) &&& (65535 : Int32)))), (6, .int ((ush p0 (12 : Int32)) &&& (65535 : Int32))), (5, .int ((rs (ix ((32 : Int32) + (ush p0 (28 : Int32))))) &&& (16777215 : Int32))), (4, .int (rs (ix ((32 : Int32) + (ush p0 (28 : Int32)))))), (0, .ref aT), (1, .int p0), (2, .int p1), (3, .int p2)]) hx hb d_Ref_paged_84 hl (by decide) rfl (fun ls hl => ?_)
        refine lv_ldc (v := (-2147483648 : Int32)) hx hb hown (hB _ mw_739) d_Ref_paged_86 ?_
        refine lv_sipush (v := (128 : Int32)) hx hb d_Ref_paged_88 (by decide) ?_
        refine lv_iload hx hb d_Ref_paged_91 (lv_at hl 2 rfl) ?_
        refine lv_imul hx hb d_Ref_paged_93 ?_
        refine lv_iadd hx hb d_Ref_paged_94 ?_
        refine lv_iload hx hb d_Ref_paged_95 (lv_at hl 1 rfl) ?_
        refine lv_bipush (v := (10 : Int32)) hx hb d_Ref_paged_97 (by decide) ?_
        refine lv_iushr (v := (ush ((ush p0 (12 : Int32)) &&& (65535 : Int32)) (10 : Int32))) hx hb d_Ref_paged_99 rfl ?_
        refine lv_iadd hx hb d_Ref_paged_100 ?_
        refine lv_istore (lv' := [(8, .int (((-2147483648 : Int32) + ((128 : Int32) * ((rs (ix ((32 : Int32) + (ush p0 (28 : Int32))))) &&& (16777215 : Int32)))) + (ush ((ush p0 (12 : Int32)) &&& (65535 : Int32)) (10 : Int32)))), (7, .int ((((rs (ix ((32 : Int32) + (ush p0 (28 : Int32))))) &&& (16777215 : Int32)) &&& (524287 : Int32)) ^^^ ((ush p0 (12 : Int32)) &&& (65535 : Int32)))), (6, .int ((ush p0 (12 : Int32)) &&& (65535 : Int32))), (5, .int ((rs (ix ((32 : Int32) + (ush p0 (28 : Int32))))) &&& (16777215 : Int32))), (4, .int (rs (ix ((32 : Int32) + (ush p0 (28 : Int32)))))), (0, .ref aT), (1, .int p0), (2, .int p1), (3, .int p2)]) hx hb d_Ref_paged_101 hl (by decide) rfl (fun ls hl => ?_)
        refine lv_aload_n hx hb d_Ref_paged_103 rfl (lv_at hl 5 rfl) ?_
        refine lv_iload hx hb d_Ref_paged_104 (lv_at hl 1 rfl) ?_
        refine lv_iload hx hb d_Ref_paged_106 (lv_at hl 0 rfl) ?_
        refine k_cVi (As := [.int ((((rs (ix ((32 : Int32) + (ush p0 (28 : Int32))))) &&& (16777215 : Int32)) &&& (524287 : Int32)) ^^^ ((ush p0 (12 : Int32)) &&& (65535 : Int32))), .int (((-2147483648 : Int32) + ((128 : Int32) * ((rs (ix ((32 : Int32) + (ush p0 (28 : Int32))))) &&& (16777215 : Int32)))) + (ush ((ush p0 (12 : Int32)) &&& (65535 : Int32)) (10 : Int32)))]) (rest := []) (wr := []) (wj := [(aT, .inr (11, [.ref bG, .ref bS, .ref bM, .int rl, .int rk, .int rr, .int re, .int rc, .int rd, .int ra, .int rb, .int rn, .int rf, .int rw])), (bG, .inl (dG, 32, .inl rg)), (bS, .inl (dS, 48, .inl rs)), (bM, .inl (dM, 16384, .inl rm))]) ⟨hx, hb, hml, hown, hB⟩ (c_Ref_search l D aT bG bS bM dG dS dM rg rs rm rl rk rr re rc rd ra rb rn rf rw ((((rs (ix ((32 : Int32) + (ush p0 (28 : Int32))))) &&& (16777215 : Int32)) &&& (524287 : Int32)) ^^^ ((ush p0 (12 : Int32)) &&& (65535 : Int32))) (((-2147483648 : Int32) + ((128 : Int32) * ((rs (ix ((32 : Int32) + (ush p0 (28 : Int32))))) &&& (16777215 : Int32)))) + (ush ((ush p0 (12 : Int32)) &&& (65535 : Int32)) (10 : Int32)))) yl_Ref_search mw_740 hK hN hP hD hS hA [0, 1, 2] [0, 1, 2, 3] [] [0, 1, 2, 3] rfl rfl rfl rfl (by decide +kernel) 0 rfl rfl rfl rfl hl.1 rfl (Nat.le_of_ble_eq_true rfl) ⟨Nat.le_of_ble_eq_true rfl, Nat.le_of_ble_eq_true rfl⟩ d_Ref_paged_108 ⟨Nat.le_of_ble_eq_true rfl, Nat.le_of_ble_eq_true rfl⟩ (fun H locs hP hD hS => ?_)
        refine lv_istore (lv' := [(9, .int (f_Ref_search ((((rs (ix ((32 : Int32) + (ush p0 (28 : Int32))))) &&& (16777215 : Int32)) &&& (524287 : Int32)) ^^^ ((ush p0 (12 : Int32)) &&& (65535 : Int32))) (((-2147483648 : Int32) + ((128 : Int32) * ((rs (ix ((32 : Int32) + (ush p0 (28 : Int32))))) &&& (16777215 : Int32)))) + (ush ((ush p0 (12 : Int32)) &&& (65535 : Int32)) (10 : Int32))) rs rm)), (8, .int (((-2147483648 : Int32) + ((128 : Int32) * ((rs (ix ((32 : Int32) + (ush p0 (28 : Int32))))) &&& (16777215 : Int32)))) + (ush ((ush p0 (12 : Int32)) &&& (65535 : Int32)) (10 : Int32)))), (7, .int ((((rs (ix ((32 : Int32) + (ush p0 (28 : Int32))))) &&& (16777215 : Int32)) &&& (524287 : Int32)) ^^^ ((ush p0 (12 : Int32)) &&& (65535 : Int32)))), (6, .int ((ush p0 (12 : Int32)) &&& (65535 : Int32))), (5, .int ((rs (ix ((32 : Int32) + (ush p0 (28 : Int32))))) &&& (16777215 : Int32))), (4, .int (rs (ix ((32 : Int32) + (ush p0 (28 : Int32)))))), (0, .ref aT), (1, .int p0), (2, .int p1), (3, .int p2)]) hx hb d_Ref_paged_111 hl (by decide) rfl (fun ls hl => ?_)
        refine lv_iload hx hb d_Ref_paged_113 (lv_at hl 0 rfl) ?_
        refine lv_if_ge (tgt := 134) hx hb d_Ref_paged_115 (by decide) (fun (h42 : (0 : Int32) ≤ (f_Ref_search ((((rs (ix ((32 : Int32) + (ush p0 (28 : Int32))))) &&& (16777215 : Int32)) &&& (524287 : Int32)) ^^^ ((ush p0 (12 : Int32)) &&& (65535 : Int32))) (((-2147483648 : Int32) + ((128 : Int32) * ((rs (ix ((32 : Int32) + (ush p0 (28 : Int32))))) &&& (16777215 : Int32)))) + (ush ((ush p0 (12 : Int32)) &&& (65535 : Int32)) (10 : Int32))) rs rm)) => ?_) (fun (h42 : ¬ (0 : Int32) ≤ (f_Ref_search ((((rs (ix ((32 : Int32) + (ush p0 (28 : Int32))))) &&& (16777215 : Int32)) &&& (524287 : Int32)) ^^^ ((ush p0 (12 : Int32)) &&& (65535 : Int32))) (((-2147483648 : Int32) + ((128 : Int32) * ((rs (ix ((32 : Int32) + (ush p0 (28 : Int32))))) &&& (16777215 : Int32)))) + (ush ((ush p0 (12 : Int32)) &&& (65535 : Int32)) (10 : Int32))) rs rm)) => ?_)
        · refine lv_iload hx hb d_Ref_paged_134 (lv_at hl 0 rfl) ?_
          refine lv_istore (lv' := [(9, .int (f_Ref_search ((((rs (ix ((32 : Int32) + (ush p0 (28 : Int32))))) &&& (16777215 : Int32)) &&& (524287 : Int32)) ^^^ ((ush p0 (12 : Int32)) &&& (65535 : Int32))) (((-2147483648 : Int32) + ((128 : Int32) * ((rs (ix ((32 : Int32) + (ush p0 (28 : Int32))))) &&& (16777215 : Int32)))) + (ush ((ush p0 (12 : Int32)) &&& (65535 : Int32)) (10 : Int32))) rs rm)), (8, .int (((-2147483648 : Int32) + ((128 : Int32) * ((rs (ix ((32 : Int32) + (ush p0 (28 : Int32))))) &&& (16777215 : Int32)))) + (ush ((ush p0 (12 : Int32)) &&& (65535 : Int32)) (10 : Int32)))), (7, .int ((((rs (ix ((32 : Int32) + (ush p0 (28 : Int32))))) &&& (16777215 : Int32)) &&& (524287 : Int32)) ^^^ ((ush p0 (12 : Int32)) &&& (65535 : Int32)))), (6, .int ((ush p0 (12 : Int32)) &&& (65535 : Int32))), (5, .int ((rs (ix ((32 : Int32) + (ush p0 (28 : Int32))))) &&& (16777215 : Int32))), (4, .int (rs (ix ((32 : Int32) + (ush p0 (28 : Int32)))))), (0, .ref aT), (1, .int p0), (2, .int p1), (3, .int p2)]) hx hb d_Ref_paged_136 hl (by decide) rfl (fun ls hl => ?_)
          refine lv_iload hx hb d_Ref_paged_138 (lv_at hl 0 rfl) ?_
          refine lv_if_ge (tgt := 150) hx hb d_Ref_paged_140 (by decide) (fun (h43 : (0 : Int32) ≤ (f_Ref_search ((((rs (ix ((32 : Int32) + (ush p0 (28 : Int32))))) &&& (16777215 : Int32)) &&& (524287 : Int32)) ^^^ ((ush p0 (12 : Int32)) &&& (65535 : Int32))) (((-2147483648 : Int32) + ((128 : Int32) * ((rs (ix ((32 : Int32) + (ush p0 (28 : Int32))))) &&& (16777215 : Int32)))) + (ush ((ush p0 (12 : Int32)) &&& (65535 : Int32)) (10 : Int32))) rs rm)) => ?_) (fun (h43 : ¬ (0 : Int32) ≤ (f_Ref_search ((((rs (ix ((32 : Int32) + (ush p0 (28 : Int32))))) &&& (16777215 : Int32)) &&& (524287 : Int32)) ^^^ ((ush p0 (12 : Int32)) &&& (65535 : Int32))) (((-2147483648 : Int32) + ((128 : Int32) * ((rs (ix ((32 : Int32) + (ush p0 (28 : Int32))))) &&& (16777215 : Int32)))) + (ush ((ush p0 (12 : Int32)) &&& (65535 : Int32)) (10 : Int32))) rs rm)) => ?_)
          rotate_left
          · exact absurd h42 h43
          refine lv_aload_n hx hb d_Ref_paged_150 rfl (lv_at hl 6 rfl) ?_
          refine va_get (D := D) (ci := 11) (v := .ref bM) (C := "MappedProcessorModel") (T := T_Ref) (N := 14) hx hb hB iw_Ref hown hK hP 0 rfl rfl 2 (by decide) (hB _ mw_645) (fun _ h9 => h9) rfl d_Ref_paged_151 ?_
          refine lv_iload hx hb d_Ref_paged_154 (lv_at hl 0 rfl) ?_
          refine lv_iconst (v := (1 : Int32)) hx hb d_Ref_paged_156 (by decide) ?_
          refine lv_iadd hx hb d_Ref_paged_157 ?_
          refine k_iald (j := (ix ((f_Ref_search ((((rs (ix ((32 : Int32) + (ush p0 (28 : Int32))))) &&& (16777215 : Int32)) &&& (524287 : Int32)) ^^^ ((ush p0 (12 : Int32)) &&& (65535 : Int32))) (((-2147483648 : Int32) + ((128 : Int32) * ((rs (ix ((32 : Int32) + (ush p0 (28 : Int32))))) &&& (16777215 : Int32)))) + (ush ((ush p0 (12 : Int32)) &&& (65535 : Int32)) (10 : Int32))) rs rm) + (1 : Int32)))) hx hb hK hP 3 2 rfl rfl rfl (ix_succ h42 (se_lt _ _ _ _)) d_Ref_paged_158 ?_
          refine lv_istore (lv' := [(10, .int (rm (ix ((f_Ref_search ((((rs (ix ((32 : Int32) + (ush p0 (28 : Int32))))) &&& (16777215 : Int32)) &&& (524287 : Int32)) ^^^ ((ush p0 (12 : Int32)) &&& (65535 : Int32))) (((-2147483648 : Int32) + ((128 : Int32) * ((rs (ix ((32 : Int32) + (ush p0 (28 : Int32))))) &&& (16777215 : Int32)))) + (ush ((ush p0 (12 : Int32)) &&& (65535 : Int32)) (10 : Int32))) rs rm) + (1 : Int32))))), (9, .int (f_Ref_search ((((rs (ix ((32 : Int32) + (ush p0 (28 : Int32))))) &&& (16777215 : Int32)) &&& (524287 : Int32)) ^^^ ((ush p0 (12 : Int32)) &&& (65535 : Int32))) (((-2147483648 : Int32) + ((128 : Int32) * ((rs (ix ((32 : Int32) + (ush p0 (28 : Int32))))) &&& (16777215 : Int32)))) + (ush ((ush p0 (12 : Int32)) &&& (65535 : Int32)) (10 : Int32))) rs rm)), (8, .int (((-2147483648 : Int32) + ((128 : Int32) * ((rs (ix ((32 : Int32) + (ush p0 (28 : Int32))))) &&& (16777215 : Int32)))) + (ush ((ush p0 (12 : Int32)) &&& (65535 : Int32)) (10 : Int32)))), (7, .int ((((rs (ix ((32 : Int32) + (ush p0 (28 : Int32))))) &&& (16777215 : Int32)) &&& (524287 : Int32)) ^^^ ((ush p0 (12 : Int32)) &&& (65535 : Int32)))), (6, .int ((ush p0 (12 : Int32)) &&& (65535 : Int32))), (5, .int ((rs (ix ((32 : Int32) + (ush p0 (28 : Int32))))) &&& (16777215 : Int32))), (4, .int (rs (ix ((32 : Int32) + (ush p0 (28 : Int32)))))), (0, .ref aT), (1, .int p0), (2, .int p1), (3, .int p2)]) hx hb d_Ref_paged_159 hl (by decide) rfl (fun ls hl => ?_)
          refine lv_iload hx hb d_Ref_paged_161 (lv_at hl 0 rfl) ?_
          refine lv_iconst (v := (3 : Int32)) hx hb d_Ref_paged_163 (by decide) ?_
          refine lv_iand hx hb d_Ref_paged_164 ?_
          refine lv_istore (lv' := [(11, .int ((rm (ix ((f_Ref_search ((((rs (ix ((32 : Int32) + (ush p0 (28 : Int32))))) &&& (16777215 : Int32)) &&& (524287 : Int32)) ^^^ ((ush p0 (12 : Int32)) &&& (65535 : Int32))) (((-2147483648 : Int32) + ((128 : Int32) * ((rs (ix ((32 : Int32) + (ush p0 (28 : Int32))))) &&& (16777215 : Int32)))) + (ush ((ush p0 (12 : Int32)) &&& (65535 : Int32)) (10 : Int32))) rs rm) + (1 : Int32)))) &&& (3 : Int32))), (10, .int (rm (ix ((f_Ref_search ((((rs (ix ((32 : Int32) + (ush p0 (28 : Int32))))) &&& (16777215 : Int32)) &&& (524287 : Int32)) ^^^ ((ush p0 (12 : Int32)) &&& (65535 : Int32))) (((-2147483648 : Int32) + ((128 : Int32) * ((rs (ix ((32 : Int32) + (ush p0 (28 : Int32))))) &&& (16777215 : Int32)))) + (ush ((ush p0 (12 : Int32)) &&& (65535 : Int32)) (10 : Int32))) rs rm) + (1 : Int32))))), (9, .int (f_Ref_search ((((rs (ix ((32 : Int32) + (ush p0 (28 : Int32))))) &&& (16777215 : Int32)) &&& (524287 : Int32)) ^^^ ((ush p0 (12 : Int32)) &&& (65535 : Int32))) (((-2147483648 : Int32) + ((128 : Int32) * ((rs (ix ((32 : Int32) + (ush p0 (28 : Int32))))) &&& (16777215 : Int32)))) + (ush ((ush p0 (12 : Int32)) &&& (65535 : Int32)) (10 : Int32))) rs rm)), (8, .int (((-2147483648 : Int32) + ((128 : Int32) * ((rs (ix ((32 : Int32) + (ush p0 (28 : Int32))))) &&& (16777215 : Int32)))) + (ush ((ush p0 (12 : Int32)) &&& (65535 : Int32)) (10 : Int32)))), (7, .int ((((rs (ix ((32 : Int32) + (ush p0 (28 : Int32))))) &&& (16777215 : Int32)) &&& (524287 : Int32)) ^^^ ((ush p0 (12 : Int32)) &&& (65535 : Int32)))), (6, .int ((ush p0 (12 : Int32)) &&& (65535 : Int32))), (5, .int ((rs (ix ((32 : Int32) + (ush p0 (28 : Int32))))) &&& (16777215 : Int32))), (4, .int (rs (ix ((32 : Int32) + (ush p0 (28 : Int32)))))), (0, .ref aT), (1, .int p0), (2, .int p1), (3, .int p2)]) hx hb d_Ref_paged_165 hl (by decide) rfl (fun ls hl => ?_)
          refine lv_iload hx hb d_Ref_paged_167 (lv_at hl 7 rfl) ?_
          refine lv_iload_n hx hb d_Ref_paged_169 rfl (lv_at hl 11 rfl) ?_
          refine k_join2 (c0 := p2 = (0 : Int32)) (x1 := (30 : Int32)) (x2 := (29 : Int32)) (rest := [.int (rs (ix ((32 : Int32) + (ush p0 (28 : Int32)))))]) 180 ?_ (fun k45 k46 => ?_)
          rotate_left
          · refine lv_if_eq (tgt := 178) hx hb d_Ref_paged_170 (by decide) (fun (h44 : p2 = (0 : Int32)) => ?_) (fun (h44 : ¬ p2 = (0 : Int32)) => ?_)
            · refine lv_bipush (v := (30 : Int32)) hx hb d_Ref_paged_178 (by decide) ?_
              exact k45 h44
            · refine lv_bipush (v := (29 : Int32)) hx hb d_Ref_paged_173 (by decide) ?_
              refine lv_goto (tgt := 180) hx hb d_Ref_paged_175 (by decide) ?_
              exact k46 h44
          refine k_cSi (As := [.int (rs (ix ((32 : Int32) + (ush p0 (28 : Int32))))), .int (if p2 = (0 : Int32) then (30 : Int32) else (29 : Int32))]) (rest := []) (wr := [(aT, .inr (11, [.ref bG, .ref bS, .ref bM, .int rl, .int rk, .int rr, .int re, .int rc, .int rd, .int ra, .int rb, .int rn, .int rf, .int rw])), (bG, .inl (dG, 32, .inl rg)), (bS, .inl (dS, 48, .inl rs)), (bM, .inl (dM, 16384, .inl rm))]) (wj := [(aT, .inr (11, [.ref bG, .ref bS, .ref bM, .int rl, .int rk, .int rr, .int re, .int rc, .int rd, .int ra, .int rb, .int rn, .int rf, .int rw])), (bG, .inl (dG, 32, .inl rg)), (bS, .inl (dS, 48, .inl rs)), (bM, .inl (dM, 16384, .inl rm))]) ⟨hx, hb, hml, hown, hB⟩ (c_Ref_bit l D (rs (ix ((32 : Int32) + (ush p0 (28 : Int32))))) (if p2 = (0 : Int32) then (30 : Int32) else (29 : Int32))) yl_Ref_bit mw_725 hK hN hP hD hS hA [] [] [0, 1, 2, 3] [0, 1, 2, 3] rfl rfl rfl rfl (by decide +kernel) rfl hl.1 rfl (Nat.le_of_ble_eq_true rfl) ⟨Nat.le_of_ble_eq_true rfl, Nat.le_of_ble_eq_true rfl⟩ d_Ref_paged_180 ⟨Nat.le_of_ble_eq_true rfl, Nat.le_of_ble_eq_true rfl⟩ (fun H locs hP hD hS => ?_)
          refine lv_istore (lv' := [(12, .int (f_Ref_bit (rs (ix ((32 : Int32) + (ush p0 (28 : Int32))))) (if p2 = (0 : Int32) then (30 : Int32) else (29 : Int32)))), (11, .int ((rm (ix ((f_Ref_search ((((rs (ix ((32 : Int32) + (ush p0 (28 : Int32))))) &&& (16777215 : Int32)) &&& (524287 : Int32)) ^^^ ((ush p0 (12 : Int32)) &&& (65535 : Int32))) (((-2147483648 : Int32) + ((128 : Int32) * ((rs (ix ((32 : Int32) + (ush p0 (28 : Int32))))) &&& (16777215 : Int32)))) + (ush ((ush p0 (12 : Int32)) &&& (65535 : Int32)) (10 : Int32))) rs rm) + (1 : Int32)))) &&& (3 : Int32))), (10, .int (rm (ix ((f_Ref_search ((((rs (ix ((32 : Int32) + (ush p0 (28 : Int32))))) &&& (16777215 : Int32)) &&& (524287 : Int32)) ^^^ ((ush p0 (12 : Int32)) &&& (65535 : Int32))) (((-2147483648 : Int32) + ((128 : Int32) * ((rs (ix ((32 : Int32) + (ush p0 (28 : Int32))))) &&& (16777215 : Int32)))) + (ush ((ush p0 (12 : Int32)) &&& (65535 : Int32)) (10 : Int32))) rs rm) + (1 : Int32))))), (9, .int (f_Ref_search ((((rs (ix ((32 : Int32) + (ush p0 (28 : Int32))))) &&& (16777215 : Int32)) &&& (524287 : Int32)) ^^^ ((ush p0 (12 : Int32)) &&& (65535 : Int32))) (((-2147483648 : Int32) + ((128 : Int32) * ((rs (ix ((32 : Int32) + (ush p0 (28 : Int32))))) &&& (16777215 : Int32)))) + (ush ((ush p0 (12 : Int32)) &&& (65535 : Int32)) (10 : Int32))) rs rm)), (8, .int (((-2147483648 : Int32) + ((128 : Int32) * ((rs (ix ((32 : Int32) + (ush p0 (28 : Int32))))) &&& (16777215 : Int32)))) + (ush ((ush p0 (12 : Int32)) &&& (65535 : Int32)) (10 : Int32)))), (7, .int ((((rs (ix ((32 : Int32) + (ush p0 (28 : Int32))))) &&& (16777215 : Int32)) &&& (524287 : Int32)) ^^^ ((ush p0 (12 : Int32)) &&& (65535 : Int32)))), (6, .int ((ush p0 (12 : Int32)) &&& (65535 : Int32))), (5, .int ((rs (ix ((32 : Int32) + (ush p0 (28 : Int32))))) &&& (16777215 : Int32))), (4, .int (rs (ix ((32 : Int32) + (ush p0 (28 : Int32)))))), (0, .ref aT), (1, .int p0), (2, .int p1), (3, .int p2)]) hx hb d_Ref_paged_183 hl (by decide) rfl (fun ls hl => ?_)
          refine lv_iload hx hb d_Ref_paged_185 (lv_at hl 0 rfl) ?_
          refine lv_if_eq (tgt := 195) hx hb d_Ref_paged_187 (by decide) (fun (h49 : (f_Ref_bit (rs (ix ((32 : Int32) + (ush p0 (28 : Int32))))) (if p2 = (0 : Int32) then (30 : Int32) else (29 : Int32))) = (0 : Int32)) => ?_) (fun (h49 : ¬ (f_Ref_bit (rs (ix ((32 : Int32) + (ush p0 (28 : Int32))))) (if p2 = (0 : Int32) then (30 : Int32) else (29 : Int32))) = (0 : Int32)) => ?_)
          · refine lv_iload_n hx hb d_Ref_paged_195 rfl (lv_at hl 11 rfl) ?_
            refine lv_iconst (v := (2 : Int32)) hx hb d_Ref_paged_196 (by decide) ?_
            refine lv_icmp_ne (tgt := 225) hx hb d_Ref_paged_197 (by decide) (fun (h50 : ¬ p1 = (2 : Int32)) => ?_) (fun (h50 : p1 = (2 : Int32)) => ?_)
            · refine lv_aload_n hx hb d_Ref_paged_225 rfl (lv_at hl 9 rfl) ?_
              refine lv_iload hx hb d_Ref_paged_226 (lv_at hl 3 rfl) ?_
              refine lv_iconst (v := (1 : Int32)) hx hb d_Ref_paged_228 (by decide) ?_
              refine lv_iadd hx hb d_Ref_paged_229 ?_
              refine va_put (D := D) (ci := 11) (v := .int ((f_Ref_search ((((rs (ix ((32 : Int32) + (ush p0 (28 : Int32))))) &&& (16777215 : Int32)) &&& (524287 : Int32)) ^^^ ((ush p0 (12 : Int32)) &&& (65535 : Int32))) (((-2147483648 : Int32) + ((128 : Int32) * ((rs (ix ((32 : Int32) + (ush p0 (28 : Int32))))) &&& (16777215 : Int32)))) + (ush ((ush p0 (12 : Int32)) &&& (65535 : Int32)) (10 : Int32))) rs rm) + (1 : Int32))) (ty := .int) (C := "MappedProcessorModel") (T := T_Ref) (N := 14) hx hb hB iw_Ref ty_Ref ty_Ref_ok nm_Ref hown hK hP hD hS 0 rfl rfl 6 (by decide) (hB _ mw_649) (fun _ h9 => h9) rfl (by decide +kernel) rfl rfl (Nat.le_of_ble_eq_true rfl) d_Ref_paged_230 (fun H locs hP hD hS => ?_)
              have hP : va_P D kCl [(aT, .inr (11, [.ref bG, .ref bS, .ref bM, .int rl, .int rk, .int rr, .int ((f_Ref_search ((((rs (ix ((32 : Int32) + (ush p0 (28 : Int32))))) &&& (16777215 : Int32)) &&& (524287 : Int32)) ^^^ ((ush p0 (12 : Int32)) &&& (65535 : Int32))) (((-2147483648 : Int32) + ((128 : Int32) * ((rs (ix ((32 : Int32) + (ush p0 (28 : Int32))))) &&& (16777215 : Int32)))) + (ush ((ush p0 (12 : Int32)) &&& (65535 : Int32)) (10 : Int32))) rs rm) + (1 : Int32)), .int rc, .int rd, .int ra, .int rb, .int rn, .int rf, .int rw])), (bG, .inl (dG, 32, .inl rg)), (bS, .inl (dS, 48, .inl rs)), (bM, .inl (dM, 16384, .inl rm))] H := hP
              have hD : va_D A [(aT, .inr (11, [.ref bG, .ref bS, .ref bM, .int rl, .int rk, .int rr, .int ((f_Ref_search ((((rs (ix ((32 : Int32) + (ush p0 (28 : Int32))))) &&& (16777215 : Int32)) &&& (524287 : Int32)) ^^^ ((ush p0 (12 : Int32)) &&& (65535 : Int32))) (((-2147483648 : Int32) + ((128 : Int32) * ((rs (ix ((32 : Int32) + (ush p0 (28 : Int32))))) &&& (16777215 : Int32)))) + (ush ((ush p0 (12 : Int32)) &&& (65535 : Int32)) (10 : Int32))) rs rm) + (1 : Int32)), .int rc, .int rd, .int ra, .int rb, .int rn, .int rf, .int rw])), (bG, .inl (dG, 32, .inl rg)), (bS, .inl (dS, 48, .inl rs)), (bM, .inl (dM, 16384, .inl rm))] := hD
              refine lv_iload hx hb d_Ref_paged_233 (lv_at hl 2 rfl) ?_
              refine lv_sipush (v := (-4096 : Int32)) hx hb d_Ref_paged_235 (by decide) ?_
              refine lv_iand hx hb d_Ref_paged_238 ?_
              refine lv_iload_n hx hb d_Ref_paged_239 rfl (lv_at hl 10 rfl) ?_
              refine lv_sipush (v := (4095 : Int32)) hx hb d_Ref_paged_240 (by decide) ?_
              refine lv_iand hx hb d_Ref_paged_243 ?_
              refine lv_ior hx hb d_Ref_paged_244 ?_
              have ef : f_Ref_paged p0 p1 p2 rs rm rr re = ((((rm (ix ((f_Ref_search ((((rs (ix ((32 : Int32) + (ush p0 (28 : Int32))))) &&& (16777215 : Int32)) &&& (524287 : Int32)) ^^^ ((ush p0 (12 : Int32)) &&& (65535 : Int32))) (((-2147483648 : Int32) + ((128 : Int32) * ((rs (ix ((32 : Int32) + (ush p0 (28 : Int32))))) &&& (16777215 : Int32)))) + (ush ((ush p0 (12 : Int32)) &&& (65535 : Int32)) (10 : Int32))) rs rm) + (1 : Int32)))) &&& (-4096 : Int32)) ||| (p0 &&& (4095 : Int32))), rr, ((f_Ref_search ((((rs (ix ((32 : Int32) + (ush p0 (28 : Int32))))) &&& (16777215 : Int32)) &&& (524287 : Int32)) ^^^ ((ush p0 (12 : Int32)) &&& (65535 : Int32))) (((-2147483648 : Int32) + ((128 : Int32) * ((rs (ix ((32 : Int32) + (ush p0 (28 : Int32))))) &&& (16777215 : Int32)))) + (ush ((ush p0 (12 : Int32)) &&& (65535 : Int32)) (10 : Int32))) rs rm) + (1 : Int32))) := by unfold f_Ref_paged; rw [if_pos h1, if_pos h3, if_pos h38, if_pos h42, if_pos h49, if_neg h50]
              exact k_iret hx hb hr hlocks hK hP hD hS [0, 1, 2, 3] rfl (by rw [ef] <;> rfl) (by rw [ef] <;> rfl) d_Ref_paged_245
            · refine lv_iload hx hb d_Ref_paged_200 (lv_at hl 1 rfl) ?_
              refine lv_iconst (v := (3 : Int32)) hx hb d_Ref_paged_202 (by decide) ?_
              refine lv_icmp_eq (tgt := 217) hx hb d_Ref_paged_203 (by decide) (fun (h51 : ((rm (ix ((f_Ref_search ((((rs (ix ((32 : Int32) + (ush p0 (28 : Int32))))) &&& (16777215 : Int32)) &&& (524287 : Int32)) ^^^ ((ush p0 (12 : Int32)) &&& (65535 : Int32))) (((-2147483648 : Int32) + ((128 : Int32) * ((rs (ix ((32 : Int32) + (ush p0 (28 : Int32))))) &&& (16777215 : Int32)))) + (ush ((ush p0 (12 : Int32)) &&& (65535 : Int32)) (10 : Int32))) rs rm) + (1 : Int32)))) &&& (3 : Int32)) = (3 : Int32)) => ?_) (fun (h51 : ¬ ((rm (ix ((f_Ref_search ((((rs (ix ((32 : Int32) + (ush p0 (28 : Int32))))) &&& (16777215 : Int32)) &&& (524287 : Int32)) ^^^ ((ush p0 (12 : Int32)) &&& (65535 : Int32))) (((-2147483648 : Int32) + ((128 : Int32) * ((rs (ix ((32 : Int32) + (ush p0 (28 : Int32))))) &&& (16777215 : Int32)))) + (ush ((ush p0 (12 : Int32)) &&& (65535 : Int32)) (10 : Int32))) rs rm) + (1 : Int32)))) &&& (3 : Int32)) = (3 : Int32)) => ?_)
              · refine lv_aload_n hx hb d_Ref_paged_217 rfl (lv_at hl 9 rfl) ?_
                refine lv_bipush (v := (-2 : Int32)) hx hb d_Ref_paged_218 (by decide) ?_
                refine va_put (D := D) (ci := 11) (v := .int (-2 : Int32)) (ty := .int) (C := "MappedProcessorModel") (T := T_Ref) (N := 14) hx hb hB iw_Ref ty_Ref ty_Ref_ok nm_Ref hown hK hP hD hS 0 rfl rfl 5 (by decide) (hB _ mw_648) (fun _ h9 => h9) rfl (by decide +kernel) rfl rfl (Nat.le_of_ble_eq_true rfl) d_Ref_paged_220 (fun H locs hP hD hS => ?_)
                have hP : va_P D kCl [(aT, .inr (11, [.ref bG, .ref bS, .ref bM, .int rl, .int rk, .int (-2 : Int32), .int re, .int rc, .int rd, .int ra, .int rb, .int rn, .int rf, .int rw])), (bG, .inl (dG, 32, .inl rg)), (bS, .inl (dS, 48, .inl rs)), (bM, .inl (dM, 16384, .inl rm))] H := hP
                have hD : va_D A [(aT, .inr (11, [.ref bG, .ref bS, .ref bM, .int rl, .int rk, .int (-2 : Int32), .int re, .int rc, .int rd, .int ra, .int rb, .int rn, .int rf, .int rw])), (bG, .inl (dG, 32, .inl rg)), (bS, .inl (dS, 48, .inl rs)), (bM, .inl (dM, 16384, .inl rm))] := hD
                refine lv_iconst (v := (0 : Int32)) hx hb d_Ref_paged_223 (by decide) ?_
                have ef : f_Ref_paged p0 p1 p2 rs rm rr re = ((0 : Int32), (-2 : Int32), re) := by unfold f_Ref_paged; rw [if_pos h1, if_pos h3, if_pos h38, if_pos h42, if_pos h49, if_pos h50, if_pos h51]
                exact k_iret hx hb hr hlocks hK hP hD hS [0, 1, 2, 3] rfl (by rw [ef] <;> rfl) (by rw [ef] <;> rfl) d_Ref_paged_224
              · refine lv_iload hx hb d_Ref_paged_206 (lv_at hl 0 rfl) ?_
                refine lv_if_eq (tgt := 225) hx hb d_Ref_paged_208 (by decide) (fun (h52 : (f_Ref_bit (rs (ix ((32 : Int32) + (ush p0 (28 : Int32))))) (if p2 = (0 : Int32) then (30 : Int32) else (29 : Int32))) = (0 : Int32)) => ?_) (fun (h52 : ¬ (f_Ref_bit (rs (ix ((32 : Int32) + (ush p0 (28 : Int32))))) (if p2 = (0 : Int32) then (30 : Int32) else (29 : Int32))) = (0 : Int32)) => ?_)
                rotate_left
                · exact absurd h49 h52
                refine lv_aload_n hx hb d_Ref_paged_225 rfl (lv_at hl 9 rfl) ?_
                refine lv_iload hx hb d_Ref_paged_226 (lv_at hl 3 rfl) ?_
                refine lv_iconst (v := (1 : Int32)) hx hb d_Ref_paged_228 (by decide) ?_
                refine lv_iadd hx hb d_Ref_paged_229 ?_
                refine va_put (D := D) (ci := 11) (v := .int ((f_Ref_search ((((rs (ix ((32 : Int32) + (ush p0 (28 : Int32))))) &&& (16777215 : Int32)) &&& (524287 : Int32)) ^^^ ((ush p0 (12 : Int32)) &&& (65535 : Int32))) (((-2147483648 : Int32) + ((128 : Int32) * ((rs (ix ((32 : Int32) + (ush p0 (28 : Int32))))) &&& (16777215 : Int32)))) + (ush ((ush p0 (12 : Int32)) &&& (65535 : Int32)) (10 : Int32))) rs rm) + (1 : Int32))) (ty := .int) (C := "MappedProcessorModel") (T := T_Ref) (N := 14) hx hb hB iw_Ref ty_Ref ty_Ref_ok nm_Ref hown hK hP hD hS 0 rfl rfl 6 (by decide) (hB _ mw_649) (fun _ h9 => h9) rfl (by decide +kernel) rfl rfl (Nat.le_of_ble_eq_true rfl) d_Ref_paged_230 (fun H locs hP hD hS => ?_)
                have hP : va_P D kCl [(aT, .inr (11, [.ref bG, .ref bS, .ref bM, .int rl, .int rk, .int rr, .int ((f_Ref_search ((((rs (ix ((32 : Int32) + (ush p0 (28 : Int32))))) &&& (16777215 : Int32)) &&& (524287 : Int32)) ^^^ ((ush p0 (12 : Int32)) &&& (65535 : Int32))) (((-2147483648 : Int32) + ((128 : Int32) * ((rs (ix ((32 : Int32) + (ush p0 (28 : Int32))))) &&& (16777215 : Int32)))) + (ush ((ush p0 (12 : Int32)) &&& (65535 : Int32)) (10 : Int32))) rs rm) + (1 : Int32)), .int rc, .int rd, .int ra, .int rb, .int rn, .int rf, .int rw])), (bG, .inl (dG, 32, .inl rg)), (bS, .inl (dS, 48, .inl rs)), (bM, .inl (dM, 16384, .inl rm))] H := hP
                have hD : va_D A [(aT, .inr (11, [.ref bG, .ref bS, .ref bM, .int rl, .int rk, .int rr, .int ((f_Ref_search ((((rs (ix ((32 : Int32) + (ush p0 (28 : Int32))))) &&& (16777215 : Int32)) &&& (524287 : Int32)) ^^^ ((ush p0 (12 : Int32)) &&& (65535 : Int32))) (((-2147483648 : Int32) + ((128 : Int32) * ((rs (ix ((32 : Int32) + (ush p0 (28 : Int32))))) &&& (16777215 : Int32)))) + (ush ((ush p0 (12 : Int32)) &&& (65535 : Int32)) (10 : Int32))) rs rm) + (1 : Int32)), .int rc, .int rd, .int ra, .int rb, .int rn, .int rf, .int rw])), (bG, .inl (dG, 32, .inl rg)), (bS, .inl (dS, 48, .inl rs)), (bM, .inl (dM, 16384, .inl rm))] := hD
                refine lv_iload hx hb d_Ref_paged_233 (lv_at hl 2 rfl) ?_
                refine lv_sipush (v := (-4096 : Int32)) hx hb d_Ref_paged_235 (by decide) ?_
                refine lv_iand hx hb d_Ref_paged_238 ?_
                refine lv_iload_n hx hb d_Ref_paged_239 rfl (lv_at hl 10 rfl) ?_
                refine lv_sipush (v := (4095 : Int32)) hx hb d_Ref_paged_240 (by decide) ?_
                refine lv_iand hx hb d_Ref_paged_243 ?_
                refine lv_ior hx hb d_Ref_paged_244 ?_
                have ef : f_Ref_paged p0 p1 p2 rs rm rr re = ((((rm (ix ((f_Ref_search ((((rs (ix ((32 : Int32) + (ush p0 (28 : Int32))))) &&& (16777215 : Int32)) &&& (524287 : Int32)) ^^^ ((ush p0 (12 : Int32)) &&& (65535 : Int32))) (((-2147483648 : Int32) + ((128 : Int32) * ((rs (ix ((32 : Int32) + (ush p0 (28 : Int32))))) &&& (16777215 : Int32)))) + (ush ((ush p0 (12 : Int32)) &&& (65535 : Int32)) (10 : Int32))) rs rm) + (1 : Int32)))) &&& (-4096 : Int32)) ||| (p0 &&& (4095 : Int32))), rr, ((f_Ref_search ((((rs (ix ((32 : Int32) + (ush p0 (28 : Int32))))) &&& (16777215 : Int32)) &&& (524287 : Int32)) ^^^ ((ush p0 (12 : Int32)) &&& (65535 : Int32))) (((-2147483648 : Int32) + ((128 : Int32) * ((rs (ix ((32 : Int32) + (ush p0 (28 : Int32))))) &&& (16777215 : Int32)))) + (ush ((ush p0 (12 : Int32)) &&& (65535 : Int32)) (10 : Int32))) rs rm) + (1 : Int32))) := by unfold f_Ref_paged; rw [if_pos h1, if_pos h3, if_pos h38, if_pos h42, if_pos h49, if_pos h50, if_neg h51]
                exact k_iret hx hb hr hlocks hK hP hD hS [0, 1, 2, 3] rfl (by rw [ef] <;> rfl) (by rw [ef] <;> rfl) d_Ref_paged_245
          · refine lv_iload hx hb d_Ref_paged_190 (lv_at hl 1 rfl) ?_
            refine lv_if_eq (tgt := 217) hx hb d_Ref_paged_192 (by decide) (fun (h53 : ((rm (ix ((f_Ref_search ((((rs (ix ((32 : Int32) + (ush p0 (28 : Int32))))) &&& (16777215 : Int32)) &&& (524287 : Int32)) ^^^ ((ush p0 (12 : Int32)) &&& (65535 : Int32))) (((-2147483648 : Int32) + ((128 : Int32) * ((rs (ix ((32 : Int32) + (ush p0 (28 : Int32))))) &&& (16777215 : Int32)))) + (ush ((ush p0 (12 : Int32)) &&& (65535 : Int32)) (10 : Int32))) rs rm) + (1 : Int32)))) &&& (3 : Int32)) = (0 : Int32)) => ?_) (fun (h53 : ¬ ((rm (ix ((f_Ref_search ((((rs (ix ((32 : Int32) + (ush p0 (28 : Int32))))) &&& (16777215 : Int32)) &&& (524287 : Int32)) ^^^ ((ush p0 (12 : Int32)) &&& (65535 : Int32))) (((-2147483648 : Int32) + ((128 : Int32) * ((rs (ix ((32 : Int32) + (ush p0 (28 : Int32))))) &&& (16777215 : Int32)))) + (ush ((ush p0 (12 : Int32)) &&& (65535 : Int32)) (10 : Int32))) rs rm) + (1 : Int32)))) &&& (3 : Int32)) = (0 : Int32)) => ?_)
            · refine lv_aload_n hx hb d_Ref_paged_217 rfl (lv_at hl 9 rfl) ?_
              refine lv_bipush (v := (-2 : Int32)) hx hb d_Ref_paged_218 (by decide) ?_
              refine va_put (D := D) (ci := 11) (v := .int (-2 : Int32)) (ty := .int) (C := "MappedProcessorModel") (T := T_Ref) (N := 14) hx hb hB iw_Ref ty_Ref ty_Ref_ok nm_Ref hown hK hP hD hS 0 rfl rfl 5 (by decide) (hB _ mw_648) (fun _ h9 => h9) rfl (by decide +kernel) rfl rfl (Nat.le_of_ble_eq_true rfl) d_Ref_paged_220 (fun H locs hP hD hS => ?_)
              have hP : va_P D kCl [(aT, .inr (11, [.ref bG, .ref bS, .ref bM, .int rl, .int rk, .int (-2 : Int32), .int re, .int rc, .int rd, .int ra, .int rb, .int rn, .int rf, .int rw])), (bG, .inl (dG, 32, .inl rg)), (bS, .inl (dS, 48, .inl rs)), (bM, .inl (dM, 16384, .inl rm))] H := hP
              have hD : va_D A [(aT, .inr (11, [.ref bG, .ref bS, .ref bM, .int rl, .int rk, .int (-2 : Int32), .int re, .int rc, .int rd, .int ra, .int rb, .int rn, .int rf, .int rw])), (bG, .inl (dG, 32, .inl rg)), (bS, .inl (dS, 48, .inl rs)), (bM, .inl (dM, 16384, .inl rm))] := hD
              refine lv_iconst (v := (0 : Int32)) hx hb d_Ref_paged_223 (by decide) ?_
              have ef : f_Ref_paged p0 p1 p2 rs rm rr re = ((0 : Int32), (-2 : Int32), re) := by unfold f_Ref_paged; rw [if_pos h1, if_pos h3, if_pos h38, if_pos h42, if_neg h49, if_pos h53]
              exact k_iret hx hb hr hlocks hK hP hD hS [0, 1, 2, 3] rfl (by rw [ef] <;> rfl) (by rw [ef] <;> rfl) d_Ref_paged_224
            · refine lv_iload_n hx hb d_Ref_paged_195 rfl (lv_at hl 11 rfl) ?_
              refine lv_iconst (v := (2 : Int32)) hx hb d_Ref_paged_196 (by decide) ?_
              refine lv_icmp_ne (tgt := 225) hx hb d_Ref_paged_197 (by decide) (fun (h54 : ¬ p1 = (2 : Int32)) => ?_) (fun (h54 : p1 = (2 : Int32)) => ?_)
              · refine lv_aload_n hx hb d_Ref_paged_225 rfl (lv_at hl 9 rfl) ?_
                refine lv_iload hx hb d_Ref_paged_226 (lv_at hl 3 rfl) ?_
                refine lv_iconst (v := (1 : Int32)) hx hb d_Ref_paged_228 (by decide) ?_
                refine lv_iadd hx hb d_Ref_paged_229 ?_
                refine va_put (D := D) (ci := 11) (v := .int ((f_Ref_search ((((rs (ix ((32 : Int32) + (ush p0 (28 : Int32))))) &&& (16777215 : Int32)) &&& (524287 : Int32)) ^^^ ((ush p0 (12 : Int32)) &&& (65535 : Int32))) (((-2147483648 : Int32) + ((128 : Int32) * ((rs (ix ((32 : Int32) + (ush p0 (28 : Int32))))) &&& (16777215 : Int32)))) + (ush ((ush p0 (12 : Int32)) &&& (65535 : Int32)) (10 : Int32))) rs rm) + (1 : Int32))) (ty := .int) (C := "MappedProcessorModel") (T := T_Ref) (N := 14) hx hb hB iw_Ref ty_Ref ty_Ref_ok nm_Ref hown hK hP hD hS 0 rfl rfl 6 (by decide) (hB _ mw_649) (fun _ h9 => h9) rfl (by decide +kernel) rfl rfl (Nat.le_of_ble_eq_true rfl) d_Ref_paged_230 (fun H locs hP hD hS => ?_)
                have hP : va_P D kCl [(aT, .inr (11, [.ref bG, .ref bS, .ref bM, .int rl, .int rk, .int rr, .int ((f_Ref_search ((((rs (ix ((32 : Int32) + (ush p0 (28 : Int32))))) &&& (16777215 : Int32)) &&& (524287 : Int32)) ^^^ ((ush p0 (12 : Int32)) &&& (65535 : Int32))) (((-2147483648 : Int32) + ((128 : Int32) * ((rs (ix ((32 : Int32) + (ush p0 (28 : Int32))))) &&& (16777215 : Int32)))) + (ush ((ush p0 (12 : Int32)) &&& (65535 : Int32)) (10 : Int32))) rs rm) + (1 : Int32)), .int rc, .int rd, .int ra, .int rb, .int rn, .int rf, .int rw])), (bG, .inl (dG, 32, .inl rg)), (bS, .inl (dS, 48, .inl rs)), (bM, .inl (dM, 16384, .inl rm))] H := hP
                have hD : va_D A [(aT, .inr (11, [.ref bG, .ref bS, .ref bM, .int rl, .int rk, .int rr, .int ((f_Ref_search ((((rs (ix ((32 : Int32) + (ush p0 (28 : Int32))))) &&& (16777215 : Int32)) &&& (524287 : Int32)) ^^^ ((ush p0 (12 : Int32)) &&& (65535 : Int32))) (((-2147483648 : Int32) + ((128 : Int32) * ((rs (ix ((32 : Int32) + (ush p0 (28 : Int32))))) &&& (16777215 : Int32)))) + (ush ((ush p0 (12 : Int32)) &&& (65535 : Int32)) (10 : Int32))) rs rm) + (1 : Int32)), .int rc, .int rd, .int ra, .int rb, .int rn, .int rf, .int rw])), (bG, .inl (dG, 32, .inl rg)), (bS, .inl (dS, 48, .inl rs)), (bM, .inl (dM, 16384, .inl rm))] := hD
                refine lv_iload hx hb d_Ref_paged_233 (lv_at hl 2 rfl) ?_
                refine lv_sipush (v := (-4096 : Int32)) hx hb d_Ref_paged_235 (by decide) ?_
                refine lv_iand hx hb d_Ref_paged_238 ?_
                refine lv_iload_n hx hb d_Ref_paged_239 rfl (lv_at hl 10 rfl) ?_
                refine lv_sipush (v := (4095 : Int32)) hx hb d_Ref_paged_240 (by decide) ?_
                refine lv_iand hx hb d_Ref_paged_243 ?_
                refine lv_ior hx hb d_Ref_paged_244 ?_
                have ef : f_Ref_paged p0 p1 p2 rs rm rr re = ((((rm (ix ((f_Ref_search ((((rs (ix ((32 : Int32) + (ush p0 (28 : Int32))))) &&& (16777215 : Int32)) &&& (524287 : Int32)) ^^^ ((ush p0 (12 : Int32)) &&& (65535 : Int32))) (((-2147483648 : Int32) + ((128 : Int32) * ((rs (ix ((32 : Int32) + (ush p0 (28 : Int32))))) &&& (16777215 : Int32)))) + (ush ((ush p0 (12 : Int32)) &&& (65535 : Int32)) (10 : Int32))) rs rm) + (1 : Int32)))) &&& (-4096 : Int32)) ||| (p0 &&& (4095 : Int32))), rr, ((f_Ref_search ((((rs (ix ((32 : Int32) + (ush p0 (28 : Int32))))) &&& (16777215 : Int32)) &&& (524287 : Int32)) ^^^ ((ush p0 (12 : Int32)) &&& (65535 : Int32))) (((-2147483648 : Int32) + ((128 : Int32) * ((rs (ix ((32 : Int32) + (ush p0 (28 : Int32))))) &&& (16777215 : Int32)))) + (ush ((ush p0 (12 : Int32)) &&& (65535 : Int32)) (10 : Int32))) rs rm) + (1 : Int32))) := by unfold f_Ref_paged; rw [if_pos h1, if_pos h3, if_pos h38, if_pos h42, if_neg h49, if_neg h53, if_neg h54]
                exact k_iret hx hb hr hlocks hK hP hD hS [0, 1, 2, 3] rfl (by rw [ef] <;> rfl) (by rw [ef] <;> rfl) d_Ref_paged_245
              · refine lv_iload hx hb d_Ref_paged_200 (lv_at hl 1 rfl) ?_
                refine lv_iconst (v := (3 : Int32)) hx hb d_Ref_paged_202 (by decide) ?_
                refine lv_icmp_eq (tgt := 217) hx hb d_Ref_paged_203 (by decide) (fun (h55 : ((rm (ix ((f_Ref_search ((((rs (ix ((32 : Int32) + (ush p0 (28 : Int32))))) &&& (16777215 : Int32)) &&& (524287 : Int32)) ^^^ ((ush p0 (12 : Int32)) &&& (65535 : Int32))) (((-2147483648 : Int32) + ((128 : Int32) * ((rs (ix ((32 : Int32) + (ush p0 (28 : Int32))))) &&& (16777215 : Int32)))) + (ush ((ush p0 (12 : Int32)) &&& (65535 : Int32)) (10 : Int32))) rs rm) + (1 : Int32)))) &&& (3 : Int32)) = (3 : Int32)) => ?_) (fun (h55 : ¬ ((rm (ix ((f_Ref_search ((((rs (ix ((32 : Int32) + (ush p0 (28 : Int32))))) &&& (16777215 : Int32)) &&& (524287 : Int32)) ^^^ ((ush p0 (12 : Int32)) &&& (65535 : Int32))) (((-2147483648 : Int32) + ((128 : Int32) * ((rs (ix ((32 : Int32) + (ush p0 (28 : Int32))))) &&& (16777215 : Int32)))) + (ush ((ush p0 (12 : Int32)) &&& (65535 : Int32)) (10 : Int32))) rs rm) + (1 : Int32)))) &&& (3 : Int32)) = (3 : Int32)) => ?_)
                · refine lv_aload_n hx hb d_Ref_paged_217 rfl (lv_at hl 9 rfl) ?_
                  refine lv_bipush (v := (-2 : Int32)) hx hb d_Ref_paged_218 (by decide) ?_
                  refine va_put (D := D) (ci := 11) (v := .int (-2 : Int32)) (ty := .int) (C := "MappedProcessorModel") (T := T_Ref) (N := 14) hx hb hB iw_Ref ty_Ref ty_Ref_ok nm_Ref hown hK hP hD hS 0 rfl rfl 5 (by decide) (hB _ mw_648) (fun _ h9 => h9) rfl (by decide +kernel) rfl rfl (Nat.le_of_ble_eq_true rfl) d_Ref_paged_220 (fun H locs hP hD hS => ?_)
                  have hP : va_P D kCl [(aT, .inr (11, [.ref bG, .ref bS, .ref bM, .int rl, .int rk, .int (-2 : Int32), .int re, .int rc, .int rd, .int ra, .int rb, .int rn, .int rf, .int rw])), (bG, .inl (dG, 32, .inl rg)), (bS, .inl (dS, 48, .inl rs)), (bM, .inl (dM, 16384, .inl rm))] H := hP
                  have hD : va_D A [(aT, .inr (11, [.ref bG, .ref bS, .ref bM, .int rl, .int rk, .int (-2 : Int32), .int re, .int rc, .int rd, .int ra, .int rb, .int rn, .int rf, .int rw])), (bG, .inl (dG, 32, .inl rg)), (bS, .inl (dS, 48, .inl rs)), (bM, .inl (dM, 16384, .inl rm))] := hD
                  refine lv_iconst (v := (0 : Int32)) hx hb d_Ref_paged_223 (by decide) ?_
                  have ef : f_Ref_paged p0 p1 p2 rs rm rr re = ((0 : Int32), (-2 : Int32), re) := by unfold f_Ref_paged; rw [if_pos h1, if_pos h3, if_pos h38, if_pos h42, if_neg h49, if_neg h53, if_pos h54, if_pos h55]
                  exact k_iret hx hb hr hlocks hK hP hD hS [0, 1, 2, 3] rfl (by rw [ef] <;> rfl) (by rw [ef] <;> rfl) d_Ref_paged_224
                · refine lv_iload hx hb d_Ref_paged_206 (lv_at hl 0 rfl) ?_
                  refine lv_if_eq (tgt := 225) hx hb d_Ref_paged_208 (by decide) (fun (h56 : (f_Ref_bit (rs (ix ((32 : Int32) + (ush p0 (28 : Int32))))) (if p2 = (0 : Int32) then (30 : Int32) else (29 : Int32))) = (0 : Int32)) => ?_) (fun (h56 : ¬ (f_Ref_bit (rs (ix ((32 : Int32) + (ush p0 (28 : Int32))))) (if p2 = (0 : Int32) then (30 : Int32) else (29 : Int32))) = (0 : Int32)) => ?_)
                  · exact absurd h56 h49
                  refine lv_iload hx hb d_Ref_paged_211 (lv_at hl 1 rfl) ?_
                  refine lv_iconst (v := (1 : Int32)) hx hb d_Ref_paged_213 (by decide) ?_
                  refine lv_icmp_ne (tgt := 225) hx hb d_Ref_paged_214 (by decide) (fun (h57 : ¬ ((rm (ix ((f_Ref_search ((((rs (ix ((32 : Int32) + (ush p0 (28 : Int32))))) &&& (16777215 : Int32)) &&& (524287 : Int32)) ^^^ ((ush p0 (12 : Int32)) &&& (65535 : Int32))) (((-2147483648 : Int32) + ((128 : Int32) * ((rs (ix ((32 : Int32) + (ush p0 (28 : Int32))))) &&& (16777215 : Int32)))) + (ush ((ush p0 (12 : Int32)) &&& (65535 : Int32)) (10 : Int32))) rs rm) + (1 : Int32)))) &&& (3 : Int32)) = (1 : Int32)) => ?_) (fun (h57 : ((rm (ix ((f_Ref_search ((((rs (ix ((32 : Int32) + (ush p0 (28 : Int32))))) &&& (16777215 : Int32)) &&& (524287 : Int32)) ^^^ ((ush p0 (12 : Int32)) &&& (65535 : Int32))) (((-2147483648 : Int32) + ((128 : Int32) * ((rs (ix ((32 : Int32) + (ush p0 (28 : Int32))))) &&& (16777215 : Int32)))) + (ush ((ush p0 (12 : Int32)) &&& (65535 : Int32)) (10 : Int32))) rs rm) + (1 : Int32)))) &&& (3 : Int32)) = (1 : Int32)) => ?_)
                  · refine lv_aload_n hx hb d_Ref_paged_225 rfl (lv_at hl 9 rfl) ?_
                    refine lv_iload hx hb d_Ref_paged_226 (lv_at hl 3 rfl) ?_
                    refine lv_iconst (v := (1 : Int32)) hx hb d_Ref_paged_228 (by decide) ?_
                    refine lv_iadd hx hb d_Ref_paged_229 ?_
                    refine va_put (D := D) (ci := 11) (v := .int ((f_Ref_search ((((rs (ix ((32 : Int32) + (ush p0 (28 : Int32))))) &&& (16777215 : Int32)) &&& (524287 : Int32)) ^^^ ((ush p0 (12 : Int32)) &&& (65535 : Int32))) (((-2147483648 : Int32) + ((128 : Int32) * ((rs (ix ((32 : Int32) + (ush p0 (28 : Int32))))) &&& (16777215 : Int32)))) + (ush ((ush p0 (12 : Int32)) &&& (65535 : Int32)) (10 : Int32))) rs rm) + (1 : Int32))) (ty := .int) (C := "MappedProcessorModel") (T := T_Ref) (N := 14) hx hb hB iw_Ref ty_Ref ty_Ref_ok nm_Ref hown hK hP hD hS 0 rfl rfl 6 (by decide) (hB _ mw_649) (fun _ h9 => h9) rfl (by decide +kernel) rfl rfl (Nat.le_of_ble_eq_true rfl) d_Ref_paged_230 (fun H locs hP hD hS => ?_)
                    have hP : va_P D kCl [(aT, .inr (11, [.ref bG, .ref bS, .ref bM, .int rl, .int rk, .int rr, .int ((f_Ref_search ((((rs (ix ((32 : Int32) + (ush p0 (28 : Int32))))) &&& (16777215 : Int32)) &&& (524287 : Int32)) ^^^ ((ush p0 (12 : Int32)) &&& (65535 : Int32))) (((-2147483648 : Int32) + ((128 : Int32) * ((rs (ix ((32 : Int32) + (ush p0 (28 : Int32))))) &&& (16777215 : Int32)))) + (ush ((ush p0 (12 : Int32)) &&& (65535 : Int32)) (10 : Int32))) rs rm) + (1 : Int32)), .int rc, .int rd, .int ra, .int rb, .int rn, .int rf, .int rw])), (bG, .inl (dG, 32, .inl rg)), (bS, .inl (dS, 48, .inl rs)), (bM, .inl (dM, 16384, .inl rm))] H := hP
                    have hD : va_D A [(aT, .inr (11, [.ref bG, .ref bS, .ref bM, .int rl, .int rk, .int rr, .int ((f_Ref_search ((((rs (ix ((32 : Int32) + (ush p0 (28 : Int32))))) &&& (16777215 : Int32)) &&& (524287 : Int32)) ^^^ ((ush p0 (12 : Int32)) &&& (65535 : Int32))) (((-2147483648 : Int32) + ((128 : Int32) * ((rs (ix ((32 : Int32) + (ush p0 (28 : Int32))))) &&& (16777215 : Int32)))) + (ush ((ush p0 (12 : Int32)) &&& (65535 : Int32)) (10 : Int32))) rs rm) + (1 : Int32)), .int rc, .int rd, .int ra, .int rb, .int rn, .int rf, .int rw])), (bG, .inl (dG, 32, .inl rg)), (bS, .inl (dS, 48, .inl rs)), (bM, .inl (dM, 16384, .inl rm))] := hD
                    refine lv_iload hx hb d_Ref_paged_233 (lv_at hl 2 rfl) ?_
                    refine lv_sipush (v := (-4096 : Int32)) hx hb d_Ref_paged_235 (by decide) ?_
                    refine lv_iand hx hb d_Ref_paged_238 ?_
                    refine lv_iload_n hx hb d_Ref_paged_239 rfl (lv_at hl 10 rfl) ?_
                    refine lv_sipush (v := (4095 : Int32)) hx hb d_Ref_paged_240 (by decide) ?_
                    refine lv_iand hx hb d_Ref_paged_243 ?_
                    refine lv_ior hx hb d_Ref_paged_244 ?_
                    have ef : f_Ref_paged p0 p1 p2 rs rm rr re = ((((rm (ix ((f_Ref_search ((((rs (ix ((32 : Int32) + (ush p0 (28 : Int32))))) &&& (16777215 : Int32)) &&& (524287 : Int32)) ^^^ ((ush p0 (12 : Int32)) &&& (65535 : Int32))) (((-2147483648 : Int32) + ((128 : Int32) * ((rs (ix ((32 : Int32) + (ush p0 (28 : Int32))))) &&& (16777215 : Int32)))) + (ush ((ush p0 (12 : Int32)) &&& (65535 : Int32)) (10 : Int32))) rs rm) + (1 : Int32)))) &&& (-4096 : Int32)) ||| (p0 &&& (4095 : Int32))), rr, ((f_Ref_search ((((rs (ix ((32 : Int32) + (ush p0 (28 : Int32))))) &&& (16777215 : Int32)) &&& (524287 : Int32)) ^^^ ((ush p0 (12 : Int32)) &&& (65535 : Int32))) (((-2147483648 : Int32) + ((128 : Int32) * ((rs (ix ((32 : Int32) + (ush p0 (28 : Int32))))) &&& (16777215 : Int32)))) + (ush ((ush p0 (12 : Int32)) &&& (65535 : Int32)) (10 : Int32))) rs rm) + (1 : Int32))) := by unfold f_Ref_paged; rw [if_pos h1, if_pos h3, if_pos h38, if_pos h42, if_neg h49, if_neg h53, if_pos h54, if_neg h55, if_neg h57]
                    exact k_iret hx hb hr hlocks hK hP hD hS [0, 1, 2, 3] rfl (by rw [ef] <;> rfl) (by rw [ef] <;> rfl) d_Ref_paged_245
                  · refine lv_aload_n hx hb d_Ref_paged_217 rfl (lv_at hl 9 rfl) ?_
                    refine lv_bipush (v := (-2 : Int32)) hx hb d_Ref_paged_218 (by decide) ?_
                    refine va_put (D := D) (ci := 11) (v := .int (-2 : Int32)) (ty := .int) (C := "MappedProcessorModel") (T := T_Ref) (N := 14) hx hb hB iw_Ref ty_Ref ty_Ref_ok nm_Ref hown hK hP hD hS 0 rfl rfl 5 (by decide) (hB _ mw_648) (fun _ h9 => h9) rfl (by decide +kernel) rfl rfl (Nat.le_of_ble_eq_true rfl) d_Ref_paged_220 (fun H locs hP hD hS => ?_)
                    have hP : va_P D kCl [(aT, .inr (11, [.ref bG, .ref bS, .ref bM, .int rl, .int rk, .int (-2 : Int32), .int re, .int rc, .int rd, .int ra, .int rb, .int rn, .int rf, .int rw])), (bG, .inl (dG, 32, .inl rg)), (bS, .inl (dS, 48, .inl rs)), (bM, .inl (dM, 16384, .inl rm))] H := hP
                    have hD : va_D A [(aT, .inr (11, [.ref bG, .ref bS, .ref bM, .int rl, .int rk, .int (-2 : Int32), .int re, .int rc, .int rd, .int ra, .int rb, .int rn, .int rf, .int rw])), (bG, .inl (dG, 32, .inl rg)), (bS, .inl (dS, 48, .inl rs)), (bM, .inl (dM, 16384, .inl rm))] := hD
                    refine lv_iconst (v := (0 : Int32)) hx hb d_Ref_paged_223 (by decide) ?_
                    have ef : f_Ref_paged p0 p1 p2 rs rm rr re = ((0 : Int32), (-2 : Int32), re) := by unfold f_Ref_paged; rw [if_pos h1, if_pos h3, if_pos h38, if_pos h42, if_neg h49, if_neg h53, if_pos h54, if_neg h55, if_pos h57]
                    exact k_iret hx hb hr hlocks hK hP hD hS [0, 1, 2, 3] rfl (by rw [ef] <;> rfl) (by rw [ef] <;> rfl) d_Ref_paged_224
        · refine lv_aload_n hx hb d_Ref_paged_118 rfl (lv_at hl 6 rfl) ?_
          refine lv_iload hx hb d_Ref_paged_119 (lv_at hl 2 rfl) ?_
          refine lv_iconst (v := (-1 : Int32)) hx hb d_Ref_paged_121 (by decide) ?_
          refine lv_ixor hx hb d_Ref_paged_122 ?_
          refine lv_iload hx hb d_Ref_paged_123 (lv_at hl 1 rfl) ?_
          refine lv_bipush (v := (64 : Int32)) hx hb d_Ref_paged_125 (by decide) ?_
          refine lv_iadd hx hb d_Ref_paged_127 ?_
          refine k_cVi (As := [.int (((((rs (ix ((32 : Int32) + (ush p0 (28 : Int32))))) &&& (16777215 : Int32)) &&& (524287 : Int32)) ^^^ ((ush p0 (12 : Int32)) &&& (65535 : Int32))) ^^^ (-1 : Int32)), .int ((((-2147483648 : Int32) + ((128 : Int32) * ((rs (ix ((32 : Int32) + (ush p0 (28 : Int32))))) &&& (16777215 : Int32)))) + (ush ((ush p0 (12 : Int32)) &&& (65535 : Int32)) (10 : Int32))) + (64 : Int32))]) (rest := []) (wr := []) (wj := [(aT, .inr (11, [.ref bG, .ref bS, .ref bM, .int rl, .int rk, .int rr, .int re, .int rc, .int rd, .int ra, .int rb, .int rn, .int rf, .int rw])), (bG, .inl (dG, 32, .inl rg)), (bS, .inl (dS, 48, .inl rs)), (bM, .inl (dM, 16384, .inl rm))]) ⟨hx, hb, hml, hown, hB⟩ (c_Ref_search l D aT bG bS bM dG dS dM rg rs rm rl rk rr re rc rd ra rb rn rf rw (((((rs (ix ((32 : Int32) + (ush p0 (28 : Int32))))) &&& (16777215 : Int32)) &&& (524287 : Int32)) ^^^ ((ush p0 (12 : Int32)) &&& (65535 : Int32))) ^^^ (-1 : Int32)) ((((-2147483648 : Int32) + ((128 : Int32) * ((rs (ix ((32 : Int32) + (ush p0 (28 : Int32))))) &&& (16777215 : Int32)))) + (ush ((ush p0 (12 : Int32)) &&& (65535 : Int32)) (10 : Int32))) + (64 : Int32))) yl_Ref_search mw_740 hK hN hP hD hS hA [0, 1, 2] [0, 1, 2, 3] [] [0, 1, 2, 3] rfl rfl rfl rfl (by decide +kernel) 0 rfl rfl rfl rfl hl.1 rfl (Nat.le_of_ble_eq_true rfl) ⟨Nat.le_of_ble_eq_true rfl, Nat.le_of_ble_eq_true rfl⟩ d_Ref_paged_128 ⟨Nat.le_of_ble_eq_true rfl, Nat.le_of_ble_eq_true rfl⟩ (fun H locs hP hD hS => ?_)
          refine lv_goto (tgt := 136) hx hb d_Ref_paged_131 (by decide) ?_
          refine lv_istore (lv' := [(9, .int (f_Ref_search (((((rs (ix ((32 : Int32) + (ush p0 (28 : Int32))))) &&& (16777215 : Int32)) &&& (524287 : Int32)) ^^^ ((ush p0 (12 : Int32)) &&& (65535 : Int32))) ^^^ (-1 : Int32)) ((((-2147483648 : Int32) + ((128 : Int32) * ((rs (ix ((32 : Int32) + (ush p0 (28 : Int32))))) &&& (16777215 : Int32)))) + (ush ((ush p0 (12 : Int32)) &&& (65535 : Int32)) (10 : Int32))) + (64 : Int32)) rs rm)), (8, .int (((-2147483648 : Int32) + ((128 : Int32) * ((rs (ix ((32 : Int32) + (ush p0 (28 : Int32))))) &&& (16777215 : Int32)))) + (ush ((ush p0 (12 : Int32)) &&& (65535 : Int32)) (10 : Int32)))), (7, .int ((((rs (ix ((32 : Int32) + (ush p0 (28 : Int32))))) &&& (16777215 : Int32)) &&& (524287 : Int32)) ^^^ ((ush p0 (12 : Int32)) &&& (65535 : Int32)))), (6, .int ((ush p0 (12 : Int32)) &&& (65535 : Int32))), (5, .int ((rs (ix ((32 : Int32) + (ush p0 (28 : Int32))))) &&& (16777215 : Int32))), (4, .int (rs (ix ((32 : Int32) + (ush p0 (28 : Int32)))))), (0, .ref aT), (1, .int p0), (2, .int p1), (3, .int p2)]) hx hb d_Ref_paged_136 hl (by decide) rfl (fun ls hl => ?_)
          refine lv_iload hx hb d_Ref_paged_138 (lv_at hl 0 rfl) ?_
          refine lv_if_ge (tgt := 150) hx hb d_Ref_paged_140 (by decide) (fun (h58 : (0 : Int32) ≤ (f_Ref_search (((((rs (ix ((32 : Int32) + (ush p0 (28 : Int32))))) &&& (16777215 : Int32)) &&& (524287 : Int32)) ^^^ ((ush p0 (12 : Int32)) &&& (65535 : Int32))) ^^^ (-1 : Int32)) ((((-2147483648 : Int32) + ((128 : Int32) * ((rs (ix ((32 : Int32) + (ush p0 (28 : Int32))))) &&& (16777215 : Int32)))) + (ush ((ush p0 (12 : Int32)) &&& (65535 : Int32)) (10 : Int32))) + (64 : Int32)) rs rm)) => ?_) (fun (h58 : ¬ (0 : Int32) ≤ (f_Ref_search (((((rs (ix ((32 : Int32) + (ush p0 (28 : Int32))))) &&& (16777215 : Int32)) &&& (524287 : Int32)) ^^^ ((ush p0 (12 : Int32)) &&& (65535 : Int32))) ^^^ (-1 : Int32)) ((((-2147483648 : Int32) + ((128 : Int32) * ((rs (ix ((32 : Int32) + (ush p0 (28 : Int32))))) &&& (16777215 : Int32)))) + (ush ((ush p0 (12 : Int32)) &&& (65535 : Int32)) (10 : Int32))) + (64 : Int32)) rs rm)) => ?_)
          · refine lv_aload_n hx hb d_Ref_paged_150 rfl (lv_at hl 6 rfl) ?_
            refine va_get (D := D) (ci := 11) (v := .ref bM) (C := "MappedProcessorModel") (T := T_Ref) (N := 14) hx hb hB iw_Ref hown hK hP 0 rfl rfl 2 (by decide) (hB _ mw_645) (fun _ h9 => h9) rfl d_Ref_paged_151 ?_
            refine lv_iload hx hb d_Ref_paged_154 (lv_at hl 0 rfl) ?_
            refine lv_iconst (v := (1 : Int32)) hx hb d_Ref_paged_156 (by decide) ?_
            refine lv_iadd hx hb d_Ref_paged_157 ?_
            refine k_iald (j := (ix ((f_Ref_search (((((rs (ix ((32 : Int32) + (ush p0 (28 : Int32))))) &&& (16777215 : Int32)) &&& (524287 : Int32)) ^^^ ((ush p0 (12 : Int32)) &&& (65535 : Int32))) ^^^ (-1 : Int32)) ((((-2147483648 : Int32) + ((128 : Int32) * ((rs (ix ((32 : Int32) + (ush p0 (28 : Int32))))) &&& (16777215 : Int32)))) + (ush ((ush p0 (12 : Int32)) &&& (65535 : Int32)) (10 : Int32))) + (64 : Int32)) rs rm) + (1 : Int32)))) hx hb hK hP 3 2 rfl rfl rfl (ix_succ h58 (se_lt _ _ _ _)) d_Ref_paged_158 ?_
            refine lv_istore (lv' := [(10, .int (rm (ix ((f_Ref_search (((((rs (ix ((32 : Int32) + (ush p0 (28 : Int32))))) &&& (16777215 : Int32)) &&& (524287 : Int32)) ^^^ ((ush p0 (12 : Int32)) &&& (65535 : Int32))) ^^^ (-1 : Int32)) ((((-2147483648 : Int32) + ((128 : Int32) * ((rs (ix ((32 : Int32) + (ush p0 (28 : Int32))))) &&& (16777215 : Int32)))) + (ush ((ush p0 (12 : Int32)) &&& (65535 : Int32)) (10 : Int32))) + (64 : Int32)) rs rm) + (1 : Int32))))), (9, .int (f_Ref_search (((((rs (ix ((32 : Int32) + (ush p0 (28 : Int32))))) &&& (16777215 : Int32)) &&& (524287 : Int32)) ^^^ ((ush p0 (12 : Int32)) &&& (65535 : Int32))) ^^^ (-1 : Int32)) ((((-2147483648 : Int32) + ((128 : Int32) * ((rs (ix ((32 : Int32) + (ush p0 (28 : Int32))))) &&& (16777215 : Int32)))) + (ush ((ush p0 (12 : Int32)) &&& (65535 : Int32)) (10 : Int32))) + (64 : Int32)) rs rm)), (8, .int (((-2147483648 : Int32) + ((128 : Int32) * ((rs (ix ((32 : Int32) + (ush p0 (28 : Int32))))) &&& (16777215 : Int32)))) + (ush ((ush p0 (12 : Int32)) &&& (65535 : Int32)) (10 : Int32)))), (7, .int ((((rs (ix ((32 : Int32) + (ush p0 (28 : Int32))))) &&& (16777215 : Int32)) &&& (524287 : Int32)) ^^^ ((ush p0 (12 : Int32)) &&& (65535 : Int32)))), (6, .int ((ush p0 (12 : Int32)) &&& (65535 : Int32))), (5, .int ((rs (ix ((32 : Int32) + (ush p0 (28 : Int32))))) &&& (16777215 : Int32))), (4, .int (rs (ix ((32 : Int32) + (ush p0 (28 : Int32)))))), (0, .ref aT), (1, .int p0), (2, .int p1), (3, .int p2)]) hx hb d_Ref_paged_159 hl (by decide) rfl (fun ls hl => ?_)
            refine lv_iload hx hb d_Ref_paged_161 (lv_at hl 0 rfl) ?_
            refine lv_iconst (v := (3 : Int32)) hx hb d_Ref_paged_163 (by decide) ?_
            refine lv_iand hx hb d_Ref_paged_164 ?_
            refine lv_istore (lv' := [(11, .int ((rm (ix ((f_Ref_search (((((rs (ix ((32 : Int32) + (ush p0 (28 : Int32))))) &&& (16777215 : Int32)) &&& (524287 : Int32)) ^^^ ((ush p0 (12 : Int32)) &&& (65535 : Int32))) ^^^ (-1 : Int32)) ((((-2147483648 : Int32) + ((128 : Int32) * ((rs (ix ((32 : Int32) + (ush p0 (28 : Int32))))) &&& (16777215 : Int32)))) + (ush ((ush p0 (12 : Int32)) &&& (65535 : Int32)) (10 : Int32))) + (64 : Int32)) rs rm) + (1 : Int32)))) &&& (3 : Int32))), (10, .int (rm (ix ((f_Ref_search (((((rs (ix ((32 : Int32) + (ush p0 (28 : Int32))))) &&& (16777215 : Int32)) &&& (524287 : Int32)) ^^^ ((ush p0 (12 : Int32)) &&& (65535 : Int32))) ^^^ (-1 : Int32)) ((((-2147483648 : Int32) + ((128 : Int32) * ((rs (ix ((32 : Int32) + (ush p0 (28 : Int32))))) &&& (16777215 : Int32)))) + (ush ((ush p0 (12 : Int32)) &&& (65535 : Int32)) (10 : Int32))) + (64 : Int32)) rs rm) + (1 : Int32))))), (9, .int (f_Ref_search (((((rs (ix ((32 : Int32) + (ush p0 (28 : Int32))))) &&& (16777215 : Int32)) &&& (524287 : Int32)) ^^^ ((ush p0 (12 : Int32)) &&& (65535 : Int32))) ^^^ (-1 : Int32)) ((((-2147483648 : Int32) + ((128 : Int32) * ((rs (ix ((32 : Int32) + (ush p0 (28 : Int32))))) &&& (16777215 : Int32)))) + (ush ((ush p0 (12 : Int32)) &&& (65535 : Int32)) (10 : Int32))) + (64 : Int32)) rs rm)), (8, .int (((-2147483648 : Int32) + ((128 : Int32) * ((rs (ix ((32 : Int32) + (ush p0 (28 : Int32))))) &&& (16777215 : Int32)))) + (ush ((ush p0 (12 : Int32)) &&& (65535 : Int32)) (10 : Int32)))), (7, .int ((((rs (ix ((32 : Int32) + (ush p0 (28 : Int32))))) &&& (16777215 : Int32)) &&& (524287 : Int32)) ^^^ ((ush p0 (12 : Int32)) &&& (65535 : Int32)))), (6, .int ((ush p0 (12 : Int32)) &&& (65535 : Int32))), (5, .int ((rs (ix ((32 : Int32) + (ush p0 (28 : Int32))))) &&& (16777215 : Int32))), (4, .int (rs (ix ((32 : Int32) + (ush p0 (28 : Int32)))))), (0, .ref aT), (1, .int p0), (2, .int p1), (3, .int p2)]) hx hb d_Ref_paged_165 hl (by decide) rfl (fun ls hl => ?_)
            refine lv_iload hx hb d_Ref_paged_167 (lv_at hl 7 rfl) ?_
            refine lv_iload_n hx hb d_Ref_paged_169 rfl (lv_at hl 11 rfl) ?_
            refine k_join2 (c0 := p2 = (0 : Int32)) (x1 := (30 : Int32)) (x2 := (29 : Int32)) (rest := [.int (rs (ix ((32 : Int32) + (ush p0 (28 : Int32)))))]) 180 ?_ (fun k60 k61 => ?_)
            rotate_left
            · refine lv_if_eq (tgt := 178) hx hb d_Ref_paged_170 (by decide) (fun (h59 : p2 = (0 : Int32)) => ?_) (fun (h59 : ¬ p2 = (0 : Int32)) => ?_)
              · refine lv_bipush (v := (30 : Int32)) hx hb d_Ref_paged_178 (by decide) ?_
                exact k60 h59
              · refine lv_bipush (v := (29 : Int32)) hx hb d_Ref_paged_173 (by decide) ?_
                refine lv_goto (tgt := 180) hx hb d_Ref_paged_175 (by decide) ?_
                exact k61 h59
            refine k_cSi (As := [.int (rs (ix ((32 : Int32) + (ush p0 (28 : Int32))))), .int (if p2 = (0 : Int32) then (30 : Int32) else (29 : Int32))]) (rest := []) (wr := [(aT, .inr (11, [.ref bG, .ref bS, .ref bM, .int rl, .int rk, .int rr, .int re, .int rc, .int rd, .int ra, .int rb, .int rn, .int rf, .int rw])), (bG, .inl (dG, 32, .inl rg)), (bS, .inl (dS, 48, .inl rs)), (bM, .inl (dM, 16384, .inl rm))]) (wj := [(aT, .inr (11, [.ref bG, .ref bS, .ref bM, .int rl, .int rk, .int rr, .int re, .int rc, .int rd, .int ra, .int rb, .int rn, .int rf, .int rw])), (bG, .inl (dG, 32, .inl rg)), (bS, .inl (dS, 48, .inl rs)), (bM, .inl (dM, 16384, .inl rm))]) ⟨hx, hb, hml, hown, hB⟩ (c_Ref_bit l D (rs (ix ((32 : Int32) + (ush p0 (28 : Int32))))) (if p2 = (0 : Int32) then (30 : Int32) else (29 : Int32))) yl_Ref_bit mw_725 hK hN hP hD hS hA [] [] [0, 1, 2, 3] [0, 1, 2, 3] rfl rfl rfl rfl (by decide +kernel) rfl hl.1 rfl (Nat.le_of_ble_eq_true rfl) ⟨Nat.le_of_ble_eq_true rfl, Nat.le_of_ble_eq_true rfl⟩ d_Ref_paged_180 ⟨Nat.le_of_ble_eq_true rfl, Nat.le_of_ble_eq_true rfl⟩ (fun H locs hP hD hS => ?_)
            refine lv_istore (lv' := [(12, .int (f_Ref_bit (rs (ix ((32 : Int32) + (ush p0 (28 : Int32))))) (if p2 = (0 : Int32) then (30 : Int32) else (29 : Int32)))), (11, .int ((rm (ix ((f_Ref_search (((((rs (ix ((32 : Int32) + (ush p0 (28 : Int32))))) &&& (16777215 : Int32)) &&& (524287 : Int32)) ^^^ ((ush p0 (12 : Int32)) &&& (65535 : Int32))) ^^^ (-1 : Int32)) ((((-2147483648 : Int32) + ((128 : Int32) * ((rs (ix ((32 : Int32) + (ush p0 (28 : Int32))))) &&& (16777215 : Int32)))) + (ush ((ush p0 (12 : Int32)) &&& (65535 : Int32)) (10 : Int32))) + (64 : Int32)) rs rm) + (1 : Int32)))) &&& (3 : Int32))), (10, .int (rm (ix ((f_Ref_search (((((rs (ix ((32 : Int32) + (ush p0 (28 : Int32))))) &&& (16777215 : Int32)) &&& (524287 : Int32)) ^^^ ((ush p0 (12 : Int32)) &&& (65535 : Int32))) ^^^ (-1 : Int32)) ((((-2147483648 : Int32) + ((128 : Int32) * ((rs (ix ((32 : Int32) + (ush p0 (28 : Int32))))) &&& (16777215 : Int32)))) + (ush ((ush p0 (12 : Int32)) &&& (65535 : Int32)) (10 : Int32))) + (64 : Int32)) rs rm) + (1 : Int32))))), (9, .int (f_Ref_search (((((rs (ix ((32 : Int32) + (ush p0 (28 : Int32))))) &&& (16777215 : Int32)) &&& (524287 : Int32)) ^^^ ((ush p0 (12 : Int32)) &&& (65535 : Int32))) ^^^ (-1 : Int32)) ((((-2147483648 : Int32) + ((128 : Int32) * ((rs (ix ((32 : Int32) + (ush p0 (28 : Int32))))) &&& (16777215 : Int32)))) + (ush ((ush p0 (12 : Int32)) &&& (65535 : Int32)) (10 : Int32))) + (64 : Int32)) rs rm)), (8, .int (((-2147483648 : Int32) + ((128 : Int32) * ((rs (ix ((32 : Int32) + (ush p0 (28 : Int32))))) &&& (16777215 : Int32)))) + (ush ((ush p0 (12 : Int32)) &&& (65535 : Int32)) (10 : Int32)))), (7, .int ((((rs (ix ((32 : Int32) + (ush p0 (28 : Int32))))) &&& (16777215 : Int32)) &&& (524287 : Int32)) ^^^ ((ush p0 (12 : Int32)) &&& (65535 : Int32)))), (6, .int ((ush p0 (12 : Int32)) &&& (65535 : Int32))), (5, .int ((rs (ix ((32 : Int32) + (ush p0 (28 : Int32))))) &&& (16777215 : Int32))), (4, .int (rs (ix ((32 : Int32) + (ush p0 (28 : Int32)))))), (0, .ref aT), (1, .int p0), (2, .int p1), (3, .int p2)]) hx hb d_Ref_paged_183 hl (by decide) rfl (fun ls hl => ?_)
            refine lv_iload hx hb d_Ref_paged_185 (lv_at hl 0 rfl) ?_
            refine lv_if_eq (tgt := 195) hx hb d_Ref_paged_187 (by decide) (fun (h64 : (f_Ref_bit (rs (ix ((32 : Int32) + (ush p0 (28 : Int32))))) (if p2 = (0 : Int32) then (30 : Int32) else (29 : Int32))) = (0 : Int32)) => ?_) (fun (h64 : ¬ (f_Ref_bit (rs (ix ((32 : Int32) + (ush p0 (28 : Int32))))) (if p2 = (0 : Int32) then (30 : Int32) else (29 : Int32))) = (0 : Int32)) => ?_)
            · refine lv_iload_n hx hb d_Ref_paged_195 rfl (lv_at hl 11 rfl) ?_
              refine lv_iconst (v := (2 : Int32)) hx hb d_Ref_paged_196 (by decide) ?_
              refine lv_icmp_ne (tgt := 225) hx hb d_Ref_paged_197 (by decide) (fun (h65 : ¬ p1 = (2 : Int32)) => ?_) (fun (h65 : p1 = (2 : Int32)) => ?_)
              · refine lv_aload_n hx hb d_Ref_paged_225 rfl (lv_at hl 9 rfl) ?_
                refine lv_iload hx hb d_Ref_paged_226 (lv_at hl 3 rfl) ?_
                refine lv_iconst (v := (1 : Int32)) hx hb d_Ref_paged_228 (by decide) ?_
                refine lv_iadd hx hb d_Ref_paged_229 ?_
                refine va_put (D := D) (ci := 11) (v := .int ((f_Ref_search (((((rs (ix ((32 : Int32) + (ush p0 (28 : Int32))))) &&& (16777215 : Int32)) &&& (524287 : Int32)) ^^^ ((ush p0 (12 : Int32)) &&& (65535 : Int32))) ^^^ (-1 : Int32)) ((((-2147483648 : Int32) + ((128 : Int32) * ((rs (ix ((32 : Int32) + (ush p0 (28 : Int32))))) &&& (16777215 : Int32)))) + (ush ((ush p0 (12 : Int32)) &&& (65535 : Int32)) (10 : Int32))) + (64 : Int32)) rs rm) + (1 : Int32))) (ty := .int) (C := "MappedProcessorModel") (T := T_Ref) (N := 14) hx hb hB iw_Ref ty_Ref ty_Ref_ok nm_Ref hown hK hP hD hS 0 rfl rfl 6 (by decide) (hB _ mw_649) (fun _ h9 => h9) rfl (by decide +kernel) rfl rfl (Nat.le_of_ble_eq_true rfl) d_Ref_paged_230 (fun H locs hP hD hS => ?_)
                have hP : va_P D kCl [(aT, .inr (11, [.ref bG, .ref bS, .ref bM, .int rl, .int rk, .int rr, .int ((f_Ref_search (((((rs (ix ((32 : Int32) + (ush p0 (28 : Int32))))) &&& (16777215 : Int32)) &&& (524287 : Int32)) ^^^ ((ush p0 (12 : Int32)) &&& (65535 : Int32))) ^^^ (-1 : Int32)) ((((-2147483648 : Int32) + ((128 : Int32) * ((rs (ix ((32 : Int32) + (ush p0 (28 : Int32))))) &&& (16777215 : Int32)))) + (ush ((ush p0 (12 : Int32)) &&& (65535 : Int32)) (10 : Int32))) + (64 : Int32)) rs rm) + (1 : Int32)), .int rc, .int rd, .int ra, .int rb, .int rn, .int rf, .int rw])), (bG, .inl (dG, 32, .inl rg)), (bS, .inl (dS, 48, .inl rs)), (bM, .inl (dM, 16384, .inl rm))] H := hP
                have hD : va_D A [(aT, .inr (11, [.ref bG, .ref bS, .ref bM, .int rl, .int rk, .int rr, .int ((f_Ref_search (((((rs (ix ((32 : Int32) + (ush p0 (28 : Int32))))) &&& (16777215 : Int32)) &&& (524287 : Int32)) ^^^ ((ush p0 (12 : Int32)) &&& (65535 : Int32))) ^^^ (-1 : Int32)) ((((-2147483648 : Int32) + ((128 : Int32) * ((rs (ix ((32 : Int32) + (ush p0 (28 : Int32))))) &&& (16777215 : Int32)))) + (ush ((ush p0 (12 : Int32)) &&& (65535 : Int32)) (10 : Int32))) + (64 : Int32)) rs rm) + (1 : Int32)), .int rc, .int rd, .int ra, .int rb, .int rn, .int rf, .int rw])), (bG, .inl (dG, 32, .inl rg)), (bS, .inl (dS, 48, .inl rs)), (bM, .inl (dM, 16384, .inl rm))] := hD
                refine lv_iload hx hb d_Ref_paged_233 (lv_at hl 2 rfl) ?_
                refine lv_sipush (v := (-4096 : Int32)) hx hb d_Ref_paged_235 (by decide) ?_
                refine lv_iand hx hb d_Ref_paged_238 ?_
                refine lv_iload_n hx hb d_Ref_paged_239 rfl (lv_at hl 10 rfl) ?_
                refine lv_sipush (v := (4095 : Int32)) hx hb d_Ref_paged_240 (by decide) ?_
                refine lv_iand hx hb d_Ref_paged_243 ?_
                refine lv_ior hx hb d_Ref_paged_244 ?_
                have ef : f_Ref_paged p0 p1 p2 rs rm rr re = ((((rm (ix ((f_Ref_search (((((rs (ix ((32 : Int32) + (ush p0 (28 : Int32))))) &&& (16777215 : Int32)) &&& (524287 : Int32)) ^^^ ((ush p0 (12 : Int32)) &&& (65535 : Int32))) ^^^ (-1 : Int32)) ((((-2147483648 : Int32) + ((128 : Int32) * ((rs (ix ((32 : Int32) + (ush p0 (28 : Int32))))) &&& (16777215 : Int32)))) + (ush ((ush p0 (12 : Int32)) &&& (65535 : Int32)) (10 : Int32))) + (64 : Int32)) rs rm) + (1 : Int32)))) &&& (-4096 : Int32)) ||| (p0 &&& (4095 : Int32))), rr, ((f_Ref_search (((((rs (ix ((32 : Int32) + (ush p0 (28 : Int32))))) &&& (16777215 : Int32)) &&& (524287 : Int32)) ^^^ ((ush p0 (12 : Int32)) &&& (65535 : Int32))) ^^^ (-1 : Int32)) ((((-2147483648 : Int32) + ((128 : Int32) * ((rs (ix ((32 : Int32) + (ush p0 (28 : Int32))))) &&& (16777215 : Int32)))) + (ush ((ush p0 (12 : Int32)) &&& (65535 : Int32)) (10 : Int32))) + (64 : Int32)) rs rm) + (1 : Int32))) := by unfold f_Ref_paged; rw [if_pos h1, if_pos h3, if_pos h38, if_neg h42, if_pos h58, if_pos h64, if_neg h65]
                exact k_iret hx hb hr hlocks hK hP hD hS [0, 1, 2, 3] rfl (by rw [ef] <;> rfl) (by rw [ef] <;> rfl) d_Ref_paged_245
              · refine lv_iload hx hb d_Ref_paged_200 (lv_at hl 1 rfl) ?_
                refine lv_iconst (v := (3 : Int32)) hx hb d_Ref_paged_202 (by decide) ?_
                refine lv_icmp_eq (tgt := 217) hx hb d_Ref_paged_203 (by decide) (fun (h66 : ((rm (ix ((f_Ref_search (((((rs (ix ((32 : Int32) + (ush p0 (28 : Int32))))) &&& (16777215 : Int32)) &&& (524287 : Int32)) ^^^ ((ush p0 (12 : Int32)) &&& (65535 : Int32))) ^^^ (-1 : Int32)) ((((-2147483648 : Int32) + ((128 : Int32) * ((rs (ix ((32 : Int32) + (ush p0 (28 : Int32))))) &&& (16777215 : Int32)))) + (ush ((ush p0 (12 : Int32)) &&& (65535 : Int32)) (10 : Int32))) + (64 : Int32)) rs rm) + (1 : Int32)))) &&& (3 : Int32)) = (3 : Int32)) => ?_) (fun (h66 : ¬ ((rm (ix ((f_Ref_search (((((rs (ix ((32 : Int32) + (ush p0 (28 : Int32))))) &&& (16777215 : Int32)) &&& (524287 : Int32)) ^^^ ((ush p0 (12 : Int32)) &&& (65535 : Int32))) ^^^ (-1 : Int32)) ((((-2147483648 : Int32) + ((128 : Int32) * ((rs (ix ((32 : Int32) + (ush p0 (28 : Int32))))) &&& (16777215 : Int32)))) + (ush ((ush p0 (12 : Int32)) &&& (65535 : Int32)) (10 : Int32))) + (64 : Int32)) rs rm) + (1 : Int32)))) &&& (3 : Int32)) = (3 : Int32)) => ?_)
                · refine lv_aload_n hx hb d_Ref_paged_217 rfl (lv_at hl 9 rfl) ?_
                  refine lv_bipush (v := (-2 : Int32)) hx hb d_Ref_paged_218 (by decide) ?_
                  refine va_put (D := D) (ci := 11) (v := .int (-2 : Int32)) (ty := .int) (C := "MappedProcessorModel") (T := T_Ref) (N := 14) hx hb hB iw_Ref ty_Ref ty_Ref_ok nm_Ref hown hK hP hD hS 0 rfl rfl 5 (by decide) (hB _ mw_648) (fun _ h9 => h9) rfl (by decide +kernel) rfl rfl (Nat.le_of_ble_eq_true rfl) d_Ref_paged_220 (fun H locs hP hD hS => ?_)
                  have hP : va_P D kCl [(aT, .inr (11, [.ref bG, .ref bS, .ref bM, .int rl, .int rk, .int (-2 : Int32), .int re, .int rc, .int rd, .int ra, .int rb, .int rn, .int rf, .int rw])), (bG, .inl (dG, 32, .inl rg)), (bS, .inl (dS, 48, .inl rs)), (bM, .inl (dM, 16384, .inl rm))] H := hP
                  have hD : va_D A [(aT, .inr (11, [.ref bG, .ref bS, .ref bM, .int rl, .int rk, .int (-2 : Int32), .int re, .int rc, .int rd, .int ra, .int rb, .int rn, .int rf, .int rw])), (bG, .inl (dG, 32, .inl rg)), (bS, .inl (dS, 48, .inl rs)), (bM, .inl (dM, 16384, .inl rm))] := hD
                  refine lv_iconst (v := (0 : Int32)) hx hb d_Ref_paged_223 (by decide) ?_
                  have ef : f_Ref_paged p0 p1 p2 rs rm rr re = ((0 : Int32), (-2 : Int32), re) := by unfold f_Ref_paged; rw [if_pos h1, if_pos h3, if_pos h38, if_neg h42, if_pos h58, if_pos h64, if_pos h65, if_pos h66]
                  exact k_iret hx hb hr hlocks hK hP hD hS [0, 1, 2, 3] rfl (by rw [ef] <;> rfl) (by rw [ef] <;> rfl) d_Ref_paged_224
                · refine lv_iload hx hb d_Ref_paged_206 (lv_at hl 0 rfl) ?_
                  refine lv_if_eq (tgt := 225) hx hb d_Ref_paged_208 (by decide) (fun (h67 : (f_Ref_bit (rs (ix ((32 : Int32) + (ush p0 (28 : Int32))))) (if p2 = (0 : Int32) then (30 : Int32) else (29 : Int32))) = (0 : Int32)) => ?_) (fun (h67 : ¬ (f_Ref_bit (rs (ix ((32 : Int32) + (ush p0 (28 : Int32))))) (if p2 = (0 : Int32) then (30 : Int32) else (29 : Int32))) = (0 : Int32)) => ?_)
                  rotate_left
                  · exact absurd h64 h67
                  refine lv_aload_n hx hb d_Ref_paged_225 rfl (lv_at hl 9 rfl) ?_
                  refine lv_iload hx hb d_Ref_paged_226 (lv_at hl 3 rfl) ?_
                  refine lv_iconst (v := (1 : Int32)) hx hb d_Ref_paged_228 (by decide) ?_
                  refine lv_iadd hx hb d_Ref_paged_229 ?_
                  refine va_put (D := D) (ci := 11) (v := .int ((f_Ref_search (((((rs (ix ((32 : Int32) + (ush p0 (28 : Int32))))) &&& (16777215 : Int32)) &&& (524287 : Int32)) ^^^ ((ush p0 (12 : Int32)) &&& (65535 : Int32))) ^^^ (-1 : Int32)) ((((-2147483648 : Int32) + ((128 : Int32) * ((rs (ix ((32 : Int32) + (ush p0 (28 : Int32))))) &&& (16777215 : Int32)))) + (ush ((ush p0 (12 : Int32)) &&& (65535 : Int32)) (10 : Int32))) + (64 : Int32)) rs rm) + (1 : Int32))) (ty := .int) (C := "MappedProcessorModel") (T := T_Ref) (N := 14) hx hb hB iw_Ref ty_Ref ty_Ref_ok nm_Ref hown hK hP hD hS 0 rfl rfl 6 (by decide) (hB _ mw_649) (fun _ h9 => h9) rfl (by decide +kernel) rfl rfl (Nat.le_of_ble_eq_true rfl) d_Ref_paged_230 (fun H locs hP hD hS => ?_)
                  have hP : va_P D kCl [(aT, .inr (11, [.ref bG, .ref bS, .ref bM, .int rl, .int rk, .int rr, .int ((f_Ref_search (((((rs (ix ((32 : Int32) + (ush p0 (28 : Int32))))) &&& (16777215 : Int32)) &&& (524287 : Int32)) ^^^ ((ush p0 (12 : Int32)) &&& (65535 : Int32))) ^^^ (-1 : Int32)) ((((-2147483648 : Int32) + ((128 : Int32) * ((rs (ix ((32 : Int32) + (ush p0 (28 : Int32))))) &&& (16777215 : Int32)))) + (ush ((ush p0 (12 : Int32)) &&& (65535 : Int32)) (10 : Int32))) + (64 : Int32)) rs rm) + (1 : Int32)), .int rc, .int rd, .int ra, .int rb, .int rn, .int rf, .int rw])), (bG, .inl (dG, 32, .inl rg)), (bS, .inl (dS, 48, .inl rs)), (bM, .inl (dM, 16384, .inl rm))] H := hP
                  have hD : va_D A [(aT, .inr (11, [.ref bG, .ref bS, .ref bM, .int rl, .int rk, .int rr, .int ((f_Ref_search (((((rs (ix ((32 : Int32) + (ush p0 (28 : Int32))))) &&& (16777215 : Int32)) &&& (524287 : Int32)) ^^^ ((ush p0 (12 : Int32)) &&& (65535 : Int32))) ^^^ (-1 : Int32)) ((((-2147483648 : Int32) + ((128 : Int32) * ((rs (ix ((32 : Int32) + (ush p0 (28 : Int32))))) &&& (16777215 : Int32)))) + (ush ((ush p0 (12 : Int32)) &&& (65535 : Int32)) (10 : Int32))) + (64 : Int32)) rs rm) + (1 : Int32)), .int rc, .int rd, .int ra, .int rb, .int rn, .int rf, .int rw])), (bG, .inl (dG, 32, .inl rg)), (bS, .inl (dS, 48, .inl rs)), (bM, .inl (dM, 16384, .inl rm))] := hD
                  refine lv_iload hx hb d_Ref_paged_233 (lv_at hl 2 rfl) ?_
                  refine lv_sipush (v := (-4096 : Int32)) hx hb d_Ref_paged_235 (by decide) ?_
                  refine lv_iand hx hb d_Ref_paged_238 ?_
                  refine lv_iload_n hx hb d_Ref_paged_239 rfl (lv_at hl 10 rfl) ?_
                  refine lv_sipush (v := (4095 : Int32)) hx hb d_Ref_paged_240 (by decide) ?_
                  refine lv_iand hx hb d_Ref_paged_243 ?_
                  refine lv_ior hx hb d_Ref_paged_244 ?_
                  have ef : f_Ref_paged p0 p1 p2 rs rm rr re = ((((rm (ix ((f_Ref_search (((((rs (ix ((32 : Int32) + (ush p0 (28 : Int32))))) &&& (16777215 : Int32)) &&& (524287 : Int32)) ^^^ ((ush p0 (12 : Int32)) &&& (65535 : Int32))) ^^^ (-1 : Int32)) ((((-2147483648 : Int32) + ((128 : Int32) * ((rs (ix ((32 : Int32) + (ush p0 (28 : Int32))))) &&& (16777215 : Int32)))) + (ush ((ush p0 (12 : Int32)) &&& (65535 : Int32)) (10 : Int32))) + (64 : Int32)) rs rm) + (1 : Int32)))) &&& (-4096 : Int32)) ||| (p0 &&& (4095 : Int32))), rr, ((f_Ref_search (((((rs (ix ((32 : Int32) + (ush p0 (28 : Int32))))) &&& (16777215 : Int32)) &&& (524287 : Int32)) ^^^ ((ush p0 (12 : Int32)) &&& (65535 : Int32))) ^^^ (-1 : Int32)) ((((-2147483648 : Int32) + ((128 : Int32) * ((rs (ix ((32 : Int32) + (ush p0 (28 : Int32))))) &&& (16777215 : Int32)))) + (ush ((ush p0 (12 : Int32)) &&& (65535 : Int32)) (10 : Int32))) + (64 : Int32)) rs rm) + (1 : Int32))) := by unfold f_Ref_paged; rw [if_pos h1, if_pos h3, if_pos h38, if_neg h42, if_pos h58, if_pos h64, if_pos h65, if_neg h66]
                  exact k_iret hx hb hr hlocks hK hP hD hS [0, 1, 2, 3] rfl (by rw [ef] <;> rfl) (by rw [ef] <;> rfl) d_Ref_paged_245
            · refine lv_iload hx hb d_Ref_paged_190 (lv_at hl 1 rfl) ?_
              refine lv_if_eq (tgt := 217) hx hb d_Ref_paged_192 (by decide) (fun (h68 : ((rm (ix ((f_Ref_search (((((rs (ix ((32 : Int32) + (ush p0 (28 : Int32))))) &&& (16777215 : Int32)) &&& (524287 : Int32)) ^^^ ((ush p0 (12 : Int32)) &&& (65535 : Int32))) ^^^ (-1 : Int32)) ((((-2147483648 : Int32) + ((128 : Int32) * ((rs (ix ((32 : Int32) + (ush p0 (28 : Int32))))) &&& (16777215 : Int32)))) + (ush ((ush p0 (12 : Int32)) &&& (65535 : Int32)) (10 : Int32))) + (64 : Int32)) rs rm) + (1 : Int32)))) &&& (3 : Int32)) = (0 : Int32)) => ?_) (fun (h68 : ¬ ((rm (ix ((f_Ref_search (((((rs (ix ((32 : Int32) + (ush p0 (28 : Int32))))) &&& (16777215 : Int32)) &&& (524287 : Int32)) ^^^ ((ush p0 (12 : Int32)) &&& (65535 : Int32))) ^^^ (-1 : Int32)) ((((-2147483648 : Int32) + ((128 : Int32) * ((rs (ix ((32 : Int32) + (ush p0 (28 : Int32))))) &&& (16777215 : Int32)))) + (ush ((ush p0 (12 : Int32)) &&& (65535 : Int32)) (10 : Int32))) + (64 : Int32)) rs rm) + (1 : Int32)))) &&& (3 : Int32)) = (0 : Int32)) => ?_)
              · refine lv_aload_n hx hb d_Ref_paged_217 rfl (lv_at hl 9 rfl) ?_
                refine lv_bipush (v := (-2 : Int32)) hx hb d_Ref_paged_218 (by decide) ?_
                refine va_put (D := D) (ci := 11) (v := .int (-2 : Int32)) (ty := .int) (C := "MappedProcessorModel") (T := T_Ref) (N := 14) hx hb hB iw_Ref ty_Ref ty_Ref_ok nm_Ref hown hK hP hD hS 0 rfl rfl 5 (by decide) (hB _ mw_648) (fun _ h9 => h9) rfl (by decide +kernel) rfl rfl (Nat.le_of_ble_eq_true rfl) d_Ref_paged_220 (fun H locs hP hD hS => ?_)
                have hP : va_P D kCl [(aT, .inr (11, [.ref bG, .ref bS, .ref bM, .int rl, .int rk, .int (-2 : Int32), .int re, .int rc, .int rd, .int ra, .int rb, .int rn, .int rf, .int rw])), (bG, .inl (dG, 32, .inl rg)), (bS, .inl (dS, 48, .inl rs)), (bM, .inl (dM, 16384, .inl rm))] H := hP
                have hD : va_D A [(aT, .inr (11, [.ref bG, .ref bS, .ref bM, .int rl, .int rk, .int (-2 : Int32), .int re, .int rc, .int rd, .int ra, .int rb, .int rn, .int rf, .int rw])), (bG, .inl (dG, 32, .inl rg)), (bS, .inl (dS, 48, .inl rs)), (bM, .inl (dM, 16384, .inl rm))] := hD
                refine lv_iconst (v := (0 : Int32)) hx hb d_Ref_paged_223 (by decide) ?_
                have ef : f_Ref_paged p0 p1 p2 rs rm rr re = ((0 : Int32), (-2 : Int32), re) := by unfold f_Ref_paged; rw [if_pos h1, if_pos h3, if_pos h38, if_neg h42, if_pos h58, if_neg h64, if_pos h68]
                exact k_iret hx hb hr hlocks hK hP hD hS [0, 1, 2, 3] rfl (by rw [ef] <;> rfl) (by rw [ef] <;> rfl) d_Ref_paged_224
              · refine lv_iload_n hx hb d_Ref_paged_195 rfl (lv_at hl 11 rfl) ?_
                refine lv_iconst (v := (2 : Int32)) hx hb d_Ref_paged_196 (by decide) ?_
                refine lv_icmp_ne (tgt := 225) hx hb d_Ref_paged_197 (by decide) (fun (h69 : ¬ p1 = (2 : Int32)) => ?_) (fun (h69 : p1 = (2 : Int32)) => ?_)
                · refine lv_aload_n hx hb d_Ref_paged_225 rfl (lv_at hl 9 rfl) ?_
                  refine lv_iload hx hb d_Ref_paged_226 (lv_at hl 3 rfl) ?_
                  refine lv_iconst (v := (1 : Int32)) hx hb d_Ref_paged_228 (by decide) ?_
                  refine lv_iadd hx hb d_Ref_paged_229 ?_
                  refine va_put (D := D) (ci := 11) (v := .int ((f_Ref_search (((((rs (ix ((32 : Int32) + (ush p0 (28 : Int32))))) &&& (16777215 : Int32)) &&& (524287 : Int32)) ^^^ ((ush p0 (12 : Int32)) &&& (65535 : Int32))) ^^^ (-1 : Int32)) ((((-2147483648 : Int32) + ((128 : Int32) * ((rs (ix ((32 : Int32) + (ush p0 (28 : Int32))))) &&& (16777215 : Int32)))) + (ush ((ush p0 (12 : Int32)) &&& (65535 : Int32)) (10 : Int32))) + (64 : Int32)) rs rm) + (1 : Int32))) (ty := .int) (C := "MappedProcessorModel") (T := T_Ref) (N := 14) hx hb hB iw_Ref ty_Ref ty_Ref_ok nm_Ref hown hK hP hD hS 0 rfl rfl 6 (by decide) (hB _ mw_649) (fun _ h9 => h9) rfl (by decide +kernel) rfl rfl (Nat.le_of_ble_eq_true rfl) d_Ref_paged_230 (fun H locs hP hD hS => ?_)
                  have hP : va_P D kCl [(aT, .inr (11, [.ref bG, .ref bS, .ref bM, .int rl, .int rk, .int rr, .int ((f_Ref_search (((((rs (ix ((32 : Int32) + (ush p0 (28 : Int32))))) &&& (16777215 : Int32)) &&& (524287 : Int32)) ^^^ ((ush p0 (12 : Int32)) &&& (65535 : Int32))) ^^^ (-1 : Int32)) ((((-2147483648 : Int32) + ((128 : Int32) * ((rs (ix ((32 : Int32) + (ush p0 (28 : Int32))))) &&& (16777215 : Int32)))) + (ush ((ush p0 (12 : Int32)) &&& (65535 : Int32)) (10 : Int32))) + (64 : Int32)) rs rm) + (1 : Int32)), .int rc, .int rd, .int ra, .int rb, .int rn, .int rf, .int rw])), (bG, .inl (dG, 32, .inl rg)), (bS, .inl (dS, 48, .inl rs)), (bM, .inl (dM, 16384, .inl rm))] H := hP
                  have hD : va_D A [(aT, .inr (11, [.ref bG, .ref bS, .ref bM, .int rl, .int rk, .int rr, .int ((f_Ref_search (((((rs (ix ((32 : Int32) + (ush p0 (28 : Int32))))) &&& (16777215 : Int32)) &&& (524287 : Int32)) ^^^ ((ush p0 (12 : Int32)) &&& (65535 : Int32))) ^^^ (-1 : Int32)) ((((-2147483648 : Int32) + ((128 : Int32) * ((rs (ix ((32 : Int32) + (ush p0 (28 : Int32))))) &&& (16777215 : Int32)))) + (ush ((ush p0 (12 : Int32)) &&& (65535 : Int32)) (10 : Int32))) + (64 : Int32)) rs rm) + (1 : Int32)), .int rc, .int rd, .int ra, .int rb, .int rn, .int rf, .int rw])), (bG, .inl (dG, 32, .inl rg)), (bS, .inl (dS, 48, .inl rs)), (bM, .inl (dM, 16384, .inl rm))] := hD
                  refine lv_iload hx hb d_Ref_paged_233 (lv_at hl 2 rfl) ?_
                  refine lv_sipush (v := (-4096 : Int32)) hx hb d_Ref_paged_235 (by decide) ?_
                  refine lv_iand hx hb d_Ref_paged_238 ?_
                  refine lv_iload_n hx hb d_Ref_paged_239 rfl (lv_at hl 10 rfl) ?_
                  refine lv_sipush (v := (4095 : Int32)) hx hb d_Ref_paged_240 (by decide) ?_
                  refine lv_iand hx hb d_Ref_paged_243 ?_
                  refine lv_ior hx hb d_Ref_paged_244 ?_
                  have ef : f_Ref_paged p0 p1 p2 rs rm rr re = ((((rm (ix ((f_Ref_search (((((rs (ix ((32 : Int32) + (ush p0 (28 : Int32))))) &&& (16777215 : Int32)) &&& (524287 : Int32)) ^^^ ((ush p0 (12 : Int32)) &&& (65535 : Int32))) ^^^ (-1 : Int32)) ((((-2147483648 : Int32) + ((128 : Int32) * ((rs (ix ((32 : Int32) + (ush p0 (28 : Int32))))) &&& (16777215 : Int32)))) + (ush ((ush p0 (12 : Int32)) &&& (65535 : Int32)) (10 : Int32))) + (64 : Int32)) rs rm) + (1 : Int32)))) &&& (-4096 : Int32)) ||| (p0 &&& (4095 : Int32))), rr, ((f_Ref_search (((((rs (ix ((32 : Int32) + (ush p0 (28 : Int32))))) &&& (16777215 : Int32)) &&& (524287 : Int32)) ^^^ ((ush p0 (12 : Int32)) &&& (65535 : Int32))) ^^^ (-1 : Int32)) ((((-2147483648 : Int32) + ((128 : Int32) * ((rs (ix ((32 : Int32) + (ush p0 (28 : Int32))))) &&& (16777215 : Int32)))) + (ush ((ush p0 (12 : Int32)) &&& (65535 : Int32)) (10 : Int32))) + (64 : Int32)) rs rm) + (1 : Int32))) := by unfold f_Ref_paged; rw [if_pos h1, if_pos h3, if_pos h38, if_neg h42, if_pos h58, if_neg h64, if_neg h68, if_neg h69]
                  exact k_iret hx hb hr hlocks hK hP hD hS [0, 1, 2, 3] rfl (by rw [ef] <;> rfl) (by rw [ef] <;> rfl) d_Ref_paged_245
                · refine lv_iload hx hb d_Ref_paged_200 (lv_at hl 1 rfl) ?_
                  refine lv_iconst (v := (3 : Int32)) hx hb d_Ref_paged_202 (by decide) ?_
                  refine lv_icmp_eq (tgt := 217) hx hb d_Ref_paged_203 (by decide) (fun (h70 : ((rm (ix ((f_Ref_search (((((rs (ix ((32 : Int32) + (ush p0 (28 : Int32))))) &&& (16777215 : Int32)) &&& (524287 : Int32)) ^^^ ((ush p0 (12 : Int32)) &&& (65535 : Int32))) ^^^ (-1 : Int32)) ((((-2147483648 : Int32) + ((128 : Int32) * ((rs (ix ((32 : Int32) + (ush p0 (28 : Int32))))) &&& (16777215 : Int32)))) + (ush ((ush p0 (12 : Int32)) &&& (65535 : Int32)) (10 : Int32))) + (64 : Int32)) rs rm) + (1 : Int32)))) &&& (3 : Int32)) = (3 : Int32)) => ?_) (fun (h70 : ¬ ((rm (ix ((f_Ref_search (((((rs (ix ((32 : Int32) + (ush p0 (28 : Int32))))) &&& (16777215 : Int32)) &&& (524287 : Int32)) ^^^ ((ush p0 (12 : Int32)) &&& (65535 : Int32))) ^^^ (-1 : Int32)) ((((-2147483648 : Int32) + ((128 : Int32) * ((rs (ix ((32 : Int32) + (ush p0 (28 : Int32))))) &&& (16777215 : Int32)))) + (ush ((ush p0 (12 : Int32)) &&& (65535 : Int32)) (10 : Int32))) + (64 : Int32)) rs rm) + (1 : Int32)))) &&& (3 : Int32)) = (3 : Int32)) => ?_)
                  · refine lv_aload_n hx hb d_Ref_paged_217 rfl (lv_at hl 9 rfl) ?_
                    refine lv_bipush (v := (-2 : Int32)) hx hb d_Ref_paged_218 (by decide) ?_
                    refine va_put (D := D) (ci := 11) (v := .int (-2 : Int32)) (ty := .int) (C := "MappedProcessorModel") (T := T_Ref) (N := 14) hx hb hB iw_Ref ty_Ref ty_Ref_ok nm_Ref hown hK hP hD hS 0 rfl rfl 5 (by decide) (hB _ mw_648) (fun _ h9 => h9) rfl (by decide +kernel) rfl rfl (Nat.le_of_ble_eq_true rfl) d_Ref_paged_220 (fun H locs hP hD hS => ?_)
                    have hP : va_P D kCl [(aT, .inr (11, [.ref bG, .ref bS, .ref bM, .int rl, .int rk, .int (-2 : Int32), .int re, .int rc, .int rd, .int ra, .int rb, .int rn, .int rf, .int rw])), (bG, .inl (dG, 32, .inl rg)), (bS, .inl (dS, 48, .inl rs)), (bM, .inl (dM, 16384, .inl rm))] H := hP
                    have hD : va_D A [(aT, .inr (11, [.ref bG, .ref bS, .ref bM, .int rl, .int rk, .int (-2 : Int32), .int re, .int rc, .int rd, .int ra, .int rb, .int rn, .int rf, .int rw])), (bG, .inl (dG, 32, .inl rg)), (bS, .inl (dS, 48, .inl rs)), (bM, .inl (dM, 16384, .inl rm))] := hD
                    refine lv_iconst (v := (0 : Int32)) hx hb d_Ref_paged_223 (by decide) ?_
                    have ef : f_Ref_paged p0 p1 p2 rs rm rr re = ((0 : Int32), (-2 : Int32), re) := by unfold f_Ref_paged; rw [if_pos h1, if_pos h3, if_pos h38, if_neg h42, if_pos h58, if_neg h64, if_neg h68, if_pos h69, if_pos h70]
                    exact k_iret hx hb hr hlocks hK hP hD hS [0, 1, 2, 3] rfl (by rw [ef] <;> rfl) (by rw [ef] <;> rfl) d_Ref_paged_224
                  · refine lv_iload hx hb d_Ref_paged_206 (lv_at hl 0 rfl) ?_
                    refine lv_if_eq (tgt := 225) hx hb d_Ref_paged_208 (by decide) (fun (h71 : (f_Ref_bit (rs (ix ((32 : Int32) + (ush p0 (28 : Int32))))) (if p2 = (0 : Int32) then (30 : Int32) else (29 : Int32))) = (0 : Int32)) => ?_) (fun (h71 : ¬ (f_Ref_bit (rs (ix ((32 : Int32) + (ush p0 (28 : Int32))))) (if p2 = (0 : Int32) then (30 : Int32) else (29 : Int32))) = (0 : Int32)) => ?_)
                    · exact absurd h71 h64
                    refine lv_iload hx hb d_Ref_paged_211 (lv_at hl 1 rfl) ?_
                    refine lv_iconst (v := (1 : Int32)) hx hb d_Ref_paged_213 (by decide) ?_
                    refine lv_icmp_ne (tgt := 225) hx hb d_Ref_paged_214 (by decide) (fun (h72 : ¬ ((rm (ix ((f_Ref_search (((((rs (ix ((32 : Int32) + (ush p0 (28 : Int32))))) &&& (16777215 : Int32)) &&& (524287 : Int32)) ^^^ ((ush p0 (12 : Int32)) &&& (65535 : Int32))) ^^^ (-1 : Int32)) ((((-2147483648 : Int32) + ((128 : Int32) * ((rs (ix ((32 : Int32) + (ush p0 (28 : Int32))))) &&& (16777215 : Int32)))) + (ush ((ush p0 (12 : Int32)) &&& (65535 : Int32)) (10 : Int32))) + (64 : Int32)) rs rm) + (1 : Int32)))) &&& (3 : Int32)) = (1 : Int32)) => ?_) (fun (h72 : ((rm (ix ((f_Ref_search (((((rs (ix ((32 : Int32) + (ush p0 (28 : Int32))))) &&& (16777215 : Int32)) &&& (524287 : Int32)) ^^^ ((ush p0 (12 : Int32)) &&& (65535 : Int32))) ^^^ (-1 : Int32)) ((((-2147483648 : Int32) + ((128 : Int32) * ((rs (ix ((32 : Int32) + (ush p0 (28 : Int32))))) &&& (16777215 : Int32)))) + (ush ((ush p0 (12 : Int32)) &&& (65535 : Int32)) (10 : Int32))) + (64 : Int32)) rs rm) + (1 : Int32)))) &&& (3 : Int32)) = (1 : Int32)) => ?_)
                    · refine lv_aload_n hx hb d_Ref_paged_225 rfl (lv_at hl 9 rfl) ?_
                      refine lv_iload hx hb d_Ref_paged_226 (lv_at hl 3 rfl) ?_
                      refine lv_iconst (v := (1 : Int32)) hx hb d_Ref_paged_228 (by decide) ?_
                      refine lv_iadd hx hb d_Ref_paged_229 ?_
                      refine va_put (D := D) (ci := 11) (v := .int ((f_Ref_search (((((rs (ix ((32 : Int32) + (ush p0 (28 : Int32))))) &&& (16777215 : Int32)) &&& (524287 : Int32)) ^^^ ((ush p0 (12 : Int32)) &&& (65535 : Int32))) ^^^ (-1 : Int32)) ((((-2147483648 : Int32) + ((128 : Int32) * ((rs (ix ((32 : Int32) + (ush p0 (28 : Int32))))) &&& (16777215 : Int32)))) + (ush ((ush p0 (12 : Int32)) &&& (65535 : Int32)) (10 : Int32))) + (64 : Int32)) rs rm) + (1 : Int32))) (ty := .int) (C := "MappedProcessorModel") (T := T_Ref) (N := 14) hx hb hB iw_Ref ty_Ref ty_Ref_ok nm_Ref hown hK hP hD hS 0 rfl rfl 6 (by decide) (hB _ mw_649) (fun _ h9 => h9) rfl (by decide +kernel) rfl rfl (Nat.le_of_ble_eq_true rfl) d_Ref_paged_230 (fun H locs hP hD hS => ?_)
                      have hP : va_P D kCl [(aT, .inr (11, [.ref bG, .ref bS, .ref bM, .int rl, .int rk, .int rr, .int ((f_Ref_search (((((rs (ix ((32 : Int32) + (ush p0 (28 : Int32))))) &&& (16777215 : Int32)) &&& (524287 : Int32)) ^^^ ((ush p0 (12 : Int32)) &&& (65535 : Int32))) ^^^ (-1 : Int32)) ((((-2147483648 : Int32) + ((128 : Int32) * ((rs (ix ((32 : Int32) + (ush p0 (28 : Int32))))) &&& (16777215 : Int32)))) + (ush ((ush p0 (12 : Int32)) &&& (65535 : Int32)) (10 : Int32))) + (64 : Int32)) rs rm) + (1 : Int32)), .int rc, .int rd, .int ra, .int rb, .int rn, .int rf, .int rw])), (bG, .inl (dG, 32, .inl rg)), (bS, .inl (dS, 48, .inl rs)), (bM, .inl (dM, 16384, .inl rm))] H := hP
                      have hD : va_D A [(aT, .inr (11, [.ref bG, .ref bS, .ref bM, .int rl, .int rk, .int rr, .int ((f_Ref_search (((((rs (ix ((32 : Int32) + (ush p0 (28 : Int32))))) &&& (16777215 : Int32)) &&& (524287 : Int32)) ^^^ ((ush p0 (12 : Int32)) &&& (65535 : Int32))) ^^^ (-1 : Int32)) ((((-2147483648 : Int32) + ((128 : Int32) * ((rs (ix ((32 : Int32) + (ush p0 (28 : Int32))))) &&& (16777215 : Int32)))) + (ush ((ush p0 (12 : Int32)) &&& (65535 : Int32)) (10 : Int32))) + (64 : Int32)) rs rm) + (1 : Int32)), .int rc, .int rd, .int ra, .int rb, .int rn, .int rf, .int rw])), (bG, .inl (dG, 32, .inl rg)), (bS, .inl (dS, 48, .inl rs)), (bM, .inl (dM, 16384, .inl rm))] := hD
                      refine lv_iload hx hb d_Ref_paged_233 (lv_at hl 2 rfl) ?_
                      refine lv_sipush (v := (-4096 : Int32)) hx hb d_Ref_paged_235 (by decide) ?_
                      refine lv_iand hx hb d_Ref_paged_238 ?_
                      refine lv_iload_n hx hb d_Ref_paged_239 rfl (lv_at hl 10 rfl) ?_
                      refine lv_sipush (v := (4095 : Int32)) hx hb d_Ref_paged_240 (by decide) ?_
                      refine lv_iand hx hb d_Ref_paged_243 ?_
                      refine lv_ior hx hb d_Ref_paged_244 ?_
                      have ef : f_Ref_paged p0 p1 p2 rs rm rr re = ((((rm (ix ((f_Ref_search (((((rs (ix ((32 : Int32) + (ush p0 (28 : Int32))))) &&& (16777215 : Int32)) &&& (524287 : Int32)) ^^^ ((ush p0 (12 : Int32)) &&& (65535 : Int32))) ^^^ (-1 : Int32)) ((((-2147483648 : Int32) + ((128 : Int32) * ((rs (ix ((32 : Int32) + (ush p0 (28 : Int32))))) &&& (16777215 : Int32)))) + (ush ((ush p0 (12 : Int32)) &&& (65535 : Int32)) (10 : Int32))) + (64 : Int32)) rs rm) + (1 : Int32)))) &&& (-4096 : Int32)) ||| (p0 &&& (4095 : Int32))), rr, ((f_Ref_search (((((rs (ix ((32 : Int32) + (ush p0 (28 : Int32))))) &&& (16777215 : Int32)) &&& (524287 : Int32)) ^^^ ((ush p0 (12 : Int32)) &&& (65535 : Int32))) ^^^ (-1 : Int32)) ((((-2147483648 : Int32) + ((128 : Int32) * ((rs (ix ((32 : Int32) + (ush p0 (28 : Int32))))) &&& (16777215 : Int32)))) + (ush ((ush p0 (12 : Int32)) &&& (65535 : Int32)) (10 : Int32))) + (64 : Int32)) rs rm) + (1 : Int32))) := by unfold f_Ref_paged; rw [if_pos h1, if_pos h3, if_pos h38, if_neg h42, if_pos h58, if_neg h64, if_neg h68, if_pos h69, if_neg h70, if_neg h72]
                      exact k_iret hx hb hr hlocks hK hP hD hS [0, 1, 2, 3] rfl (by rw [ef] <;> rfl) (by rw [ef] <;> rfl) d_Ref_paged_245
                    · refine lv_aload_n hx hb d_Ref_paged_217 rfl (lv_at hl 9 rfl) ?_
                      refine lv_bipush (v := (-2 : Int32)) hx hb d_Ref_paged_218 (by decide) ?_
                      refine va_put (D := D) (ci := 11) (v := .int (-2 : Int32)) (ty := .int) (C := "MappedProcessorModel") (T := T_Ref) (N := 14) hx hb hB iw_Ref ty_Ref ty_Ref_ok nm_Ref hown hK hP hD hS 0 rfl rfl 5 (by decide) (hB _ mw_648) (fun _ h9 => h9) rfl (by decide +kernel) rfl rfl (Nat.le_of_ble_eq_true rfl) d_Ref_paged_220 (fun H locs hP hD hS => ?_)
                      have hP : va_P D kCl [(aT, .inr (11, [.ref bG, .ref bS, .ref bM, .int rl, .int rk, .int (-2 : Int32), .int re, .int rc, .int rd, .int ra, .int rb, .int rn, .int rf, .int rw])), (bG, .inl (dG, 32, .inl rg)), (bS, .inl (dS, 48, .inl rs)), (bM, .inl (dM, 16384, .inl rm))] H := hP
                      have hD : va_D A [(aT, .inr (11, [.ref bG, .ref bS, .ref bM, .int rl, .int rk, .int (-2 : Int32), .int re, .int rc, .int rd, .int ra, .int rb, .int rn, .int rf, .int rw])), (bG, .inl (dG, 32, .inl rg)), (bS, .inl (dS, 48, .inl rs)), (bM, .inl (dM, 16384, .inl rm))] := hD
                      refine lv_iconst (v := (0 : Int32)) hx hb d_Ref_paged_223 (by decide) ?_
                      have ef : f_Ref_paged p0 p1 p2 rs rm rr re = ((0 : Int32), (-2 : Int32), re) := by unfold f_Ref_paged; rw [if_pos h1, if_pos h3, if_pos h38, if_neg h42, if_pos h58, if_neg h64, if_neg h68, if_pos h69, if_neg h70, if_pos h72]
                      exact k_iret hx hb hr hlocks hK hP hD hS [0, 1, 2, 3] rfl (by rw [ef] <;> rfl) (by rw [ef] <;> rfl) d_Ref_paged_224
          · refine lv_aload_n hx hb d_Ref_paged_143 rfl (lv_at hl 6 rfl) ?_
            refine lv_iconst (v := (-1 : Int32)) hx hb d_Ref_paged_144 (by decide) ?_
            refine va_put (D := D) (ci := 11) (v := .int (-1 : Int32)) (ty := .int) (C := "MappedProcessorModel") (T := T_Ref) (N := 14) hx hb hB iw_Ref ty_Ref ty_Ref_ok nm_Ref hown hK hP hD hS 0 rfl rfl 5 (by decide) (hB _ mw_648) (fun _ h9 => h9) rfl (by decide +kernel) rfl rfl (Nat.le_of_ble_eq_true rfl) d_Ref_paged_145 (fun H locs hP hD hS => ?_)
            have hP : va_P D kCl [(aT, .inr (11, [.ref bG, .ref bS, .ref bM, .int rl, .int rk, .int (-1 : Int32), .int re, .int rc, .int rd, .int ra, .int rb, .int rn, .int rf, .int rw])), (bG, .inl (dG, 32, .inl rg)), (bS, .inl (dS, 48, .inl rs)), (bM, .inl (dM, 16384, .inl rm))] H := hP
            have hD : va_D A [(aT, .inr (11, [.ref bG, .ref bS, .ref bM, .int rl, .int rk, .int (-1 : Int32), .int re, .int rc, .int rd, .int ra, .int rb, .int rn, .int rf, .int rw])), (bG, .inl (dG, 32, .inl rg)), (bS, .inl (dS, 48, .inl rs)), (bM, .inl (dM, 16384, .inl rm))] := hD
            refine lv_iconst (v := (0 : Int32)) hx hb d_Ref_paged_148 (by decide) ?_
            have ef : f_Ref_paged p0 p1 p2 rs rm rr re = ((0 : Int32), (-1 : Int32), re) := by unfold f_Ref_paged; rw [if_pos h1, if_pos h3, if_pos h38, if_neg h42, if_neg h58]
            exact k_iret hx hb hr hlocks hK hP hD hS [0, 1, 2, 3] rfl (by rw [ef] <;> rfl) (by rw [ef] <;> rfl) d_Ref_paged_149
      · refine lv_aload_n hx hb d_Ref_paged_38 rfl (lv_at hl 1 rfl) ?_
        refine lv_iload hx hb d_Ref_paged_39 (lv_at hl 0 rfl) ?_
        refine lv_bipush (v := (31 : Int32)) hx hb d_Ref_paged_41 (by decide) ?_
        refine k_cSi (As := [.int (rs (ix ((32 : Int32) + (ush p0 (28 : Int32))))), .int (31 : Int32)]) (rest := [.ref aT]) (wr := [(aT, .inr (11, [.ref bG, .ref bS, .ref bM, .int rl, .int rk, .int rr, .int re, .int rc, .int rd, .int ra, .int rb, .int rn, .int rf, .int rw])), (bG, .inl (dG, 32, .inl rg)), (bS, .inl (dS, 48, .inl rs)), (bM, .inl (dM, 16384, .inl rm))]) (wj := [(aT, .inr (11, [.ref bG, .ref bS, .ref bM, .int rl, .int rk, .int rr, .int re, .int rc, .int rd, .int ra, .int rb, .int rn, .int rf, .int rw])), (bG, .inl (dG, 32, .inl rg)), (bS, .inl (dS, 48, .inl rs)), (bM, .inl (dM, 16384, .inl rm))]) ⟨hx, hb, hml, hown, hB⟩ (c_Ref_bit l D (rs (ix ((32 : Int32) + (ush p0 (28 : Int32))))) (31 : Int32)) yl_Ref_bit mw_725 hK hN hP hD hS hA [] [] [0, 1, 2, 3] [0, 1, 2, 3] rfl rfl rfl rfl (by decide +kernel) rfl hl.1 rfl (Nat.le_of_ble_eq_true rfl) ⟨Nat.le_of_ble_eq_true rfl, Nat.le_of_ble_eq_true rfl⟩ d_Ref_paged_43 ⟨Nat.le_of_ble_eq_true rfl, Nat.le_of_ble_eq_true rfl⟩ (fun H locs hP hD hS => ?_)
        refine lv_if_eq (tgt := 53) hx hb d_Ref_paged_46 (by decide) (fun (h73 : (f_Ref_bit (rs (ix ((32 : Int32) + (ush p0 (28 : Int32))))) (31 : Int32)) = (0 : Int32)) => ?_) (fun (h73 : ¬ (f_Ref_bit (rs (ix ((32 : Int32) + (ush p0 (28 : Int32))))) (31 : Int32)) = (0 : Int32)) => ?_)
        rotate_left
        · exact absurd h1 h73
        refine lv_bipush (v := (-3 : Int32)) hx hb d_Ref_paged_53 (by decide) ?_
        refine va_put (D := D) (ci := 11) (v := .int (-3 : Int32)) (ty := .int) (C := "MappedProcessorModel") (T := T_Ref) (N := 14) hx hb hB iw_Ref ty_Ref ty_Ref_ok nm_Ref hown hK hP hD hS 0 rfl rfl 5 (by decide) (hB _ mw_648) (fun _ h9 => h9) rfl (by decide +kernel) rfl rfl (Nat.le_of_ble_eq_true rfl) d_Ref_paged_55 (fun H locs hP hD hS => ?_)
        have hP : va_P D kCl [(aT, .inr (11, [.ref bG, .ref bS, .ref bM, .int rl, .int rk, .int (-3 : Int32), .int re, .int rc, .int rd, .int ra, .int rb, .int rn, .int rf, .int rw])), (bG, .inl (dG, 32, .inl rg)), (bS, .inl (dS, 48, .inl rs)), (bM, .inl (dM, 16384, .inl rm))] H := hP
        have hD : va_D A [(aT, .inr (11, [.ref bG, .ref bS, .ref bM, .int rl, .int rk, .int (-3 : Int32), .int re, .int rc, .int rd, .int ra, .int rb, .int rn, .int rf, .int rw])), (bG, .inl (dG, 32, .inl rg)), (bS, .inl (dS, 48, .inl rs)), (bM, .inl (dM, 16384, .inl rm))] := hD
        refine lv_iconst (v := (0 : Int32)) hx hb d_Ref_paged_58 (by decide) ?_
        have ef : f_Ref_paged p0 p1 p2 rs rm rr re = ((0 : Int32), (-3 : Int32), re) := by unfold f_Ref_paged; rw [if_pos h1, if_pos h3, if_neg h38]
        exact k_iret hx hb hr hlocks hK hP hD hS [0, 1, 2, 3] rfl (by rw [ef] <;> rfl) (by rw [ef] <;> rfl) d_Ref_paged_59
/-! MappedProcessorModel.resolve(II)I -/
theorem d_Ref_resolve_0 : decode b_Ref_resolve 0 = .ok (.aload_n 0, 1) := by decide +kernel
theorem d_Ref_resolve_1 : decode b_Ref_resolve 1 = .ok (.iconst 0, 1) := by decide +kernel
theorem d_Ref_resolve_2 : decode b_Ref_resolve 2 = .ok (.putfield 21, 3) := by decide +kernel
theorem d_Ref_resolve_5 : decode b_Ref_resolve 5 = .ok (.aload_n 0, 1) := by decide +kernel
theorem d_Ref_resolve_6 : decode b_Ref_resolve 6 = .ok (.iconst (-1), 1) := by decide +kernel
theorem d_Ref_resolve_7 : decode b_Ref_resolve 7 = .ok (.putfield 25, 3) := by decide +kernel
theorem d_Ref_resolve_10 : decode b_Ref_resolve 10 = .ok (.aload_n 0, 1) := by decide +kernel
theorem d_Ref_resolve_11 : decode b_Ref_resolve 11 = .ok (.getfield 13, 3) := by decide +kernel
theorem d_Ref_resolve_14 : decode b_Ref_resolve 14 = .ok (.iconst 1, 1) := by decide +kernel
theorem d_Ref_resolve_15 : decode b_Ref_resolve 15 = .ok (.iaload, 1) := by decide +kernel
theorem d_Ref_resolve_16 : decode b_Ref_resolve 16 = .ok (.iload_n 2, 1) := by decide +kernel
theorem d_Ref_resolve_17 : decode b_Ref_resolve 17 = .ok (.ifCond .ne 7, 3) := by decide +kernel
theorem d_Ref_resolve_20 : decode b_Ref_resolve 20 = .ok (.iconst 5, 1) := by decide +kernel
theorem d_Ref_resolve_21 : decode b_Ref_resolve 21 = .ok (.goto 4, 3) := by decide +kernel
theorem d_Ref_resolve_24 : decode b_Ref_resolve 24 = .ok (.iconst 4, 1) := by decide +kernel
theorem d_Ref_resolve_25 : decode b_Ref_resolve 25 = .ok (.invokestatic 28, 3) := by decide +kernel
theorem d_Ref_resolve_28 : decode b_Ref_resolve 28 = .ok (.ifCond .ne 5, 3) := by decide +kernel
theorem d_Ref_resolve_31 : decode b_Ref_resolve 31 = .ok (.iload_n 1, 1) := by decide +kernel
theorem d_Ref_resolve_32 : decode b_Ref_resolve 32 = .ok (.ireturn, 1) := by decide +kernel
theorem d_Ref_resolve_33 : decode b_Ref_resolve 33 = .ok (.aload_n 0, 1) := by decide +kernel
theorem d_Ref_resolve_34 : decode b_Ref_resolve 34 = .ok (.getfield 13, 3) := by decide +kernel
theorem d_Ref_resolve_37 : decode b_Ref_resolve 37 = .ok (.iconst 1, 1) := by decide +kernel
theorem d_Ref_resolve_38 : decode b_Ref_resolve 38 = .ok (.iaload, 1) := by decide +kernel
theorem d_Ref_resolve_39 : decode b_Ref_resolve 39 = .ok (.bipush 14, 2) := by decide +kernel
theorem d_Ref_resolve_41 : decode b_Ref_resolve 41 = .ok (.invokestatic 28, 3) := by decide +kernel
theorem d_Ref_resolve_44 : decode b_Ref_resolve 44 = .ok (.istore_n 3, 1) := by decide +kernel
theorem d_Ref_resolve_45 : decode b_Ref_resolve 45 = .ok (.iconst 0, 1) := by decide +kernel
theorem d_Ref_resolve_46 : decode b_Ref_resolve 46 = .ok (.istore 4, 2) := by decide +kernel
theorem d_Ref_resolve_48 : decode b_Ref_resolve 48 = .ok (.iload 4, 2) := by decide +kernel
theorem d_Ref_resolve_50 : decode b_Ref_resolve 50 = .ok (.iconst 4, 1) := by decide +kernel
theorem d_Ref_resolve_51 : decode b_Ref_resolve 51 = .ok (.if_icmp .ge 108, 3) := by decide +kernel
theorem d_Ref_resolve_54 : decode b_Ref_resolve 54 = .ok (.aload_n 0, 1) := by decide +kernel
theorem d_Ref_resolve_55 : decode b_Ref_resolve 55 = .ok (.getfield 13, 3) := by decide +kernel
theorem d_Ref_resolve_58 : decode b_Ref_resolve 58 = .ok (.iload_n 2, 1) := by decide +kernel
theorem d_Ref_resolve_59 : decode b_Ref_resolve 59 = .ok (.ifCond .ne 8, 3) := by decide +kernel
theorem d_Ref_resolve_62 : decode b_Ref_resolve 62 = .ok (.bipush 16, 2) := by decide +kernel
theorem d_Ref_resolve_64 : decode b_Ref_resolve 64 = .ok (.goto 5, 3) := by decide +kernel
theorem d_Ref_resolve_67 : decode b_Ref_resolve 67 = .ok (.bipush 24, 2) := by decide +kernel
theorem d_Ref_resolve_69 : decode b_Ref_resolve 69 = .ok (.iconst 2, 1) := by decide +kernel
theorem d_Ref_resolve_70 : decode b_Ref_resolve 70 = .ok (.iload 4, 2) := by decide +kernel
theorem d_Ref_resolve_72 : decode b_Ref_resolve 72 = .ok (.imul, 1) := by decide +kernel
theorem d_Ref_resolve_73 : decode b_Ref_resolve 73 = .ok (.iadd, 1) := by decide +kernel
theorem d_Ref_resolve_74 : decode b_Ref_resolve 74 = .ok (.iaload, 1) := by decide +kernel
theorem d_Ref_resolve_75 : decode b_Ref_resolve 75 = .ok (.istore 5, 2) := by decide +kernel
theorem d_Ref_resolve_77 : decode b_Ref_resolve 77 = .ok (.iload 5, 2) := by decide +kernel
theorem d_Ref_resolve_79 : decode b_Ref_resolve 79 = .ok (.iconst 2, 1) := by decide +kernel
theorem d_Ref_resolve_80 : decode b_Ref_resolve 80 = .ok (.ishr, 1) := by decide +kernel
theorem d_Ref_resolve_81 : decode b_Ref_resolve 81 = .ok (.sipush 2047, 3) := by decide +kernel
theorem d_Ref_resolve_84 : decode b_Ref_resolve 84 = .ok (.iand, 1) := by decide +kernel
theorem d_Ref_resolve_85 : decode b_Ref_resolve 85 = .ok (.bipush 13, 2) := by decide +kernel
theorem d_Ref_resolve_87 : decode b_Ref_resolve 87 = .ok (.ishl, 1) := by decide +kernel
theorem d_Ref_resolve_88 : decode b_Ref_resolve 88 = .ok (.istore 6, 2) := by decide +kernel
theorem d_Ref_resolve_90 : decode b_Ref_resolve 90 = .ok (.iload 5, 2) := by decide +kernel
theorem d_Ref_resolve_92 : decode b_Ref_resolve 92 = .ok (.iload_n 3, 1) := by decide +kernel
theorem d_Ref_resolve_93 : decode b_Ref_resolve 93 = .ok (.ifCond .eq 7, 3) := by decide +kernel
theorem d_Ref_resolve_96 : decode b_Ref_resolve 96 = .ok (.iconst 0, 1) := by decide +kernel
theorem d_Ref_resolve_97 : decode b_Ref_resolve 97 = .ok (.goto 4, 3) := by decide +kernel
theorem d_Ref_resolve_100 : decode b_Ref_resolve 100 = .ok (.iconst 1, 1) := by decide +kernel
theorem d_Ref_resolve_101 : decode b_Ref_resolve 101 = .ok (.invokestatic 28, 3) := by decide +kernel
theorem d_Ref_resolve_104 : decode b_Ref_resolve 104 = .ok (.ifCond .eq 49, 3) := by decide +kernel
theorem d_Ref_resolve_107 : decode b_Ref_resolve 107 = .ok (.iload_n 1, 1) := by decide +kernel
theorem d_Ref_resolve_108 : decode b_Ref_resolve 108 = .ok (.iload 5, 2) := by decide +kernel
theorem d_Ref_resolve_110 : decode b_Ref_resolve 110 = .ok (.ixor, 1) := by decide +kernel
theorem d_Ref_resolve_111 : decode b_Ref_resolve 111 = .ok (.iload 6, 2) := by decide +kernel
theorem d_Ref_resolve_113 : decode b_Ref_resolve 113 = .ok (.iconst (-1), 1) := by decide +kernel
theorem d_Ref_resolve_114 : decode b_Ref_resolve 114 = .ok (.ixor, 1) := by decide +kernel
theorem d_Ref_resolve_115 : decode b_Ref_resolve 115 = .ok (.iand, 1) := by decide +kernel
theorem d_Ref_resolve_116 : decode b_Ref_resolve 116 = .ok (.sipush (-8192), 3) := by decide +kernel
theorem d_Ref_resolve_119 : decode b_Ref_resolve 119 = .ok (.iand, 1) := by decide +kernel
theorem d_Ref_resolve_120 : decode b_Ref_resolve 120 = .ok (.ifCond .ne 33, 3) := by decide +kernel
theorem d_Ref_resolve_123 : decode b_Ref_resolve 123 = .ok (.aload_n 0, 1) := by decide +kernel
theorem d_Ref_resolve_124 : decode b_Ref_resolve 124 = .ok (.iload_n 1, 1) := by decide +kernel
theorem d_Ref_resolve_125 : decode b_Ref_resolve 125 = .ok (.aload_n 0, 1) := by decide +kernel
theorem d_Ref_resolve_126 : decode b_Ref_resolve 126 = .ok (.getfield 13, 3) := by decide +kernel
theorem d_Ref_resolve_129 : decode b_Ref_resolve 129 = .ok (.iload_n 2, 1) := by decide +kernel
theorem d_Ref_resolve_130 : decode b_Ref_resolve 130 = .ok (.ifCond .ne 8, 3) := by decide +kernel
theorem d_Ref_resolve_133 : decode b_Ref_resolve 133 = .ok (.bipush 17, 2) := by decide +kernel
theorem d_Ref_resolve_135 : decode b_Ref_resolve 135 = .ok (.goto 5, 3) := by decide +kernel
theorem d_Ref_resolve_138 : decode b_Ref_resolve 138 = .ok (.bipush 25, 2) := by decide +kernel
theorem d_Ref_resolve_140 : decode b_Ref_resolve 140 = .ok (.iconst 2, 1) := by decide +kernel
theorem d_Ref_resolve_141 : decode b_Ref_resolve 141 = .ok (.iload 4, 2) := by decide +kernel
theorem d_Ref_resolve_143 : decode b_Ref_resolve 143 = .ok (.imul, 1) := by decide +kernel
theorem d_Ref_resolve_144 : decode b_Ref_resolve 144 = .ok (.iadd, 1) := by decide +kernel
theorem d_Ref_resolve_145 : decode b_Ref_resolve 145 = .ok (.iaload, 1) := by decide +kernel
theorem d_Ref_resolve_146 : decode b_Ref_resolve 146 = .ok (.iload 6, 2) := by decide +kernel
theorem d_Ref_resolve_148 : decode b_Ref_resolve 148 = .ok (.iload_n 2, 1) := by decide +kernel
theorem d_Ref_resolve_149 : decode b_Ref_resolve 149 = .ok (.invokevirtual 32, 3) := by decide +kernel
theorem d_Ref_resolve_152 : decode b_Ref_resolve 152 = .ok (.ireturn, 1) := by decide +kernel
theorem d_Ref_resolve_153 : decode b_Ref_resolve 153 = .ok (.iinc 4 1, 3) := by decide +kernel
theorem d_Ref_resolve_156 : decode b_Ref_resolve 156 = .ok (.goto (-108), 3) := by decide +kernel
theorem d_Ref_resolve_159 : decode b_Ref_resolve 159 = .ok (.aload_n 0, 1) := by decide +kernel
theorem d_Ref_resolve_160 : decode b_Ref_resolve 160 = .ok (.iload_n 1, 1) := by decide +kernel
theorem d_Ref_resolve_161 : decode b_Ref_resolve 161 = .ok (.iload_n 2, 1) := by decide +kernel
theorem d_Ref_resolve_162 : decode b_Ref_resolve 162 = .ok (.iload_n 3, 1) := by decide +kernel
theorem d_Ref_resolve_163 : decode b_Ref_resolve 163 = .ok (.invokevirtual 36, 3) := by decide +kernel
theorem d_Ref_resolve_166 : decode b_Ref_resolve 166 = .ok (.ireturn, 1) := by decide +kernel
def f_Ref_resolve (p0 : Int32) (p1 : Int32) (rs : Nat → Int32) (rm : Nat → Int32) : Int32 × Int32 × Int32 :=
  if (f_Ref_bit (rs 1) (if p1 = (0 : Int32) then (5 : Int32) else (4 : Int32))) = (0 : Int32) then
    (p0, (0 : Int32), (-1 : Int32))
  else
    if (f_Ref_bit (rs (ix ((if p1 = (0 : Int32) then (16 : Int32) else (24 : Int32)) + (0 : Int32)))) (if (f_Ref_bit (rs 1) (14 : Int32)) = (0 : Int32) then (1 : Int32) else (0 : Int32))) = (0 : Int32) then
      if (f_Ref_bit (rs (ix ((if p1 = (0 : Int32) then (16 : Int32) else (24 : Int32)) + (2 : Int32)))) (if (f_Ref_bit (rs 1) (14 : Int32)) = (0 : Int32) then (1 : Int32) else (0 : Int32))) = (0 : Int32) then
        if (f_Ref_bit (rs (ix ((if p1 = (0 : Int32) then (16 : Int32) else (24 : Int32)) + (4 : Int32)))) (if (f_Ref_bit (rs 1) (14 : Int32)) = (0 : Int32) then (1 : Int32) else (0 : Int32))) = (0 : Int32) then
          if (f_Ref_bit (rs (ix ((if p1 = (0 : Int32) then (16 : Int32) else (24 : Int32)) + (6 : Int32)))) (if (f_Ref_bit (rs 1) (14 : Int32)) = (0 : Int32) then (1 : Int32) else (0 : Int32))) = (0 : Int32) then
            let t56 := (f_Ref_paged p0 p1 (f_Ref_bit (rs 1) (14 : Int32)) rs rm (0 : Int32) (-1 : Int32))
            (t56.1, t56.2.1, t56.2.2)
          else
            if (((p0 ^^^ (rs (ix ((if p1 = (0 : Int32) then (16 : Int32) else (24 : Int32)) + (6 : Int32))))) &&& ((shl ((shr (rs (ix ((if p1 = (0 : Int32) then (16 : Int32) else (24 : Int32)) + (6 : Int32)))) (2 : Int32)) &&& (2047 : Int32)) (13 : Int32)) ^^^ (-1 : Int32))) &&& (-8192 : Int32)) = (0 : Int32) then
              let t65 := (f_Ref_block p0 (rs (ix ((if p1 = (0 : Int32) then (17 : Int32) else (25 : Int32)) + (6 : Int32)))) (shl ((shr (rs (ix ((if p1 = (0 : Int32) then (16 : Int32) else (24 : Int32)) + (6 : Int32)))) (2 : Int32)) &&& (2047 : Int32)) (13 : Int32)) p1 (0 : Int32))
              (t65.1, t65.2, (-1 : Int32))
            else
              let t59 := (f_Ref_paged p0 p1 (f_Ref_bit (rs 1) (14 : Int32)) rs rm (0 : Int32) (-1 : Int32))
              (t59.1, t59.2.1, t59.2.2)
        else
          if (((p0 ^^^ (rs (ix ((if p1 = (0 : Int32) then (16 : Int32) else (24 : Int32)) + (4 : Int32))))) &&& ((shl ((shr (rs (ix ((if p1 = (0 : Int32) then (16 : Int32) else (24 : Int32)) + (4 : Int32)))) (2 : Int32)) &&& (2047 : Int32)) (13 : Int32)) ^^^ (-1 : Int32))) &&& (-8192 : Int32)) = (0 : Int32) then
            let t95 := (f_Ref_block p0 (rs (ix ((if p1 = (0 : Int32) then (17 : Int32) else (25 : Int32)) + (4 : Int32)))) (shl ((shr (rs (ix ((if p1 = (0 : Int32) then (16 : Int32) else (24 : Int32)) + (4 : Int32)))) (2 : Int32)) &&& (2047 : Int32)) (13 : Int32)) p1 (0 : Int32))
            (t95.1, t95.2, (-1 : Int32))
          else
            if (f_Ref_bit (rs (ix ((if p1 = (0 : Int32) then (16 : Int32) else (24 : Int32)) + (6 : Int32)))) (if (f_Ref_bit (rs 1) (14 : Int32)) = (0 : Int32) then (1 : Int32) else (0 : Int32))) = (0 : Int32) then
              let t80 := (f_Ref_paged p0 p1 (f_Ref_bit (rs 1) (14 : Int32)) rs rm (0 : Int32) (-1 : Int32))
              (t80.1, t80.2.1, t80.2.2)
            else
              if (((p0 ^^^ (rs (ix ((if p1 = (0 : Int32) then (16 : Int32) else (24 : Int32)) + (6 : Int32))))) &&& ((shl ((shr (rs (ix ((if p1 = (0 : Int32) then (16 : Int32) else (24 : Int32)) + (6 : Int32)))) (2 : Int32)) &&& (2047 : Int32)) (13 : Int32)) ^^^ (-1 : Int32))) &&& (-8192 : Int32)) = (0 : Int32) then
                let t89 := (f_Ref_block p0 (rs (ix ((if p1 = (0 : Int32) then (17 : Int32) else (25 : Int32)) + (6 : Int32)))) (shl ((shr (rs (ix ((if p1 = (0 : Int32) then (16 : Int32) else (24 : Int32)) + (6 : Int32)))) (2 : Int32)) &&& (2047 : Int32)) (13 : Int32)) p1 (0 : Int32))
                (t89.1, t89.2, (-1 : Int32))
              else
                let t83 := (f_Ref_paged p0 p1 (f_Ref_bit (rs 1) (14 : Int32)) rs rm (0 : Int32) (-1 : Int32))
                (t83.1, t83.2.1, t83.2.2)
      else
        if (((p0 ^^^ (rs (ix ((if p1 = (0 : Int32) then (16 : Int32) else (24 : Int32)) + (2 : Int32))))) &&& ((shl ((shr (rs (ix ((if p1 = (0 : Int32) then (16 : Int32) else (24 : Int32)) + (2 : Int32)))) (2 : Int32)) &&& (2047 : Int32)) (13 : Int32)) ^^^ (-1 : Int32))) &&& (-8192 : Int32)) = (0 : Int32) then
          let t167 := (f_Ref_block p0 (rs (ix ((if p1 = (0 : Int32) then (17 : Int32) else (25 : Int32)) + (2 : Int32)))) (shl ((shr (rs (ix ((if p1 = (0 : Int32) then (16 : Int32) else (24 : Int32)) + (2 : Int32)))) (2 : Int32)) &&& (2047 : Int32)) (13 : Int32)) p1 (0 : Int32))
          (t167.1, t167.2, (-1 : Int32))
        else
          if (f_Ref_bit (rs (ix ((if p1 = (0 : Int32) then (16 : Int32) else (24 : Int32)) + (4 : Int32)))) (if (f_Ref_bit (rs 1) (14 : Int32)) = (0 : Int32) then (1 : Int32) else (0 : Int32))) = (0 : Int32) then
            if (f_Ref_bit (rs (ix ((if p1 = (0 : Int32) then (16 : Int32) else (24 : Int32)) + (6 : Int32)))) (if (f_Ref_bit (rs 1) (14 : Int32)) = (0 : Int32) then (1 : Int32) else (0 : Int32))) = (0 : Int32) then
              let t122 := (f_Ref_paged p0 p1 (f_Ref_bit (rs 1) (14 : Int32)) rs rm (0 : Int32) (-1 : Int32))
              (t122.1, t122.2.1, t122.2.2)
            else
              if (((p0 ^^^ (rs (ix ((if p1 = (0 : Int32) then (16 : Int32) else (24 : Int32)) + (6 : Int32))))) &&& ((shl ((shr (rs (ix ((if p1 = (0 : Int32) then (16 : Int32) else (24 : Int32)) + (6 : Int32)))) (2 : Int32)) &&& (2047 : Int32)) (13 : Int32)) ^^^ (-1 : Int32))) &&& (-8192 : Int32)) = (0 : Int32) then
                let t131 := (f_Ref_block p0 (rs (ix ((if p1 = (0 : Int32) then (17 : Int32) else (25 : Int32)) + (6 : Int32)))) (shl ((shr (rs (ix ((if p1 = (0 : Int32) then (16 : Int32) else (24 : Int32)) + (6 : Int32)))) (2 : Int32)) &&& (2047 : Int32)) (13 : Int32)) p1 (0 : Int32))
                (t131.1, t131.2, (-1 : Int32))
              else
                let t125 := (f_Ref_paged p0 p1 (f_Ref_bit (rs 1) (14 : Int32)) rs rm (0 : Int32) (-1 : Int32))
                (t125.1, t125.2.1, t125.2.2)
          else
            if (((p0 ^^^ (rs (ix ((if p1 = (0 : Int32) then (16 : Int32) else (24 : Int32)) + (4 : Int32))))) &&& ((shl ((shr (rs (ix ((if p1 = (0 : Int32) then (16 : Int32) else (24 : Int32)) + (4 : Int32)))) (2 : Int32)) &&& (2047 : Int32)) (13 : Int32)) ^^^ (-1 : Int32))) &&& (-8192 : Int32)) = (0 : Int32) then
              let t161 := (f_Ref_block p0 (rs (ix ((if p1 = (0 : Int32) then (17 : Int32) else (25 : Int32)) + (4 : Int32)))) (shl ((shr (rs (ix ((if p1 = (0 : Int32) then (16 : Int32) else (24 : Int32)) + (4 : Int32)))) (2 : Int32)) &&& (2047 : Int32)) (13 : Int32)) p1 (0 : Int32))
              (t161.1, t161.2, (-1 : Int32))
            else
              if (f_Ref_bit (rs (ix ((if p1 = (0 : Int32) then (16 : Int32) else (24 : Int32)) + (6 : Int32)))) (if (f_Ref_bit (rs 1) (14 : Int32)) = (0 : Int32) then (1 : Int32) else (0 : Int32))) = (0 : Int32) then
                let t146 := (f_Ref_paged p0 p1 (f_Ref_bit (rs 1) (14 : Int32)) rs rm (0 : Int32) (-1 : Int32))
                (t146.1, t146.2.1, t146.2.2)
              else
                if (((p0 ^^^ (rs (ix ((if p1 = (0 : Int32) then (16 : Int32) else (24 : Int32)) + (6 : Int32))))) &&& ((shl ((shr (rs (ix ((if p1 = (0 : Int32) then (16 : Int32) else (24 : Int32)) + (6 : Int32)))) (2 : Int32)) &&& (2047 : Int32)) (13 : Int32)) ^^^ (-1 : Int32))) &&& (-8192 : Int32)) = (0 : Int32) then
                  let t155 := (f_Ref_block p0 (rs (ix ((if p1 = (0 : Int32) then (17 : Int32) else (25 : Int32)) + (6 : Int32)))) (shl ((shr (rs (ix ((if p1 = (0 : Int32) then (16 : Int32) else (24 : Int32)) + (6 : Int32)))) (2 : Int32)) &&& (2047 : Int32)) (13 : Int32)) p1 (0 : Int32))
                  (t155.1, t155.2, (-1 : Int32))
                else
                  let t149 := (f_Ref_paged p0 p1 (f_Ref_bit (rs 1) (14 : Int32)) rs rm (0 : Int32) (-1 : Int32))
                  (t149.1, t149.2.1, t149.2.2)
    else
      if (((p0 ^^^ (rs (ix ((if p1 = (0 : Int32) then (16 : Int32) else (24 : Int32)) + (0 : Int32))))) &&& ((shl ((shr (rs (ix ((if p1 = (0 : Int32) then (16 : Int32) else (24 : Int32)) + (0 : Int32)))) (2 : Int32)) &&& (2047 : Int32)) (13 : Int32)) ^^^ (-1 : Int32))) &&& (-8192 : Int32)) = (0 : Int32) then
        let t323 := (f_Ref_block p0 (rs (ix ((if p1 = (0 : Int32) then (17 : Int32) else (25 : Int32)) + (0 : Int32)))) (shl ((shr (rs (ix ((if p1 = (0 : Int32) then (16 : Int32) else (24 : Int32)) + (0 : Int32)))) (2 : Int32)) &&& (2047 : Int32)) (13 : Int32)) p1 (0 : Int32))
        (t323.1, t323.2, (-1 : Int32))
      else
        if (f_Ref_bit (rs (ix ((if p1 = (0 : Int32) then (16 : Int32) else (24 : Int32)) + (2 : Int32)))) (if (f_Ref_bit (rs 1) (14 : Int32)) = (0 : Int32) then (1 : Int32) else (0 : Int32))) = (0 : Int32) then
          if (f_Ref_bit (rs (ix ((if p1 = (0 : Int32) then (16 : Int32) else (24 : Int32)) + (4 : Int32)))) (if (f_Ref_bit (rs 1) (14 : Int32)) = (0 : Int32) then (1 : Int32) else (0 : Int32))) = (0 : Int32) then
            if (f_Ref_bit (rs (ix ((if p1 = (0 : Int32) then (16 : Int32) else (24 : Int32)) + (6 : Int32)))) (if (f_Ref_bit (rs 1) (14 : Int32)) = (0 : Int32) then (1 : Int32) else (0 : Int32))) = (0 : Int32) then
              let t206 := (f_Ref_paged p0 p1 (f_Ref_bit (rs 1) (14 : Int32)) rs rm (0 : Int32) (-1 : Int32))
              (t206.1, t206.2.1, t206.2.2)
            else
              if (((p0 ^^^ (rs (ix ((if p1 = (0 : Int32) then (16 : Int32) else (24 : Int32)) + (6 : Int32))))) &&& ((shl ((shr (rs (ix ((if p1 = (0 : Int32) then (16 : Int32) else (24 : Int32)) + (6 : Int32)))) (2 : Int32)) &&& (2047 : Int32)) (13 : Int32)) ^^^ (-1 : Int32))) &&& (-8192 : Int32)) = (0 : Int32) then
                let t215 := (f_Ref_block p0 (rs (ix ((if p1 = (0 : Int32) then (17 : Int32) else (25 : Int32)) + (6 : Int32)))) (shl ((shr (rs (ix ((if p1 = (0 : Int32) then (16 : Int32) else (24 : Int32)) + (6 : Int32)))) (2 : Int32)) &&& (2047 : Int32)) (13 : Int32)) p1 (0 : Int32))
                (t215.1, t215.2, (-1 : Int32))
              else
                let t209 := (f_Ref_paged p0 p1 (f_Ref_bit (rs 1) (14 : Int32)) rs rm (0 : Int32) (-1 : Int32))
                (t209.1, t209.2.1, t209.2.2)
          else
            if (((p0 ^^^ (rs (ix ((if p1 = (0 : Int32) then (16 : Int32) else (24 : Int32)) + (4 : Int32))))) &&& ((shl ((shr (rs (ix ((if p1 = (0 : Int32) then (16 : Int32) else (24 : Int32)) + (4 : Int32)))) (2 : Int32)) &&& (2047 : Int32)) (13 : Int32)) ^^^ (-1 : Int32))) &&& (-8192 : Int32)) = (0 : Int32) then
              let t245 := (f_Ref_block p0 (rs (ix ((if p1 = (0 : Int32) then (17 : Int32) else (25 : Int32)) + (4 : Int32)))) (shl ((shr (rs (ix ((if p1 = (0 : Int32) then (16 : Int32) else (24 : Int32)) + (4 : Int32)))) (2 : Int32)) &&& (2047 : Int32)) (13 : Int32)) p1 (0 : Int32))
              (t245.1, t245.2, (-1 : Int32))
            else
              if (f_Ref_bit (rs (ix ((if p1 = (0 : Int32) then (16 : Int32) else (24 : Int32)) + (6 : Int32)))) (if (f_Ref_bit (rs 1) (14 : Int32)) = (0 : Int32) then (1 : Int32) else (0 : Int32))) = (0 : Int32) then
                let t230 := (f_Ref_paged p0 p1 (f_Ref_bit (rs 1) (14 : Int32)) rs rm (0 : Int32) (-1 : Int32))
                (t230.1, t230.2.1, t230.2.2)
              else
                if (((p0 ^^^ (rs (ix ((if p1 = (0 : Int32) then (16 : Int32) else (24 : Int32)) + (6 : Int32))))) &&& ((shl ((shr (rs (ix ((if p1 = (0 : Int32) then (16 : Int32) else (24 : Int32)) + (6 : Int32)))) (2 : Int32)) &&& (2047 : Int32)) (13 : Int32)) ^^^ (-1 : Int32))) &&& (-8192 : Int32)) = (0 : Int32) then
                  let t239 := (f_Ref_block p0 (rs (ix ((if p1 = (0 : Int32) then (17 : Int32) else (25 : Int32)) + (6 : Int32)))) (shl ((shr (rs (ix ((if p1 = (0 : Int32) then (16 : Int32) else (24 : Int32)) + (6 : Int32)))) (2 : Int32)) &&& (2047 : Int32)) (13 : Int32)) p1 (0 : Int32))
                  (t239.1, t239.2, (-1 : Int32))
                else
                  let t233 := (f_Ref_paged p0 p1 (f_Ref_bit (rs 1) (14 : Int32)) rs rm (0 : Int32) (-1 : Int32))
                  (t233.1, t233.2.1, t233.2.2)
        else
          if (((p0 ^^^ (rs (ix ((if p1 = (0 : Int32) then (16 : Int32) else (24 : Int32)) + (2 : Int32))))) &&& ((shl ((shr (rs (ix ((if p1 = (0 : Int32) then (16 : Int32) else (24 : Int32)) + (2 : Int32)))) (2 : Int32)) &&& (2047 : Int32)) (13 : Int32)) ^^^ (-1 : Int32))) &&& (-8192 : Int32)) = (0 : Int32) then
            let t317 := (f_Ref_block p0 (rs (ix ((if p1 = (0 : Int32) then (17 : Int32) else (25 : Int32)) + (2 : Int32)))) (shl ((shr (rs (ix ((if p1 = (0 : Int32) then (16 : Int32) else (24 : Int32)) + (2 : Int32)))) (2 : Int32)) &&& (2047 : Int32)) (13 : Int32)) p1 (0 : Int32))
            (t317.1, t317.2, (-1 : Int32))
          else
            if (f_Ref_bit (rs (ix ((if p1 = (0 : Int32) then (16 : Int32) else (24 : Int32)) + (4 : Int32)))) (if (f_Ref_bit (rs 1) (14 : Int32)) = (0 : Int32) then (1 : Int32) else (0 : Int32))) = (0 : Int32) then
              if (f_Ref_bit (rs (ix ((if p1 = (0 : Int32) then (16 : Int32) else (24 : Int32)) + (6 : Int32)))) (if (f_Ref_bit (rs 1) (14 : Int32)) = (0 : Int32) then (1 : Int32) else (0 : Int32))) = (0 : Int32) then
                let t272 := (f_Ref_paged p0 p1 (f_Ref_bit (rs 1) (14 : Int32)) rs rm (0 : Int32) (-1 : Int32))
                (t272.1, t272.2.1, t272.2.2)
              else
                if (((p0 ^^^ (rs (ix ((if p1 = (0 : Int32) then (16 : Int32) else (24 : Int32)) + (6 : Int32))))) &&& ((shl ((shr (rs (ix ((if p1 = (0 : Int32) then (16 : Int32) else (24 : Int32)) + (6 : Int32)))) (2 : Int32)) &&& (2047 : Int32)) (13 : Int32)) ^^^ (-1 : Int32))) &&& (-8192 : Int32)) = (0 : Int32) then
                  let t281 := (f_Ref_block p0 (rs (ix ((if p1 = (0 : Int32) then (17 : Int32) else (25 : Int32)) + (6 : Int32)))) (shl ((shr (rs (ix ((if p1 = (0 : Int32) then (16 : Int32) else (24 : Int32)) + (6 : Int32)))) (2 : Int32)) &&& (2047 : Int32)) (13 : Int32)) p1 (0 : Int32))
                  (t281.1, t281.2, (-1 : Int32))
                else
                  let t275 := (f_Ref_paged p0 p1 (f_Ref_bit (rs 1) (14 : Int32)) rs rm (0 : Int32) (-1 : Int32))
                  (t275.1, t275.2.1, t275.2.2)
            else
              if (((p0 ^^^ (rs (ix ((if p1 = (0 : Int32) then (16 : Int32) else (24 : Int32)) + (4 : Int32))))) &&& ((shl ((shr (rs (ix ((if p1 = (0 : Int32) then (16 : Int32) else (24 : Int32)) + (4 : Int32)))) (2 : Int32)) &&& (2047 : Int32)) (13 : Int32)) ^^^ (-1 : Int32))) &&& (-8192 : Int32)) = (0 : Int32) then
                let t311 := (f_Ref_block p0 (rs (ix ((if p1 = (0 : Int32) then (17 : Int32) else (25 : Int32)) + (4 : Int32)))) (shl ((shr (rs (ix ((if p1 = (0 : Int32) then (16 : Int32) else (24 : Int32)) + (4 : Int32)))) (2 : Int32)) &&& (2047 : Int32)) (13 : Int32)) p1 (0 : Int32))
                (t311.1, t311.2, (-1 : Int32))
              else
                if (f_Ref_bit (rs (ix ((if p1 = (0 : Int32) then (16 : Int32) else (24 : Int32)) + (6 : Int32)))) (if (f_Ref_bit (rs 1) (14 : Int32)) = (0 : Int32) then (1 : Int32) else (0 : Int32))) = (0 : Int32) then
                  let t296 := (f_Ref_paged p0 p1 (f_Ref_bit (rs 1) (14 : Int32)) rs rm (0 : Int32) (-1 : Int32))
                  (t296.1, t296.2.1, t296.2.2)
                else
                  if (((p0 ^^^ (rs (ix ((if p1 = (0 : Int32) then (16 : Int32) else (24 : Int32)) + (6 : Int32))))) &&& ((shl ((shr (rs (ix ((if p1 = (0 : Int32) then (16 : Int32) else (24 : Int32)) + (6 : Int32)))) (2 : Int32)) &&& (2047 : Int32)) (13 : Int32)) ^^^ (-1 : Int32))) &&& (-8192 : Int32)) = (0 : Int32) then
                    let t305 := (f_Ref_block p0 (rs (ix ((if p1 = (0 : Int32) then (17 : Int32) else (25 : Int32)) + (6 : Int32)))) (shl ((shr (rs (ix ((if p1 = (0 : Int32) then (16 : Int32) else (24 : Int32)) + (6 : Int32)))) (2 : Int32)) &&& (2047 : Int32)) (13 : Int32)) p1 (0 : Int32))
                    (t305.1, t305.2, (-1 : Int32))
                  else
                    let t299 := (f_Ref_paged p0 p1 (f_Ref_bit (rs 1) (14 : Int32)) rs rm (0 : Int32) (-1 : Int32))
                    (t299.1, t299.2.1, t299.2.2)
set_option maxHeartbeats 4000000 in
set_option maxRecDepth 100000 in
theorem c_Ref_resolve (l : Launch) (D : va_G) (aT bG bS bM : Nat) (dG dS dM : ClassId) (rg : Nat → Int32) (rs : Nat → Int32) (rm : Nat → Int32) (rl : Int32) (rk : Int32) (rr : Int32) (re : Int32) (rc : Int32) (rd : Int32) (ra : Int32) (rb : Int32) (rn : Int32) (rf : Int32) (rw : Int32) (p0 : Int32) (p1 : Int32) : kMi l y_Ref_resolve b_Ref_resolve 7 (some .int) 2 56 D kCl [(dG, .int), (dS, .int), (dM, .int)] [.ref aT, .int p0, .int p1] [(aT, .inr (11, [.ref bG, .ref bS, .ref bM, .int rl, .int rk, .int rr, .int re, .int rc, .int rd, .int ra, .int rb, .int rn, .int rf, .int rw])), (bG, .inl (dG, 32, .inl rg)), (bS, .inl (dS, 48, .inl rs)), (bM, .inl (dM, 16384, .inl rm))] (f_Ref_resolve p0 p1 rs rm).1 [(aT, .inr (11, [.ref bG, .ref bS, .ref bM, .int rl, .int rk, .int (f_Ref_resolve p0 p1 rs rm).2.1, .int (f_Ref_resolve p0 p1 rs rm).2.2, .int rc, .int rd, .int ra, .int rb, .int rn, .int rf, .int rw])), (bG, .inl (dG, 32, .inl rg)), (bS, .inl (dS, 48, .inl rs)), (bM, .inl (dM, 16384, .inl rm))] := by
  refine k_entry (Qc := fun A => kQi D kCl [(dG, .int), (dS, .int), (dM, .int)] (f_Ref_resolve p0 p1 rs rm).1 [(aT, .inr (11, [.ref bG, .ref bS, .ref bM, .int rl, .int rk, .int (f_Ref_resolve p0 p1 rs rm).2.1, .int (f_Ref_resolve p0 p1 rs rm).2.2, .int rc, .int rd, .int ra, .int rb, .int rn, .int rf, .int rw])), (bG, .inl (dG, 32, .inl rg)), (bS, .inl (dS, 48, .inl rs)), (bM, .inl (dM, 16384, .inl rm))] A) (lv := [(0, .ref aT), (1, .int p0), (2, .int p1)]) (by decide) (Nat.le_of_ble_eq_true rfl) rfl ?_
  intro p e s m below meth c A ls hx hb hr hml hB hown hlocks hin hA hK hN hP hD hS hl
  have hown : s.vm.findClass "MappedProcessorModel" = some m.cls := hown
  refine lv_aload_n hx hb d_Ref_resolve_0 rfl (lv_at hl 0 rfl) ?_
  refine lv_iconst (v := (0 : Int32)) hx hb d_Ref_resolve_1 (by decide) ?_
  refine va_put (D := D) (ci := 11) (v := .int (0 : Int32)) (ty := .int) (C := "MappedProcessorModel") (T := T_Ref) (N := 14) hx hb hB iw_Ref ty_Ref ty_Ref_ok nm_Ref hown hK hP hD hS 0 rfl rfl 5 (by decide) (hB _ mw_648) (fun _ h9 => h9) rfl (by decide +kernel) rfl rfl (Nat.le_of_ble_eq_true rfl) d_Ref_resolve_2 (fun H locs hP hD hS => ?_)
  have hP : va_P D kCl [(aT, .inr (11, [.ref bG, .ref bS, .ref bM, .int rl, .int rk, .int (0 : Int32), .int re, .int rc, .int rd, .int ra, .int rb, .int rn, .int rf, .int rw])), (bG, .inl (dG, 32, .inl rg)), (bS, .inl (dS, 48, .inl rs)), (bM, .inl (dM, 16384, .inl rm))] H := hP
  have hD : va_D A [(aT, .inr (11, [.ref bG, .ref bS, .ref bM, .int rl, .int rk, .int (0 : Int32), .int re, .int rc, .int rd, .int ra, .int rb, .int rn, .int rf, .int rw])), (bG, .inl (dG, 32, .inl rg)), (bS, .inl (dS, 48, .inl rs)), (bM, .inl (dM, 16384, .inl rm))] := hD
  refine lv_aload_n hx hb d_Ref_resolve_5 rfl (lv_at hl 0 rfl) ?_
  refine lv_iconst (v := (-1 : Int32)) hx hb d_Ref_resolve_6 (by decide) ?_
  refine va_put (D := D) (ci := 11) (v := .int (-1 : Int32)) (ty := .int) (C := "MappedProcessorModel") (T := T_Ref) (N := 14) hx hb hB iw_Ref ty_Ref ty_Ref_ok nm_Ref hown hK hP hD hS 0 rfl rfl 6 (by decide) (hB _ mw_649) (fun _ h9 => h9) rfl (by decide +kernel) rfl rfl (Nat.le_of_ble_eq_true rfl) d_Ref_resolve_7 (fun H locs hP hD hS => ?_)
  have hP : va_P D kCl [(aT, .inr (11, [.ref bG, .ref bS, .ref bM, .int rl, .int rk, .int (0 : Int32), .int (-1 : Int32), .int rc, .int rd, .int ra, .int rb, .int rn, .int rf, .int rw])), (bG, .inl (dG, 32, .inl rg)), (bS, .inl (dS, 48, .inl rs)), (bM, .inl (dM, 16384, .inl rm))] H := hP
  have hD : va_D A [(aT, .inr (11, [.ref bG, .ref bS, .ref bM, .int rl, .int rk, .int (0 : Int32), .int (-1 : Int32), .int rc, .int rd, .int ra, .int rb, .int rn, .int rf, .int rw])), (bG, .inl (dG, 32, .inl rg)), (bS, .inl (dS, 48, .inl rs)), (bM, .inl (dM, 16384, .inl rm))] := hD
  refine lv_aload_n hx hb d_Ref_resolve_10 rfl (lv_at hl 0 rfl) ?_
  refine va_get (D := D) (ci := 11) (v := .ref bS) (C := "MappedProcessorModel") (T := T_Ref) (N := 14) hx hb hB iw_Ref hown hK hP 0 rfl rfl 1 (by decide) (hB _ mw_644) (fun _ h9 => h9) rfl d_Ref_resolve_11 ?_
  refine lv_iconst (v := (1 : Int32)) hx hb d_Ref_resolve_14 (by decide) ?_
  refine k_iald (j := 1) hx hb hK hP 2 1 rfl rfl (by decide) (by unfold vp_in; decide) d_Ref_resolve_15 ?_
  refine lv_iload_n hx hb d_Ref_resolve_16 rfl (lv_at hl 2 rfl) ?_
  refine k_join2 (c0 := p1 = (0 : Int32)) (x1 := (5 : Int32)) (x2 := (4 : Int32)) (rest := [.int (rs 1)]) 25 ?_ (fun k2 k3 => ?_)
  rotate_left
  · refine lv_if_ne (tgt := 24) hx hb d_Ref_resolve_17 (by decide) (fun (h1 : ¬ p1 = (0 : Int32)) => ?_) (fun (h1 : p1 = (0 : Int32)) => ?_)
    · refine lv_iconst (v := (4 : Int32)) hx hb d_Ref_resolve_24 (by decide) ?_
      exact k3 h1
    · refine lv_iconst (v := (5 : Int32)) hx hb d_Ref_resolve_20 (by decide) ?_
      refine lv_goto (tgt := 25) hx hb d_Ref_resolve_21 (by decide) ?_
      exact k2 h1
  refine k_cSi (As := [.int (rs 1), .int (if p1 = (0 : Int32) then (5 : Int32) else (4 : Int32))]) (rest := []) (wr := [(aT, .inr (11, [.ref bG, .ref bS, .ref bM, .int rl, .int rk, .int (0 : Int32), .int (-1 : Int32), .int rc, .int rd, .int ra, .int rb, .int rn, .int rf, .int rw])), (bG, .inl (dG, 32, .inl rg)), (bS, .inl (dS, 48, .inl rs)), (bM, .inl (dM, 16384, .inl rm))]) (wj := [(aT, .inr (11, [.ref bG, .ref bS, .ref bM, .int rl, .int rk, .int (0 : Int32), .int (-1 : Int32), .int rc, .int rd, .int ra, .int rb, .int rn, .int rf, .int rw])), (bG, .inl (dG, 32, .inl rg)), (bS, .inl (dS, 48, .inl rs)), (bM, .inl (dM, 16384, .inl rm))]) ⟨hx, hb, hml, hown, hB⟩ (c_Ref_bit l D (rs 1) (if p1 = (0 : Int32) then (5 : Int32) else (4 : Int32))) yl_Ref_bit mw_725 hK hN hP hD hS hA [] [] [0, 1, 2, 3] [0, 1, 2, 3] rfl rfl rfl rfl (by decide +kernel) rfl hl.1 rfl (Nat.le_of_ble_eq_true rfl) ⟨Nat.le_of_ble_eq_true rfl, Nat.le_of_ble_eq_true rfl⟩ d_Ref_resolve_25 ⟨Nat.le_of_ble_eq_true rfl, Nat.le_of_ble_eq_true rfl⟩ (fun H locs hP hD hS => ?_)
  refine lv_if_ne (tgt := 33) hx hb d_Ref_resolve_28 (by decide) (fun (h6 : ¬ (f_Ref_bit (rs 1) (if p1 = (0 : Int32) then (5 : Int32) else (4 : Int32))) = (0 : Int32)) => ?_) (fun (h6 : (f_Ref_bit (rs 1) (if p1 = (0 : Int32) then (5 : Int32) else (4 : Int32))) = (0 : Int32)) => ?_)
  · refine lv_aload_n hx hb d_Ref_resolve_33 rfl (lv_at hl 0 rfl) ?_
    refine va_get (D := D) (ci := 11) (v := .ref bS) (C := "MappedProcessorModel") (T := T_Ref) (N := 14) hx hb hB iw_Ref hown hK hP 0 rfl rfl 1 (by decide) (hB _ mw_644) (fun _ h9 => h9) rfl d_Ref_resolve_34 ?_
    refine lv_iconst (v := (1 : Int32)) hx hb d_Ref_resolve_37 (by decide) ?_
    refine k_iald (j := 1) hx hb hK hP 2 1 rfl rfl (by decide) (by unfold vp_in; decide) d_Ref_resolve_38 ?_
    refine lv_bipush (v := (14 : Int32)) hx hb d_Ref_resolve_39 (by decide) ?_
    refine k_cSi (As := [.int (rs 1), .int (14 : Int32)]) (rest := []) (wr := [(aT, .inr (11, [.ref bG, .ref bS, .ref bM, .int rl, .int rk, .int (0 : Int32), .int (-1 : Int32), .int rc, .int rd, .int ra, .int rb, .int rn, .int rf, .int rw])), (bG, .inl (dG, 32, .inl rg)), (bS, .inl (dS, 48, .inl rs)), (bM, .inl (dM, 16384, .inl rm))]) (wj := [(aT, .inr (11, [.ref bG, .ref bS, .ref bM, .int rl, .int rk, .int (0 : Int32), .int (-1 : Int32), .int rc, .int rd, .int ra, .int rb, .int rn, .int rf, .int rw])), (bG, .inl (dG, 32, .inl rg)), (bS, .inl (dS, 48, .inl rs)), (bM, .inl (dM, 16384, .inl rm))]) ⟨hx, hb, hml, hown, hB⟩ (c_Ref_bit l D (rs 1) (14 : Int32)) yl_Ref_bit mw_725 hK hN hP hD hS hA [] [] [0, 1, 2, 3] [0, 1, 2, 3] rfl rfl rfl rfl (by decide +kernel) rfl hl.1 rfl (Nat.le_of_ble_eq_true rfl) ⟨Nat.le_of_ble_eq_true rfl, Nat.le_of_ble_eq_true rfl⟩ d_Ref_resolve_41 ⟨Nat.le_of_ble_eq_true rfl, Nat.le_of_ble_eq_true rfl⟩ (fun H locs hP hD hS => ?_)
    refine lv_istore_n (lv' := [(3, .int (f_Ref_bit (rs 1) (14 : Int32))), (0, .ref aT), (1, .int p0), (2, .int p1)]) hx hb d_Ref_resolve_44 rfl hl (by decide) rfl (fun ls hl => ?_)
    refine lv_iconst (v := (0 : Int32)) hx hb d_Ref_resolve_45 (by decide) ?_
    refine lv_istore (lv' := [(4, .int (0 : Int32)), (3, .int (f_Ref_bit (rs 1) (14 : Int32))), (0, .ref aT), (1, .int p0), (2, .int p1)]) hx hb d_Ref_resolve_46 hl (by decide) rfl (fun ls hl => ?_)
    refine lv_iload hx hb d_Ref_resolve_48 (lv_at hl 0 rfl) ?_
    refine lv_iconst (v := (4 : Int32)) hx hb d_Ref_resolve_50 (by decide) ?_
    refine lv_icmp_ge (tgt := 159) hx hb d_Ref_resolve_51 (by decide) (fun h7 => ?_) (fun h7 => ?_)
    · exact absurd h7 (by decide)
    refine lv_aload_n hx hb d_Ref_resolve_54 rfl (lv_at hl 2 rfl) ?_
    refine va_get (D := D) (ci := 11) (v := .ref bS) (C := "MappedProcessorModel") (T := T_Ref) (N := 14) hx hb hB iw_Ref hown hK hP 0 rfl rfl 1 (by decide) (hB _ mw_644) (fun _ h9 => h9) rfl d_Ref_resolve_55 ?_
    refine lv_iload_n hx hb d_Ref_resolve_58 rfl (lv_at hl 4 rfl) ?_
    refine k_join2 (c0 := p1 = (0 : Int32)) (x1 := (16 : Int32)) (x2 := (24 : Int32)) (rest := [.ref bS]) 69 ?_ (fun k9 k10 => ?_)
    rotate_left
    · refine lv_if_ne (tgt := 67) hx hb d_Ref_resolve_59 (by decide) (fun (h8 : ¬ p1 = (0 : Int32)) => ?_) (fun (h8 : p1 = (0 : Int32)) => ?_)
      · refine lv_bipush (v := (24 : Int32)) hx hb d_Ref_resolve_67 (by decide) ?_
        exact k10 h8
      · refine lv_bipush (v := (16 : Int32)) hx hb d_Ref_resolve_62 (by decide) ?_
        refine lv_goto (tgt := 69) hx hb d_Ref_resolve_64 (by decide) ?_
        exact k9 h8
    refine lv_iconst (v := (2 : Int32)) hx hb d_Ref_resolve_69 (by decide) ?_
    refine lv_iload hx hb d_Ref_resolve_70 (lv_at hl 0 rfl) ?_
    refine lv_imul hx hb d_Ref_resolve_72 ?_
    refine k_fold (0 : Int32) (by decide) ?_
    refine lv_iadd hx hb d_Ref_resolve_73 ?_
    refine k_iald (j := (ix ((if p1 = (0 : Int32) then (16 : Int32) else (24 : Int32)) + (0 : Int32)))) hx hb hK hP 2 1 rfl rfl rfl (by split <;> (unfold vp_in; decide)) d_Ref_resolve_74 ?_
    refine lv_istore (lv' := [(5, .int (rs (ix ((if p1 = (0 : Int32) then (16 : Int32) else (24 : Int32)) + (0 : Int32))))), (4, .int (0 : Int32)), (3, .int (f_Ref_bit (rs 1) (14 : Int32))), (0, .ref aT), (1, .int p0), (2, .int p1)]) hx hb d_Ref_resolve_75 hl (by decide) rfl (fun ls hl => ?_)
    refine lv_iload hx hb d_Ref_resolve_77 (lv_at hl 0 rfl) ?_
    refine lv_iconst (v := (2 : Int32)) hx hb d_Ref_resolve_79 (by decide) ?_
    refine lv_ishr hx hb d_Ref_resolve_80 ?_
    refine lv_sipush (v := (2047 : Int32)) hx hb d_Ref_resolve_81 (by decide) ?_
    refine lv_iand hx hb d_Ref_resolve_84 ?_
    refine lv_bipush (v := (13 : Int32)) hx hb d_Ref_resolve_85 (by decide) ?_
    refine lv_ishl hx hb d_Ref_resolve_87 ?_
    refine lv_istore (lv' := [(6, .int (shl ((shr (rs (ix ((if p1 = (0 : Int32) then (16 : Int32) else (24 : Int32)) + (0 : Int32)))) (2 : Int32)) &&& (2047 : Int32)) (13 : Int32))), (5, .int (rs (ix ((if p1 = (0 : Int32) then (16 : Int32) else (24 : Int32)) + (0 : Int32))))), (4, .int (0 : Int32)), (3, .int (f_Ref_bit (rs 1) (14 : Int32))), (0, .ref aT), (1, .int p0), (2, .int p1)]) hx hb d_Ref_resolve_88 hl (by decide) rfl (fun ls hl => ?_)
    refine lv_iload hx hb d_Ref_resolve_90 (lv_at hl 1 rfl) ?_
    refine lv_iload_n hx hb d_Ref_resolve_92 rfl (lv_at hl 3 rfl) ?_
    refine k_join2 (c0 := (f_Ref_bit (rs 1) (14 : Int32)) = (0 : Int32)) (x1 := (1 : Int32)) (x2 := (0 : Int32)) (rest := [.int (rs (ix ((if p1 = (0 : Int32) then (16 : Int32) else (24 : Int32)) + (0 : Int32))))]) 101 ?_ (fun k14 k15 => ?_)
    rotate_left
    · refine lv_if_eq (tgt := 100) hx hb d_Ref_resolve_93 (by decide) (fun (h13 : (f_Ref_bit (rs 1) (14 : Int32)) = (0 : Int32)) => ?_) (fun (h13 : ¬ (f_Ref_bit (rs 1) (14 : Int32)) = (0 : Int32)) => ?_)
      · refine lv_iconst (v := (1 : Int32)) hx hb d_Ref_resolve_100 (by decide) ?_
        exact k14 h13
      · refine lv_iconst (v := (0 : Int32)) hx hb d_Ref_resolve_96 (by decide) ?_
        refine lv_goto (tgt := 101) hx hb d_Ref_resolve_97 (by decide) ?_
        exact k15 h13
    refine k_cSi (As := [.int (rs (ix ((if p1 = (0 : Int32) then (16 : Int32) else (24 : Int32)) + (0 : Int32)))), .int (if (f_Ref_bit (rs 1) (14 : Int32)) = (0 : Int32) then (1 : Int32) else (0 : Int32))]) (rest := []) (wr := [(aT, .inr (11, [.ref bG, .ref bS, .ref bM, .int rl, .int rk, .int (0 : Int32), .int (-1 : Int32), .int rc, .int rd, .int ra, .int rb, .int rn, .int rf, .int rw])), (bG, .inl (dG, 32, .inl rg)), (bS, .inl (dS, 48, .inl rs)), (bM, .inl (dM, 16384, .inl rm))]) (wj := [(aT, .inr (11, [.ref bG, .ref bS, .ref bM, .int rl, .int rk, .int (0 : Int32), .int (-1 : Int32), .int rc, .int rd, .int ra, .int rb, .int rn, .int rf, .int rw])), (bG, .inl (dG, 32, .inl rg)), (bS, .inl (dS, 48, .inl rs)), (bM, .inl (dM, 16384, .inl rm))]) ⟨hx, hb, hml, hown, hB⟩ (c_Ref_bit l D (rs (ix ((if p1 = (0 : Int32) then (16 : Int32) else (24 : Int32)) + (0 : Int32)))) (if (f_Ref_bit (rs 1) (14 : Int32)) = (0 : Int32) then (1 : Int32) else (0 : Int32))) yl_Ref_bit mw_725 hK hN hP hD hS hA [] [] [0, 1, 2, 3] [0, 1, 2, 3] rfl rfl rfl rfl (by decide +kernel) rfl hl.1 rfl (Nat.le_of_ble_eq_true rfl) ⟨Nat.le_of_ble_eq_true rfl, Nat.le_of_ble_eq_true rfl⟩ d_Ref_resolve_101 ⟨Nat.le_of_ble_eq_true rfl, Nat.le_of_ble_eq_true rfl⟩ (fun H locs hP hD hS => ?_)
    refine lv_if_eq (tgt := 153) hx hb d_Ref_resolve_104 (by decide) (fun (h18 : (f_Ref_bit (rs (ix ((if p1 = (0 : Int32) then (16 : Int32) else (24 : Int32)) + (0 : Int32)))) (if (f_Ref_bit (rs 1) (14 : Int32)) = (0 : Int32) then (1 : Int32) else (0 : Int32))) = (0 : Int32)) => ?_) (fun (h18 : ¬ (f_Ref_bit (rs (ix ((if p1 = (0 : Int32) then (16 : Int32) else (24 : Int32)) + (0 : Int32)))) (if (f_Ref_bit (rs 1) (14 : Int32)) = (0 : Int32) then (1 : Int32) else (0 : Int32))) = (0 : Int32)) => ?_)
    · refine lv_iinc (v := (1 : Int32)) (lv' := [(4, .int (1 : Int32)), (6, .int (shl ((shr (rs (ix ((if p1 = (0 : Int32) then (16 : Int32) else (24 : Int32)) + (0 : Int32)))) (2 : Int32)) &&& (2047 : Int32)) (13 : Int32))), (5, .int (rs (ix ((if p1 = (0 : Int32) then (16 : Int32) else (24 : Int32)) + (0 : Int32))))), (3, .int (f_Ref_bit (rs 1) (14 : Int32))), (0, .ref aT), (1, .int p0), (2, .int p1)]) hx hb d_Ref_resolve_153 hl (k := 2) rfl (by decide) (by decide) rfl (fun ls hl => ?_)
      refine lv_goto (tgt := 48) hx hb d_Ref_resolve_156 (by decide) ?_
      refine lv_iload hx hb d_Ref_resolve_48 (lv_at hl 0 rfl) ?_
      refine lv_iconst (v := (4 : Int32)) hx hb d_Ref_resolve_50 (by decide) ?_
      refine lv_icmp_ge (tgt := 159) hx hb d_Ref_resolve_51 (by decide) (fun h19 => ?_) (fun h19 => ?_)
      · exact absurd h19 (by decide)
      refine lv_aload_n hx hb d_Ref_resolve_54 rfl (lv_at hl 4 rfl) ?_
      refine va_get (D := D) (ci := 11) (v := .ref bS) (C := "MappedProcessorModel") (T := T_Ref) (N := 14) hx hb hB iw_Ref hown hK hP 0 rfl rfl 1 (by decide) (hB _ mw_644) (fun _ h9 => h9) rfl d_Ref_resolve_55 ?_
      refine lv_iload_n hx hb d_Ref_resolve_58 rfl (lv_at hl 6 rfl) ?_
      refine k_join2 (c0 := p1 = (0 : Int32)) (x1 := (16 : Int32)) (x2 := (24 : Int32)) (rest := [.ref bS]) 69 ?_ (fun k21 k22 => ?_)
      rotate_left
      · refine lv_if_ne (tgt := 67) hx hb d_Ref_resolve_59 (by decide) (fun (h20 : ¬ p1 = (0 : Int32)) => ?_) (fun (h20 : p1 = (0 : Int32)) => ?_)
        · refine lv_bipush (v := (24 : Int32)) hx hb d_Ref_resolve_67 (by decide) ?_
          exact k22 h20
        · refine lv_bipush (v := (16 : Int32)) hx hb d_Ref_resolve_62 (by decide) ?_
          refine lv_goto (tgt := 69) hx hb d_Ref_resolve_64 (by decide) ?_
          exact k21 h20
      refine lv_iconst (v := (2 : Int32)) hx hb d_Ref_resolve_69 (by decide) ?_
      refine lv_iload hx hb d_Ref_resolve_70 (lv_at hl 0 rfl) ?_
      refine lv_imul hx hb d_Ref_resolve_72 ?_
      refine k_fold (2 : Int32) (by decide) ?_
      refine lv_iadd hx hb d_Ref_resolve_73 ?_
      refine k_iald (j := (ix ((if p1 = (0 : Int32) then (16 : Int32) else (24 : Int32)) + (2 : Int32)))) hx hb hK hP 2 1 rfl rfl rfl (by split <;> (unfold vp_in; decide)) d_Ref_resolve_74 ?_
      refine lv_istore (lv' := [(5, .int (rs (ix ((if p1 = (0 : Int32) then (16 : Int32) else (24 : Int32)) + (2 : Int32))))), (4, .int (1 : Int32)), (6, .int (shl ((shr (rs (ix ((if p1 = (0 : Int32) then (16 : Int32) else (24 : Int32)) + (0 : Int32)))) (2 : Int32)) &&& (2047 : Int32)) (13 : Int32))), (3, .int (f_Ref_bit (rs 1) (14 : Int32))), (0, .ref aT), (1, .int p0), (2, .int p1)]) hx hb d_Ref_resolve_75 hl (by decide) rfl (fun ls hl => ?_)
      refine lv_iload hx hb d_Ref_resolve_77 (lv_at hl 0 rfl) ?_
      refine lv_iconst (v := (2 : Int32)) hx hb d_Ref_resolve_79 (by decide) ?_
      refine lv_ishr hx hb d_Ref_resolve_80 ?_
      refine lv_sipush (v := (2047 : Int32)) hx hb d_Ref_resolve_81 (by decide) ?_
      refine lv_iand hx hb d_Ref_resolve_84 ?_
      refine lv_bipush (v := (13 : Int32)) hx hb d_Ref_resolve_85 (by decide) ?_
      refine lv_ishl hx hb d_Ref_resolve_87 ?_
      refine lv_istore (lv' := [(6, .int (shl ((shr (rs (ix ((if p1 = (0 : Int32) then (16 : Int32) else (24 : Int32)) + (2 : Int32)))) (2 : Int32)) &&& (2047 : Int32)) (13 : Int32))), (5, .int (rs (ix ((if p1 = (0 : Int32) then (16 : Int32) else (24 : Int32)) + (2 : Int32))))), (4, .int (1 : Int32)), (3, .int (f_Ref_bit (rs 1) (14 : Int32))), (0, .ref aT), (1, .int p0), (2, .int p1)]) hx hb d_Ref_resolve_88 hl (by decide) rfl (fun ls hl => ?_)
      refine lv_iload hx hb d_Ref_resolve_90 (lv_at hl 1 rfl) ?_
      refine lv_iload_n hx hb d_Ref_resolve_92 rfl (lv_at hl 3 rfl) ?_
      refine k_join2 (c0 := (f_Ref_bit (rs 1) (14 : Int32)) = (0 : Int32)) (x1 := (1 : Int32)) (x2 := (0 : Int32)) (rest := [.int (rs (ix ((if p1 = (0 : Int32) then (16 : Int32) else (24 : Int32)) + (2 : Int32))))]) 101 ?_ (fun k26 k27 => ?_)
      rotate_left
      · refine lv_if_eq (tgt := 100) hx hb d_Ref_resolve_93 (by decide) (fun (h25 : (f_Ref_bit (rs 1) (14 : Int32)) = (0 : Int32)) => ?_) (fun (h25 : ¬ (f_Ref_bit (rs 1) (14 : Int32)) = (0 : Int32)) => ?_)
        · refine lv_iconst (v := (1 : Int32)) hx hb d_Ref_resolve_100 (by decide) ?_
          exact k26 h25
        · refine lv_iconst (v := (0 : Int32)) hx hb d_Ref_resolve_96 (by decide) ?_
          refine lv_goto (tgt := 101) hx hb d_Ref_resolve_97 (by decide) ?_
          exact k27 h25
      refine k_cSi (As := [.int (rs (ix ((if p1 = (0 : Int32) then (16 : Int32) else (24 : Int32)) + (2 : Int32)))), .int (if (f_Ref_bit (rs 1) (14 : Int32)) = (0 : Int32) then (1 : Int32) else (0 : Int32))]) (rest := []) (wr := [(aT, .inr (11, [.ref bG, .ref bS, .ref bM, .int rl, .int rk, .int (0 : Int32), .int (-1 : Int32), .int rc, .int rd, .int ra, .int rb, .int rn, .int rf, .int rw])), (bG, .inl (dG, 32, .inl rg)), (bS, .inl (dS, 48, .inl rs)), (bM, .inl (dM, 16384, .inl rm))]) (wj := [(aT, .inr (11, [.ref bG, .ref bS, .ref bM, .int rl, .int rk, .int (0 : Int32), .int (-1 : Int32), .int rc, .int rd, .int ra, .int rb, .int rn, .int rf, .int rw])), (bG, .inl (dG, 32, .inl rg)), (bS, .inl (dS, 48, .inl rs)), (bM, .inl (dM, 16384, .inl rm))]) ⟨hx, hb, hml, hown, hB⟩ (c_Ref_bit l D (rs (ix ((if p1 = (0 : Int32) then (16 : Int32) else (24 : Int32)) + (2 : Int32)))) (if (f_Ref_bit (rs 1) (14 : Int32)) = (0 : Int32) then (1 : Int32) else (0 : Int32))) yl_Ref_bit mw_725 hK hN hP hD hS hA [] [] [0, 1, 2, 3] [0, 1, 2, 3] rfl rfl rfl rfl (by decide +kernel) rfl hl.1 rfl (Nat.le_of_ble_eq_true rfl) ⟨Nat.le_of_ble_eq_true rfl, Nat.le_of_ble_eq_true rfl⟩ d_Ref_resolve_101 ⟨Nat.le_of_ble_eq_true rfl, Nat.le_of_ble_eq_true rfl⟩ (fun H locs hP hD hS => ?_)
      refine lv_if_eq (tgt := 153) hx hb d_Ref_resolve_104 (by decide) (fun (h30 : (f_Ref_bit (rs (ix ((if p1 = (0 : Int32) then (16 : Int32) else (24 : Int32)) + (2 : Int32)))) (if (f_Ref_bit (rs 1) (14 : Int32)) = (0 : Int32) then (1 : Int32) else (0 : Int32))) = (0 : Int32)) => ?_) (fun (h30 : ¬ (f_Ref_bit (rs (ix ((if p1 = (0 : Int32) then (16 : Int32) else (24 : Int32)) + (2 : Int32)))) (if (f_Ref_bit (rs 1) (14 : Int32)) = (0 : Int32) then (1 : Int32) else (0 : Int32))) = (0 : Int32)) => ?_)
      · refine lv_iinc (v := (2 : Int32)) (lv' := [(4, .int (2 : Int32)), (6, .int (shl ((shr (rs (ix ((if p1 = (0 : Int32) then (16 : Int32) else (24 : Int32)) + (2 : Int32)))) (2 : Int32)) &&& (2047 : Int32)) (13 : Int32))), (5, .int (rs (ix ((if p1 = (0 : Int32) then (16 : Int32) else (24 : Int32)) + (2 : Int32))))), (3, .int (f_Ref_bit (rs 1) (14 : Int32))), (0, .ref aT), (1, .int p0), (2, .int p1)]) hx hb d_Ref_resolve_153 hl (k := 2) rfl (by decide) (by decide) rfl (fun ls hl => ?_)
        refine lv_goto (tgt := 48) hx hb d_Ref_resolve_156 (by decide) ?_
        refine lv_iload hx hb d_Ref_resolve_48 (lv_at hl 0 rfl) ?_
        refine lv_iconst (v := (4 : Int32)) hx hb d_Ref_resolve_50 (by decide) ?_
        refine lv_icmp_ge (tgt := 159) hx hb d_Ref_resolve_51 (by decide) (fun h31 => ?_) (fun h31 => ?_)
        · exact absurd h31 (by decide)
        refine lv_aload_n hx hb d_Ref_resolve_54 rfl (lv_at hl 4 rfl) ?_
        refine va_get (D := D) (ci := 11) (v := .ref bS) (C := "MappedProcessorModel") (T := T_Ref) (N := 14) hx hb hB iw_Ref hown hK hP 0 rfl rfl 1 (by decide) (hB _ mw_644) (fun _ h9 => h9) rfl d_Ref_resolve_55 ?_
        refine lv_iload_n hx hb d_Ref_resolve_58 rfl (lv_at hl 6 rfl) ?_
        refine k_join2 (c0 := p1 = (0 : Int32)) (x1 := (16 : Int32)) (x2 := (24 : Int32)) (rest := [.ref bS]) 69 ?_ (fun k33 k34 => ?_)
        rotate_left
        · refine lv_if_ne (tgt := 67) hx hb d_Ref_resolve_59 (by decide) (fun (h32 : ¬ p1 = (0 : Int32)) => ?_) (fun (h32 : p1 = (0 : Int32)) => ?_)
          · refine lv_bipush (v := (24 : Int32)) hx hb d_Ref_resolve_67 (by decide) ?_
            exact k34 h32
          · refine lv_bipush (v := (16 : Int32)) hx hb d_Ref_resolve_62 (by decide) ?_
            refine lv_goto (tgt := 69) hx hb d_Ref_resolve_64 (by decide) ?_
            exact k33 h32
        refine lv_iconst (v := (2 : Int32)) hx hb d_Ref_resolve_69 (by decide) ?_
        refine lv_iload hx hb d_Ref_resolve_70 (lv_at hl 0 rfl) ?_
        refine lv_imul hx hb d_Ref_resolve_72 ?_
        refine k_fold (4 : Int32) (by decide) ?_
        refine lv_iadd hx hb d_Ref_resolve_73 ?_
        refine k_iald (j := (ix ((if p1 = (0 : Int32) then (16 : Int32) else (24 : Int32)) + (4 : Int32)))) hx hb hK hP 2 1 rfl rfl rfl (by split <;> (unfold vp_in; decide)) d_Ref_resolve_74 ?_
        refine lv_istore (lv' := [(5, .int (rs (ix ((if p1 = (0 : Int32) then (16 : Int32) else (24 : Int32)) + (4 : Int32))))), (4, .int (2 : Int32)), (6, .int (shl ((shr (rs (ix ((if p1 = (0 : Int32) then (16 : Int32) else (24 : Int32)) + (2 : Int32)))) (2 : Int32)) &&& (2047 : Int32)) (13 : Int32))), (3, .int (f_Ref_bit (rs 1) (14 : Int32))), (0, .ref aT), (1, .int p0), (2, .int p1)]) hx hb d_Ref_resolve_75 hl (by decide) rfl (fun ls hl => ?_)
        refine lv_iload hx hb d_Ref_resolve_77 (lv_at hl 0 rfl) ?_
        refine lv_iconst (v := (2 : Int32)) hx hb d_Ref_resolve_79 (by decide) ?_
        refine lv_ishr hx hb d_Ref_resolve_80 ?_
        refine lv_sipush (v := (2047 : Int32)) hx hb d_Ref_resolve_81 (by decide) ?_
        refine lv_iand hx hb d_Ref_resolve_84 ?_
        refine lv_bipush (v := (13 : Int32)) hx hb d_Ref_resolve_85 (by decide) ?_
        refine lv_ishl hx hb d_Ref_resolve_87 ?_
        refine lv_istore (lv' := [(6, .int (shl ((shr (rs (ix ((if p1 = (0 : Int32) then (16 : Int32) else (24 : Int32)) + (4 : Int32)))) (2 : Int32)) &&& (2047 : Int32)) (13 : Int32))), (5, .int (rs (ix ((if p1 = (0 : Int32) then (16 : Int32) else (24 : Int32)) + (4 : Int32))))), (4, .int (2 : Int32)), (3, .int (f_Ref_bit (rs 1) (14 : Int32))), (0, .ref aT), (1, .int p0), (2, .int p1)]) hx hb d_Ref_resolve_88 hl (by decide) rfl (fun ls hl => ?_)
        refine lv_iload hx hb d_Ref_resolve_90 (lv_at hl 1 rfl) ?_
        refine lv_iload_n hx hb d_Ref_resolve_92 rfl (lv_at hl 3 rfl) ?_
        refine k_join2 (c0 := (f_Ref_bit (rs 1) (14 : Int32)) = (0 : Int32)) (x1 := (1 : Int32)) (x2 := (0 : Int32)) (rest := [.int (rs (ix ((if p1 = (0 : Int32) then (16 : Int32) else (24 : Int32)) + (4 : Int32))))]) 101 ?_ (fun k38 k39 => ?_)
        rotate_left
        · refine lv_if_eq (tgt := 100) hx hb d_Ref_resolve_93 (by decide) (fun (h37 : (f_Ref_bit (rs 1) (14 : Int32)) = (0 : Int32)) => ?_) (fun (h37 : ¬ (f_Ref_bit (rs 1) (14 : Int32)) = (0 : Int32)) => ?_)
          · refine lv_iconst (v := (1 : Int32)) hx hb d_Ref_resolve_100 (by decide) ?_
            exact k38 h37
          · refine lv_iconst (v := (0 : Int32)) hx hb d_Ref_resolve_96 (by decide) ?_
            refine lv_goto (tgt := 101) hx hb d_Ref_resolve_97 (by decide) ?_
            exact k39 h37
        refine k_cSi (As := [.int (rs (ix ((if p1 = (0 : Int32) then (16 : Int32) else (24 : Int32)) + (4 : Int32)))), .int (if (f_Ref_bit (rs 1) (14 : Int32)) = (0 : Int32) then (1 : Int32) else (0 : Int32))]) (rest := []) (wr := [(aT, .inr (11, [.ref bG, .ref bS, .ref bM, .int rl, .int rk, .int (0 : Int32), .int (-1 : Int32), .int rc, .int rd, .int ra, .int rb, .int rn, .int rf, .int rw])), (bG, .inl (dG, 32, .inl rg)), (bS, .inl (dS, 48, .inl rs)), (bM, .inl (dM, 16384, .inl rm))]) (wj := [(aT, .inr (11, [.ref bG, .ref bS, .ref bM, .int rl, .int rk, .int (0 : Int32), .int (-1 : Int32), .int rc, .int rd, .int ra, .int rb, .int rn, .int rf, .int rw])), (bG, .inl (dG, 32, .inl rg)), (bS, .inl (dS, 48, .inl rs)), (bM, .inl (dM, 16384, .inl rm))]) ⟨hx, hb, hml, hown, hB⟩ (c_Ref_bit l D (rs (ix ((if p1 = (0 : Int32) then (16 : Int32) else (24 : Int32)) + (4 : Int32)))) (if (f_Ref_bit (rs 1) (14 : Int32)) = (0 : Int32) then (1 : Int32) else (0 : Int32))) yl_Ref_bit mw_725 hK hN hP hD hS hA [] [] [0, 1, 2, 3] [0, 1, 2, 3] rfl rfl rfl rfl (by decide +kernel) rfl hl.1 rfl (Nat.le_of_ble_eq_true rfl) ⟨Nat.le_of_ble_eq_true rfl, Nat.le_of_ble_eq_true rfl⟩ d_Ref_resolve_101 ⟨Nat.le_of_ble_eq_true rfl, Nat.le_of_ble_eq_true rfl⟩ (fun H locs hP hD hS => ?_)
        refine lv_if_eq (tgt := 153) hx hb d_Ref_resolve_104 (by decide) (fun (h42 : (f_Ref_bit (rs (ix ((if p1 = (0 : Int32) then (16 : Int32) else (24 : Int32)) + (4 : Int32)))) (if (f_Ref_bit (rs 1) (14 : Int32)) = (0 : Int32) then (1 : Int32) else (0 : Int32))) = (0 : Int32)) => ?_) (fun (h42 : ¬ (f_Ref_bit (rs (ix ((if p1 = (0 : Int32) then (16 : Int32) else (24 : Int32)) + (4 : Int32)))) (if (f_Ref_bit (rs 1) (14 : Int32)) = (0 : Int32) then (1 : Int32) else (0 : Int32))) = (0 : Int32)) => ?_)
        · refine lv_iinc (v := (3 : Int32)) (lv' := [(4, .int (3 : Int32)), (6, .int (shl ((shr (rs (ix ((if p1 = (0 : Int32) then (16 : Int32) else (24 : Int32)) + (4 : Int32)))) (2 : Int32)) &&& (2047 : Int32)) (13 : Int32))), (5, .int (rs (ix ((if p1 = (0 : Int32) then (16 : Int32) else (24 : Int32)) + (4 : Int32))))), (3, .int (f_Ref_bit (rs 1) (14 : Int32))), (0, .ref aT), (1, .int p0), (2, .int p1)]) hx hb d_Ref_resolve_153 hl (k := 2) rfl (by decide) (by decide) rfl (fun ls hl => ?_)
          refine lv_goto (tgt := 48) hx hb d_Ref_resolve_156 (by decide) ?_
          refine lv_iload hx hb d_Ref_resolve_48 (lv_at hl 0 rfl) ?_
          refine lv_iconst (v := (4 : Int32)) hx hb d_Ref_resolve_50 (by decide) ?_
          refine lv_icmp_ge (tgt := 159) hx hb d_Ref_resolve_51 (by decide) (fun h43 => ?_) (fun h43 => ?_)
          · exact absurd h43 (by decide)
          refine lv_aload_n hx hb d_Ref_resolve_54 rfl (lv_at hl 4 rfl) ?_
          refine va_get (D := D) (ci := 11) (v := .ref bS) (C := "MappedProcessorModel") (T := T_Ref) (N := 14) hx hb hB iw_Ref hown hK hP 0 rfl rfl 1 (by decide) (hB _ mw_644) (fun _ h9 => h9) rfl d_Ref_resolve_55 ?_
          refine lv_iload_n hx hb d_Ref_resolve_58 rfl (lv_at hl 6 rfl) ?_
          refine k_join2 (c0 := p1 = (0 : Int32)) (x1 := (16 : Int32)) (x2 := (24 : Int32)) (rest := [.ref bS]) 69 ?_ (fun k45 k46 => ?_)
          rotate_left
          · refine lv_if_ne (tgt := 67) hx hb d_Ref_resolve_59 (by decide) (fun (h44 : ¬ p1 = (0 : Int32)) => ?_) (fun (h44 : p1 = (0 : Int32)) => ?_)
            · refine lv_bipush (v := (24 : Int32)) hx hb d_Ref_resolve_67 (by decide) ?_
              exact k46 h44
            · refine lv_bipush (v := (16 : Int32)) hx hb d_Ref_resolve_62 (by decide) ?_
              refine lv_goto (tgt := 69) hx hb d_Ref_resolve_64 (by decide) ?_
              exact k45 h44
          refine lv_iconst (v := (2 : Int32)) hx hb d_Ref_resolve_69 (by decide) ?_
          refine lv_iload hx hb d_Ref_resolve_70 (lv_at hl 0 rfl) ?_
          refine lv_imul hx hb d_Ref_resolve_72 ?_
          refine k_fold (6 : Int32) (by decide) ?_
          refine lv_iadd hx hb d_Ref_resolve_73 ?_
          refine k_iald (j := (ix ((if p1 = (0 : Int32) then (16 : Int32) else (24 : Int32)) + (6 : Int32)))) hx hb hK hP 2 1 rfl rfl rfl (by split <;> (unfold vp_in; decide)) d_Ref_resolve_74 ?_
          refine lv_istore (lv' := [(5, .int (rs (ix ((if p1 = (0 : Int32) then (16 : Int32) else (24 : Int32)) + (6 : Int32))))), (4, .int (3 : Int32)), (6, .int (shl ((shr (rs (ix ((if p1 = (0 : Int32) then (16 : Int32) else (24 : Int32)) + (4 : Int32)))) (2 : Int32)) &&& (2047 : Int32)) (13 : Int32))), (3, .int (f_Ref_bit (rs 1) (14 : Int32))), (0, .ref aT), (1, .int p0), (2, .int p1)]) hx hb d_Ref_resolve_75 hl (by decide) rfl (fun ls hl => ?_)
          refine lv_iload hx hb d_Ref_resolve_77 (lv_at hl 0 rfl) ?_
          refine lv_iconst (v := (2 : Int32)) hx hb d_Ref_resolve_79 (by decide) ?_
          refine lv_ishr hx hb d_Ref_resolve_80 ?_
          refine lv_sipush (v := (2047 : Int32)) hx hb d_Ref_resolve_81 (by decide) ?_
          refine lv_iand hx hb d_Ref_resolve_84 ?_
          refine lv_bipush (v := (13 : Int32)) hx hb d_Ref_resolve_85 (by decide) ?_
          refine lv_ishl hx hb d_Ref_resolve_87 ?_
          refine lv_istore (lv' := [(6, .int (shl ((shr (rs (ix ((if p1 = (0 : Int32) then (16 : Int32) else (24 : Int32)) + (6 : Int32)))) (2 : Int32)) &&& (2047 : Int32)) (13 : Int32))), (5, .int (rs (ix ((if p1 = (0 : Int32) then (16 : Int32) else (24 : Int32)) + (6 : Int32))))), (4, .int (3 : Int32)), (3, .int (f_Ref_bit (rs 1) (14 : Int32))), (0, .ref aT), (1, .int p0), (2, .int p1)]) hx hb d_Ref_resolve_88 hl (by decide) rfl (fun ls hl => ?_)
          refine lv_iload hx hb d_Ref_resolve_90 (lv_at hl 1 rfl) ?_
          refine lv_iload_n hx hb d_Ref_resolve_92 rfl (lv_at hl 3 rfl) ?_
          refine k_join2 (c0 := (f_Ref_bit (rs 1) (14 : Int32)) = (0 : Int32)) (x1 := (1 : Int32)) (x2 := (0 : Int32)) (rest := [.int (rs (ix ((if p1 = (0 : Int32) then (16 : Int32) else (24 : Int32)) + (6 : Int32))))]) 101 ?_ (fun k50 k51 => ?_)
          rotate_left
          · refine lv_if_eq (tgt := 100) hx hb d_Ref_resolve_93 (by decide) (fun (h49 : (f_Ref_bit (rs 1) (14 : Int32)) = (0 : Int32)) => ?_) (fun (h49 : ¬ (f_Ref_bit (rs 1) (14 : Int32)) = (0 : Int32)) => ?_)
            · refine lv_iconst (v := (1 : Int32)) hx hb d_Ref_resolve_100 (by decide) ?_
              exact k50 h49
            · refine lv_iconst (v := (0 : Int32)) hx hb d_Ref_resolve_96 (by decide) ?_
              refine lv_goto (tgt := 101) hx hb d_Ref_resolve_97 (by decide) ?_
              exact k51 h49
          refine k_cSi (As := [.int (rs (ix ((if p1 = (0 : Int32) then (16 : Int32) else (24 : Int32)) + (6 : Int32)))), .int (if (f_Ref_bit (rs 1) (14 : Int32)) = (0 : Int32) then (1 : Int32) else (0 : Int32))]) (rest := []) (wr := [(aT, .inr (11, [.ref bG, .ref bS, .ref bM, .int rl, .int rk, .int (0 : Int32), .int (-1 : Int32), .int rc, .int rd, .int ra, .int rb, .int rn, .int rf, .int rw])), (bG, .inl (dG, 32, .inl rg)), (bS, .inl (dS, 48, .inl rs)), (bM, .inl (dM, 16384, .inl rm))]) (wj := [(aT, .inr (11, [.ref bG, .ref bS, .ref bM, .int rl, .int rk, .int (0 : Int32), .int (-1 : Int32), .int rc, .int rd, .int ra, .int rb, .int rn, .int rf, .int rw])), (bG, .inl (dG, 32, .inl rg)), (bS, .inl (dS, 48, .inl rs)), (bM, .inl (dM, 16384, .inl rm))]) ⟨hx, hb, hml, hown, hB⟩ (c_Ref_bit l D (rs (ix ((if p1 = (0 : Int32) then (16 : Int32) else (24 : Int32)) + (6 : Int32)))) (if (f_Ref_bit (rs 1) (14 : Int32)) = (0 : Int32) then (1 : Int32) else (0 : Int32))) yl_Ref_bit mw_725 hK hN hP hD hS hA [] [] [0, 1, 2, 3] [0, 1, 2, 3] rfl rfl rfl rfl (by decide +kernel) rfl hl.1 rfl (Nat.le_of_ble_eq_true rfl) ⟨Nat.le_of_ble_eq_true rfl, Nat.le_of_ble_eq_true rfl⟩ d_Ref_resolve_101 ⟨Nat.le_of_ble_eq_true rfl, Nat.le_of_ble_eq_true rfl⟩ (fun H locs hP hD hS => ?_)
          refine lv_if_eq (tgt := 153) hx hb d_Ref_resolve_104 (by decide) (fun (h54 : (f_Ref_bit (rs (ix ((if p1 = (0 : Int32) then (16 : Int32) else (24 : Int32)) + (6 : Int32)))) (if (f_Ref_bit (rs 1) (14 : Int32)) = (0 : Int32) then (1 : Int32) else (0 : Int32))) = (0 : Int32)) => ?_) (fun (h54 : ¬ (f_Ref_bit (rs (ix ((if p1 = (0 : Int32) then (16 : Int32) else (24 : Int32)) + (6 : Int32)))) (if (f_Ref_bit (rs 1) (14 : Int32)) = (0 : Int32) then (1 : Int32) else (0 : Int32))) = (0 : Int32)) => ?_)
          · refine lv_iinc (v := (4 : Int32)) (lv' := [(4, .int (4 : Int32)), (6, .int (shl ((shr (rs (ix ((if p1 = (0 : Int32) then (16 : Int32) else (24 : Int32)) + (6 : Int32)))) (2 : Int32)) &&& (2047 : Int32)) (13 : Int32))), (5, .int (rs (ix ((if p1 = (0 : Int32) then (16 : Int32) else (24 : Int32)) + (6 : Int32))))), (3, .int (f_Ref_bit (rs 1) (14 : Int32))), (0, .ref aT), (1, .int p0), (2, .int p1)]) hx hb d_Ref_resolve_153 hl (k := 2) rfl (by decide) (by decide) rfl (fun ls hl => ?_)
            refine lv_goto (tgt := 48) hx hb d_Ref_resolve_156 (by decide) ?_
            refine lv_iload hx hb d_Ref_resolve_48 (lv_at hl 0 rfl) ?_
            refine lv_iconst (v := (4 : Int32)) hx hb d_Ref_resolve_50 (by decide) ?_
            refine lv_icmp_ge (tgt := 159) hx hb d_Ref_resolve_51 (by decide) (fun h55 => ?_) (fun h55 => ?_)
            rotate_left
            · exact absurd (by decide) h55
            refine lv_aload_n hx hb d_Ref_resolve_159 rfl (lv_at hl 4 rfl) ?_
            refine lv_iload_n hx hb d_Ref_resolve_160 rfl (lv_at hl 5 rfl) ?_
            refine lv_iload_n hx hb d_Ref_resolve_161 rfl (lv_at hl 6 rfl) ?_
            refine lv_iload_n hx hb d_Ref_resolve_162 rfl (lv_at hl 3 rfl) ?_
            let t56 := (f_Ref_paged p0 p1 (f_Ref_bit (rs 1) (14 : Int32)) rs rm (0 : Int32) (-1 : Int32))
            refine k_cVi (As := [.int p0, .int p1, .int (f_Ref_bit (rs 1) (14 : Int32))]) (rest := []) (wr := []) (wj := [(aT, .inr (11, [.ref bG, .ref bS, .ref bM, .int rl, .int rk, .int t56.2.1, .int t56.2.2, .int rc, .int rd, .int ra, .int rb, .int rn, .int rf, .int rw])), (bG, .inl (dG, 32, .inl rg)), (bS, .inl (dS, 48, .inl rs)), (bM, .inl (dM, 16384, .inl rm))]) ⟨hx, hb, hml, hown, hB⟩ (c_Ref_paged l D aT bG bS bM dG dS dM rg rs rm rl rk (0 : Int32) (-1 : Int32) rc rd ra rb rn rf rw p0 p1 (f_Ref_bit (rs 1) (14 : Int32))) yl_Ref_paged mw_732 hK hN hP hD hS hA [0, 1, 2] [0, 1, 2, 3] [] [0, 1, 2, 3] rfl rfl rfl rfl (by decide +kernel) 0 rfl rfl rfl rfl hl.1 rfl (Nat.le_of_ble_eq_true rfl) ⟨Nat.le_of_ble_eq_true rfl, Nat.le_of_ble_eq_true rfl⟩ d_Ref_resolve_163 ⟨Nat.le_of_ble_eq_true rfl, Nat.le_of_ble_eq_true rfl⟩ (fun H locs hP hD hS => ?_)
            have ef : f_Ref_resolve p0 p1 rs rm = (t56.1, t56.2.1, t56.2.2) := by unfold f_Ref_resolve; try dsimp only; rw [if_neg h6, if_pos h18, if_pos h30, if_pos h42, if_pos h54]
            exact k_iret hx hb hr hlocks hK hP hD hS [0, 1, 2, 3] rfl (by rw [ef] <;> rfl) (by rw [ef] <;> rfl) d_Ref_resolve_166
          · refine lv_iload_n hx hb d_Ref_resolve_107 rfl (lv_at hl 5 rfl) ?_
            refine lv_iload hx hb d_Ref_resolve_108 (lv_at hl 1 rfl) ?_
            refine lv_ixor hx hb d_Ref_resolve_110 ?_
            refine lv_iload hx hb d_Ref_resolve_111 (lv_at hl 0 rfl) ?_
            refine lv_iconst (v := (-1 : Int32)) hx hb d_Ref_resolve_113 (by decide) ?_
            refine lv_ixor hx hb d_Ref_resolve_114 ?_
            refine lv_iand hx hb d_Ref_resolve_115 ?_
            refine lv_sipush (v := (-8192 : Int32)) hx hb d_Ref_resolve_116 (by decide) ?_
            refine lv_iand hx hb d_Ref_resolve_119 ?_
            refine lv_if_ne (tgt := 153) hx hb d_Ref_resolve_120 (by decide) (fun (h57 : ¬ (((p0 ^^^ (rs (ix ((if p1 = (0 : Int32) then (16 : Int32) else (24 : Int32)) + (6 : Int32))))) &&& ((shl ((shr (rs (ix ((if p1 = (0 : Int32) then (16 : Int32) else (24 : Int32)) + (6 : Int32)))) (2 : Int32)) &&& (2047 : Int32)) (13 : Int32)) ^^^ (-1 : Int32))) &&& (-8192 : Int32)) = (0 : Int32)) => ?_) (fun (h57 : (((p0 ^^^ (rs (ix ((if p1 = (0 : Int32) then (16 : Int32) else (24 : Int32)) + (6 : Int32))))) &&& ((shl ((shr (rs (ix ((if p1 = (0 : Int32) then (16 : Int32) else (24 : Int32)) + (6 : Int32)))) (2 : Int32)) &&& (2047 : Int32)) (13 : Int32)) ^^^ (-1 : Int32))) &&& (-8192 : Int32)) = (0 : Int32)) => ?_)
            · refine lv_iinc (v := (4 : Int32)) (lv' := [(4, .int (4 : Int32)), (6, .int (shl ((shr (rs (ix ((if p1 = (0 : Int32) then (16 : Int32) else (24 : Int32)) + (6 : Int32)))) (2 : Int32)) &&& (2047 : Int32)) (13 : Int32))), (5, .int (rs (ix ((if p1 = (0 : Int32) then (16 : Int32) else (24 : Int32)) + (6 : Int32))))), (3, .int (f_Ref_bit (rs 1) (14 : Int32))), (0, .ref aT), (1, .int p0), (2, .int p1)]) hx hb d_Ref_resolve_153 hl (k := 2) rfl (by decide) (by decide) rfl (fun ls hl => ?_)
              refine lv_goto (tgt := 48) hx hb d_Ref_resolve_156 (by decide) ?_
              refine lv_iload hx hb d_Ref_resolve_48 (lv_at hl 0 rfl) ?_
              refine lv_iconst (v := (4 : Int32)) hx hb d_Ref_resolve_50 (by decide) ?_
              refine lv_icmp_ge (tgt := 159) hx hb d_Ref_resolve_51 (by decide) (fun h58 => ?_) (fun h58 => ?_)
              rotate_left
              · exact absurd (by decide) h58
              refine lv_aload_n hx hb d_Ref_resolve_159 rfl (lv_at hl 4 rfl) ?_
              refine lv_iload_n hx hb d_Ref_resolve_160 rfl (lv_at hl 5 rfl) ?_
              refine lv_iload_n hx hb d_Ref_resolve_161 rfl (lv_at hl 6 rfl) ?_
              refine lv_iload_n hx hb d_Ref_resolve_162 rfl (lv_at hl 3 rfl) ?_
              let t59 := (f_Ref_paged p0 p1 (f_Ref_bit (rs 1) (14 : Int32)) rs rm (0 : Int32) (-1 : Int32))
              refine k_cVi (As := [.int p0, .int p1, .int (f_Ref_bit (rs 1) (14 : Int32))]) (rest := []) (wr := []) (wj := [(aT, .inr (11, [.ref bG, .ref bS, .ref bM, .int rl, .int rk, .int t59.2.1, .int t59.2.2, .int rc, .int rd, .int ra, .int rb, .int rn, .int rf, .int rw])), (bG, .inl (dG, 32, .inl rg)), (bS, .inl (dS, 48, .inl rs)), (bM, .inl (dM, 16384, .inl rm))]) ⟨hx, hb, hml, hown, hB⟩ (c_Ref_paged l D aT bG bS bM dG dS dM rg rs rm rl rk (0 : Int32) (-1 : Int32) rc rd ra rb rn rf rw p0 p1 (f_Ref_bit (rs 1) (14 : Int32))) yl_Ref_paged mw_732 hK hN hP hD hS hA [0, 1, 2] [0, 1, 2, 3] [] [0, 1, 2, 3] rfl rfl rfl rfl (by decide +kernel) 0 rfl rfl rfl rfl hl.1 rfl (Nat.le_of_ble_eq_true rfl) ⟨Nat.le_of_ble_eq_true rfl, Nat.le_of_ble_eq_true rfl⟩ d_Ref_resolve_163 ⟨Nat.le_of_ble_eq_true rfl, Nat.le_of_ble_eq_true rfl⟩ (fun H locs hP hD hS => ?_)
              have ef : f_Ref_resolve p0 p1 rs rm = (t59.1, t59.2.1, t59.2.2) := by unfold f_Ref_resolve; try dsimp only; rw [if_neg h6, if_pos h18, if_pos h30, if_pos h42, if_neg h54, if_neg h57]
              exact k_iret hx hb hr hlocks hK hP hD hS [0, 1, 2, 3] rfl (by rw [ef] <;> rfl) (by rw [ef] <;> rfl) d_Ref_resolve_166
            · refine lv_aload_n hx hb d_Ref_resolve_123 rfl (lv_at hl 4 rfl) ?_
              refine lv_iload_n hx hb d_Ref_resolve_124 rfl (lv_at hl 5 rfl) ?_
              refine lv_aload_n hx hb d_Ref_resolve_125 rfl (lv_at hl 4 rfl) ?_
              refine va_get (D := D) (ci := 11) (v := .ref bS) (C := "MappedProcessorModel") (T := T_Ref) (N := 14) hx hb hB iw_Ref hown hK hP 0 rfl rfl 1 (by decide) (hB _ mw_644) (fun _ h9 => h9) rfl d_Ref_resolve_126 ?_
              refine lv_iload_n hx hb d_Ref_resolve_129 rfl (lv_at hl 6 rfl) ?_
              refine k_join2 (c0 := p1 = (0 : Int32)) (x1 := (17 : Int32)) (x2 := (25 : Int32)) (rest := [.ref bS, .int p0, .ref aT]) 140 ?_ (fun k61 k62 => ?_)
              rotate_left
              · refine lv_if_ne (tgt := 138) hx hb d_Ref_resolve_130 (by decide) (fun (h60 : ¬ p1 = (0 : Int32)) => ?_) (fun (h60 : p1 = (0 : Int32)) => ?_)
                · refine lv_bipush (v := (25 : Int32)) hx hb d_Ref_resolve_138 (by decide) ?_
                  exact k62 h60
                · refine lv_bipush (v := (17 : Int32)) hx hb d_Ref_resolve_133 (by decide) ?_
                  refine lv_goto (tgt := 140) hx hb d_Ref_resolve_135 (by decide) ?_
                  exact k61 h60
              refine lv_iconst (v := (2 : Int32)) hx hb d_Ref_resolve_140 (by decide) ?_
              refine lv_iload hx hb d_Ref_resolve_141 (lv_at hl 2 rfl) ?_
              refine lv_imul hx hb d_Ref_resolve_143 ?_
              refine k_fold (6 : Int32) (by decide) ?_
              refine lv_iadd hx hb d_Ref_resolve_144 ?_
              refine k_iald (j := (ix ((if p1 = (0 : Int32) then (17 : Int32) else (25 : Int32)) + (6 : Int32)))) hx hb hK hP 2 1 rfl rfl rfl (by split <;> (unfold vp_in; decide)) d_Ref_resolve_145 ?_
              refine lv_iload hx hb d_Ref_resolve_146 (lv_at hl 0 rfl) ?_
              refine lv_iload_n hx hb d_Ref_resolve_148 rfl (lv_at hl 6 rfl) ?_
              let t65 := (f_Ref_block p0 (rs (ix ((if p1 = (0 : Int32) then (17 : Int32) else (25 : Int32)) + (6 : Int32)))) (shl ((shr (rs (ix ((if p1 = (0 : Int32) then (16 : Int32) else (24 : Int32)) + (6 : Int32)))) (2 : Int32)) &&& (2047 : Int32)) (13 : Int32)) p1 (0 : Int32))
              refine k_cVi (As := [.int p0, .int (rs (ix ((if p1 = (0 : Int32) then (17 : Int32) else (25 : Int32)) + (6 : Int32)))), .int (shl ((shr (rs (ix ((if p1 = (0 : Int32) then (16 : Int32) else (24 : Int32)) + (6 : Int32)))) (2 : Int32)) &&& (2047 : Int32)) (13 : Int32)), .int p1]) (rest := []) (wr := []) (wj := [(aT, .inr (11, [.ref bG, .ref bS, .ref bM, .int rl, .int rk, .int t65.2, .int (-1 : Int32), .int rc, .int rd, .int ra, .int rb, .int rn, .int rf, .int rw])), (bG, .inl (dG, 32, .inl rg)), (bS, .inl (dS, 48, .inl rs)), (bM, .inl (dM, 16384, .inl rm))]) ⟨hx, hb, hml, hown, hB⟩ (c_Ref_block l D aT bG bS bM dG dS dM rg rs rm rl rk (0 : Int32) (-1 : Int32) rc rd ra rb rn rf rw p0 (rs (ix ((if p1 = (0 : Int32) then (17 : Int32) else (25 : Int32)) + (6 : Int32)))) (shl ((shr (rs (ix ((if p1 = (0 : Int32) then (16 : Int32) else (24 : Int32)) + (6 : Int32)))) (2 : Int32)) &&& (2047 : Int32)) (13 : Int32)) p1) yl_Ref_block mw_728 hK hN hP hD hS hA [0, 1, 2] [0, 1, 2, 3] [] [0, 1, 2, 3] rfl rfl rfl rfl (by decide +kernel) 0 rfl rfl rfl rfl hl.1 rfl (Nat.le_of_ble_eq_true rfl) ⟨Nat.le_of_ble_eq_true rfl, Nat.le_of_ble_eq_true rfl⟩ d_Ref_resolve_149 ⟨Nat.le_of_ble_eq_true rfl, Nat.le_of_ble_eq_true rfl⟩ (fun H locs hP hD hS => ?_)
              have ef : f_Ref_resolve p0 p1 rs rm = (t65.1, t65.2, (-1 : Int32)) := by unfold f_Ref_resolve; try dsimp only; rw [if_neg h6, if_pos h18, if_pos h30, if_pos h42, if_neg h54, if_pos h57]
              exact k_iret hx hb hr hlocks hK hP hD hS [0, 1, 2, 3] rfl (by rw [ef] <;> rfl) (by rw [ef] <;> rfl) d_Ref_resolve_152
        · refine lv_iload_n hx hb d_Ref_resolve_107 rfl (lv_at hl 5 rfl) ?_
          refine lv_iload hx hb d_Ref_resolve_108 (lv_at hl 1 rfl) ?_
          refine lv_ixor hx hb d_Ref_resolve_110 ?_
          refine lv_iload hx hb d_Ref_resolve_111 (lv_at hl 0 rfl) ?_
          refine lv_iconst (v := (-1 : Int32)) hx hb d_Ref_resolve_113 (by decide) ?_
          refine lv_ixor hx hb d_Ref_resolve_114 ?_
          refine lv_iand hx hb d_Ref_resolve_115 ?_
          refine lv_sipush (v := (-8192 : Int32)) hx hb d_Ref_resolve_116 (by decide) ?_
          refine lv_iand hx hb d_Ref_resolve_119 ?_
          refine lv_if_ne (tgt := 153) hx hb d_Ref_resolve_120 (by decide) (fun (h66 : ¬ (((p0 ^^^ (rs (ix ((if p1 = (0 : Int32) then (16 : Int32) else (24 : Int32)) + (4 : Int32))))) &&& ((shl ((shr (rs (ix ((if p1 = (0 : Int32) then (16 : Int32) else (24 : Int32)) + (4 : Int32)))) (2 : Int32)) &&& (2047 : Int32)) (13 : Int32)) ^^^ (-1 : Int32))) &&& (-8192 : Int32)) = (0 : Int32)) => ?_) (fun (h66 : (((p0 ^^^ (rs (ix ((if p1 = (0 : Int32) then (16 : Int32) else (24 : Int32)) + (4 : Int32))))) &&& ((shl ((shr (rs (ix ((if p1 = (0 : Int32) then (16 : Int32) else (24 : Int32)) + (4 : Int32)))) (2 : Int32)) &&& (2047 : Int32)) (13 : Int32)) ^^^ (-1 : Int32))) &&& (-8192 : Int32)) = (0 : Int32)) => ?_)
          · refine lv_iinc (v := (3 : Int32)) (lv' := [(4, .int (3 : Int32)), (6, .int (shl ((shr (rs (ix ((if p1 = (0 : Int32) then (16 : Int32) else (24 : Int32)) + (4 : Int32)))) (2 : Int32)) &&& (2047 : Int32)) (13 : Int32))), (5, .int (rs (ix ((if p1 = (0 : Int32) then (16 : Int32) else (24 : Int32)) + (4 : Int32))))), (3, .int (f_Ref_bit (rs 1) (14 : Int32))), (0, .ref aT), (1, .int p0), (2, .int p1)]) hx hb d_Ref_resolve_153 hl (k := 2) rfl (by decide) (by decide) rfl (fun ls hl => ?_)
            refine lv_goto (tgt := 48) hx hb d_Ref_resolve_156 (by decide) ?_
            refine lv_iload hx hb d_Ref_resolve_48 (lv_at hl 0 rfl) ?_
            refine lv_iconst (v := (4 : Int32)) hx hb d_Ref_resolve_50 (by decide) ?_
            refine lv_icmp_ge (tgt := 159) hx hb d_Ref_resolve_51 (by decide) (fun h67 => ?_) (fun h67 => ?_)
            · exact absurd h67 (by decide)
            refine lv_aload_n hx hb d_Ref_resolve_54 rfl (lv_at hl 4 rfl) ?_
            refine va_get (D := D) (ci := 11) (v := .ref bS) (C := "MappedProcessorModel") (T := T_Ref) (N := 14) hx hb hB iw_Ref hown hK hP 0 rfl rfl 1 (by decide) (hB _ mw_644) (fun _ h9 => h9) rfl d_Ref_resolve_55 ?_
            refine lv_iload_n hx hb d_Ref_resolve_58 rfl (lv_at hl 6 rfl) ?_
            refine k_join2 (c0 := p1 = (0 : Int32)) (x1 := (16 : Int32)) (x2 := (24 : Int32)) (rest := [.ref bS]) 69 ?_ (fun k69 k70 => ?_)
            rotate_left
            · refine lv_if_ne (tgt := 67) hx hb d_Ref_resolve_59 (by decide) (fun (h68 : ¬ p1 = (0 : Int32)) => ?_) (fun (h68 : p1 = (0 : Int32)) => ?_)
              · refine lv_bipush (v := (24 : Int32)) hx hb d_Ref_resolve_67 (by decide) ?_
                exact k70 h68
              · refine lv_bipush (v := (16 : Int32)) hx hb d_Ref_resolve_62 (by decide) ?_
                refine lv_goto (tgt := 69) hx hb d_Ref_resolve_64 (by decide) ?_
                exact k69 h68
            refine lv_iconst (v := (2 : Int32)) hx hb d_Ref_resolve_69 (by decide) ?_
            refine lv_iload hx hb d_Ref_resolve_70 (lv_at hl 0 rfl) ?_
            refine lv_imul hx hb d_Ref_resolve_72 ?_
            refine k_fold (6 : Int32) (by decide) ?_
            refine lv_iadd hx hb d_Ref_resolve_73 ?_
            refine k_iald (j := (ix ((if p1 = (0 : Int32) then (16 : Int32) else (24 : Int32)) + (6 : Int32)))) hx hb hK hP 2 1 rfl rfl rfl (by split <;> (unfold vp_in; decide)) d_Ref_resolve_74 ?_
            refine lv_istore (lv' := [(5, .int (rs (ix ((if p1 = (0 : Int32) then (16 : Int32) else (24 : Int32)) + (6 : Int32))))), (4, .int (3 : Int32)), (6, .int (shl ((shr (rs (ix ((if p1 = (0 : Int32) then (16 : Int32) else (24 : Int32)) + (4 : Int32)))) (2 : Int32)) &&& (2047 : Int32)) (13 : Int32))), (3, .int (f_Ref_bit (rs 1) (14 : Int32))), (0, .ref aT), (1, .int p0), (2, .int p1)]) hx hb d_Ref_resolve_75 hl (by decide) rfl (fun ls hl => ?_)
            refine lv_iload hx hb d_Ref_resolve_77 (lv_at hl 0 rfl) ?_
            refine lv_iconst (v := (2 : Int32)) hx hb d_Ref_resolve_79 (by decide) ?_
            refine lv_ishr hx hb d_Ref_resolve_80 ?_
            refine lv_sipush (v := (2047 : Int32)) hx hb d_Ref_resolve_81 (by decide) ?_
            refine lv_iand hx hb d_Ref_resolve_84 ?_
            refine lv_bipush (v := (13 : Int32)) hx hb d_Ref_resolve_85 (by decide) ?_
            refine lv_ishl hx hb d_Ref_resolve_87 ?_
            refine lv_istore (lv' := [(6, .int (shl ((shr (rs (ix ((if p1 = (0 : Int32) then (16 : Int32) else (24 : Int32)) + (6 : Int32)))) (2 : Int32)) &&& (2047 : Int32)) (13 : Int32))), (5, .int (rs (ix ((if p1 = (0 : Int32) then (16 : Int32) else (24 : Int32)) + (6 : Int32))))), (4, .int (3 : Int32)), (3, .int (f_Ref_bit (rs 1) (14 : Int32))), (0, .ref aT), (1, .int p0), (2, .int p1)]) hx hb d_Ref_resolve_88 hl (by decide) rfl (fun ls hl => ?_)
            refine lv_iload hx hb d_Ref_resolve_90 (lv_at hl 1 rfl) ?_
            refine lv_iload_n hx hb d_Ref_resolve_92 rfl (lv_at hl 3 rfl) ?_
            refine k_join2 (c0 := (f_Ref_bit (rs 1) (14 : Int32)) = (0 : Int32)) (x1 := (1 : Int32)) (x2 := (0 : Int32)) (rest := [.int (rs (ix ((if p1 = (0 : Int32) then (16 : Int32) else (24 : Int32)) + (6 : Int32))))]) 101 ?_ (fun k74 k75 => ?_)
            rotate_left
            · refine lv_if_eq (tgt := 100) hx hb d_Ref_resolve_93 (by decide) (fun (h73 : (f_Ref_bit (rs 1) (14 : Int32)) = (0 : Int32)) => ?_) (fun (h73 : ¬ (f_Ref_bit (rs 1) (14 : Int32)) = (0 : Int32)) => ?_)
              · refine lv_iconst (v := (1 : Int32)) hx hb d_Ref_resolve_100 (by decide) ?_
                exact k74 h73
              · refine lv_iconst (v := (0 : Int32)) hx hb d_Ref_resolve_96 (by decide) ?_
                refine lv_goto (tgt := 101) hx hb d_Ref_resolve_97 (by decide) ?_
                exact k75 h73
            refine k_cSi (As := [.int (rs (ix ((if p1 = (0 : Int32) then (16 : Int32) else (24 : Int32)) + (6 : Int32)))), .int (if (f_Ref_bit (rs 1) (14 : Int32)) = (0 : Int32) then (1 : Int32) else (0 : Int32))]) (rest := []) (wr := [(aT, .inr (11, [.ref bG, .ref bS, .ref bM, .int rl, .int rk, .int (0 : Int32), .int (-1 : Int32), .int rc, .int rd, .int ra, .int rb, .int rn, .int rf, .int rw])), (bG, .inl (dG, 32, .inl rg)), (bS, .inl (dS, 48, .inl rs)), (bM, .inl (dM, 16384, .inl rm))]) (wj := [(aT, .inr (11, [.ref bG, .ref bS, .ref bM, .int rl, .int rk, .int (0 : Int32), .int (-1 : Int32), .int rc, .int rd, .int ra, .int rb, .int rn, .int rf, .int rw])), (bG, .inl (dG, 32, .inl rg)), (bS, .inl (dS, 48, .inl rs)), (bM, .inl (dM, 16384, .inl rm))]) ⟨hx, hb, hml, hown, hB⟩ (c_Ref_bit l D (rs (ix ((if p1 = (0 : Int32) then (16 : Int32) else (24 : Int32)) + (6 : Int32)))) (if (f_Ref_bit (rs 1) (14 : Int32)) = (0 : Int32) then (1 : Int32) else (0 : Int32))) yl_Ref_bit mw_725 hK hN hP hD hS hA [] [] [0, 1, 2, 3] [0, 1, 2, 3] rfl rfl rfl rfl (by decide +kernel) rfl hl.1 rfl (Nat.le_of_ble_eq_true rfl) ⟨Nat.le_of_ble_eq_true rfl, Nat.le_of_ble_eq_true rfl⟩ d_Ref_resolve_101 ⟨Nat.le_of_ble_eq_true rfl, Nat.le_of_ble_eq_true rfl⟩ (fun H locs hP hD hS => ?_)
            refine lv_if_eq (tgt := 153) hx hb d_Ref_resolve_104 (by decide) (fun (h78 : (f_Ref_bit (rs (ix ((if p1 = (0 : Int32) then (16 : Int32) else (24 : Int32)) + (6 : Int32)))) (if (f_Ref_bit (rs 1) (14 : Int32)) = (0 : Int32) then (1 : Int32) else (0 : Int32))) = (0 : Int32)) => ?_) (fun (h78 : ¬ (f_Ref_bit (rs (ix ((if p1 = (0 : Int32) then (16 : Int32) else (24 : Int32)) + (6 : Int32)))) (if (f_Ref_bit (rs 1) (14 : Int32)) = (0 : Int32) then (1 : Int32) else (0 : Int32))) = (0 : Int32)) => ?_)
            · refine lv_iinc (v := (4 : Int32)) (lv' := [(4, .int (4 : Int32)), (6, .int (shl ((shr (rs (ix ((if p1 = (0 : Int32) then (16 : Int32) else (24 : Int32)) + (6 : Int32)))) (2 : Int32)) &&& (2047 : Int32)) (13 : Int32))), (5, .int (rs (ix ((if p1 = (0 : Int32) then (16 : Int32) else (24 : Int32)) + (6 : Int32))))), (3, .int (f_Ref_bit (rs 1) (14 : Int32))), (0, .ref aT), (1, .int p0), (2, .int p1)]) hx hb d_Ref_resolve_153 hl (k := 2) rfl (by decide) (by decide) rfl (fun ls hl => ?_)
              refine lv_goto (tgt := 48) hx hb d_Ref_resolve_156 (by decide) ?_
              refine lv_iload hx hb d_Ref_resolve_48 (lv_at hl 0 rfl) ?_
              refine lv_iconst (v := (4 : Int32)) hx hb d_Ref_resolve_50 (by decide) ?_
              refine lv_icmp_ge (tgt := 159) hx hb d_Ref_resolve_51 (by decide) (fun h79 => ?_) (fun h79 => ?_)
              rotate_left
              · exact absurd (by decide) h79
              refine lv_aload_n hx hb d_Ref_resolve_159 rfl (lv_at hl 4 rfl) ?_
              refine lv_iload_n hx hb d_Ref_resolve_160 rfl (lv_at hl 5 rfl) ?_
              refine lv_iload_n hx hb d_Ref_resolve_161 rfl (lv_at hl 6 rfl) ?_
              refine lv_iload_n hx hb d_Ref_resolve_162 rfl (lv_at hl 3 rfl) ?_
              let t80 := (f_Ref_paged p0 p1 (f_Ref_bit (rs 1) (14 : Int32)) rs rm (0 : Int32) (-1 : Int32))
              refine k_cVi (As := [.int p0, .int p1, .int (f_Ref_bit (rs 1) (14 : Int32))]) (rest := []) (wr := []) (wj := [(aT, .inr (11, [.ref bG, .ref bS, .ref bM, .int rl, .int rk, .int t80.2.1, .int t80.2.2, .int rc, .int rd, .int ra, .int rb, .int rn, .int rf, .int rw])), (bG, .inl (dG, 32, .inl rg)), (bS, .inl (dS, 48, .inl rs)), (bM, .inl (dM, 16384, .inl rm))]) ⟨hx, hb, hml, hown, hB⟩ (c_Ref_paged l D aT bG bS bM dG dS dM rg rs rm rl rk (0 : Int32) (-1 : Int32) rc rd ra rb rn rf rw p0 p1 (f_Ref_bit (rs 1) (14 : Int32))) yl_Ref_paged mw_732 hK hN hP hD hS hA [0, 1, 2] [0, 1, 2, 3] [] [0, 1, 2, 3] rfl rfl rfl rfl (by decide +kernel) 0 rfl rfl rfl rfl hl.1 rfl (Nat.le_of_ble_eq_true rfl) ⟨Nat.le_of_ble_eq_true rfl, Nat.le_of_ble_eq_true rfl⟩ d_Ref_resolve_163 ⟨Nat.le_of_ble_eq_true rfl, Nat.le_of_ble_eq_true rfl⟩ (fun H locs hP hD hS => ?_)
              have ef : f_Ref_resolve p0 p1 rs rm = (t80.1, t80.2.1, t80.2.2) := by unfold f_Ref_resolve; try dsimp only; rw [if_neg h6, if_pos h18, if_pos h30, if_neg h42, if_neg h66, if_pos h78]
              exact k_iret hx hb hr hlocks hK hP hD hS [0, 1, 2, 3] rfl (by rw [ef] <;> rfl) (by rw [ef] <;> rfl) d_Ref_resolve_166
            · refine lv_iload_n hx hb d_Ref_resolve_107 rfl (lv_at hl 5 rfl) ?_
              refine lv_iload hx hb d_Ref_resolve_108 (lv_at hl 1 rfl) ?_
              refine lv_ixor hx hb d_Ref_resolve_110 ?_
              refine lv_iload hx hb d_Ref_resolve_111 (lv_at hl 0 rfl) ?_
              refine lv_iconst (v := (-1 : Int32)) hx hb d_Ref_resolve_113 (by decide) ?_
              refine lv_ixor hx hb d_Ref_resolve_114 ?_
              refine lv_iand hx hb d_Ref_resolve_115 ?_
              refine lv_sipush (v := (-8192 : Int32)) hx hb d_Ref_resolve_116 (by decide) ?_
              refine lv_iand hx hb d_Ref_resolve_119 ?_
              refine lv_if_ne (tgt := 153) hx hb d_Ref_resolve_120 (by decide) (fun (h81 : ¬ (((p0 ^^^ (rs (ix ((if p1 = (0 : Int32) then (16 : Int32) else (24 : Int32)) + (6 : Int32))))) &&& ((shl ((shr (rs (ix ((if p1 = (0 : Int32) then (16 : Int32) else (24 : Int32)) + (6 : Int32)))) (2 : Int32)) &&& (2047 : Int32)) (13 : Int32)) ^^^ (-1 : Int32))) &&& (-8192 : Int32)) = (0 : Int32)) => ?_) (fun (h81 : (((p0 ^^^ (rs (ix ((if p1 = (0 : Int32) then (16 : Int32) else (24 : Int32)) + (6 : Int32))))) &&& ((shl ((shr (rs (ix ((if p1 = (0 : Int32) then (16 : Int32) else (24 : Int32)) + (6 : Int32)))) (2 : Int32)) &&& (2047 : Int32)) (13 : Int32)) ^^^ (-1 : Int32))) &&& (-8192 : Int32)) = (0 : Int32)) => ?_)
              · refine lv_iinc (v := (4 : Int32)) (lv' := [(4, .int (4 : Int32)), (6, .int (shl ((shr (rs (ix ((if p1 = (0 : Int32) then (16 : Int32) else (24 : Int32)) + (6 : Int32)))) (2 : Int32)) &&& (2047 : Int32)) (13 : Int32))), (5, .int (rs (ix ((if p1 = (0 : Int32) then (16 : Int32) else (24 : Int32)) + (6 : Int32))))), (3, .int (f_Ref_bit (rs 1) (14 : Int32))), (0, .ref aT), (1, .int p0), (2, .int p1)]) hx hb d_Ref_resolve_153 hl (k := 2) rfl (by decide) (by decide) rfl (fun ls hl => ?_)
                refine lv_goto (tgt := 48) hx hb d_Ref_resolve_156 (by decide) ?_
                refine lv_iload hx hb d_Ref_resolve_48 (lv_at hl 0 rfl) ?_
                refine lv_iconst (v := (4 : Int32)) hx hb d_Ref_resolve_50 (by decide) ?_
                refine lv_icmp_ge (tgt := 159) hx hb d_Ref_resolve_51 (by decide) (fun h82 => ?_) (fun h82 => ?_)
                rotate_left
                · exact absurd (by decide) h82
                refine lv_aload_n hx hb d_Ref_resolve_159 rfl (lv_at hl 4 rfl) ?_
                refine lv_iload_n hx hb d_Ref_resolve_160 rfl (lv_at hl 5 rfl) ?_
                refine lv_iload_n hx hb d_Ref_resolve_161 rfl (lv_at hl 6 rfl) ?_
                refine lv_iload_n hx hb d_Ref_resolve_162 rfl (lv_at hl 3 rfl) ?_
                let t83 := (f_Ref_paged p0 p1 (f_Ref_bit (rs 1) (14 : Int32)) rs rm (0 : Int32) (-1 : Int32))
                refine k_cVi (As := [.int p0, .int p1, .int (f_Ref_bit (rs 1) (14 : Int32))]) (rest := []) (wr := []) (wj := [(aT, .inr (11, [.ref bG, .ref bS, .ref bM, .int rl, .int rk, .int t83.2.1, .int t83.2.2, .int rc, .int rd, .int ra, .int rb, .int rn, .int rf, .int rw])), (bG, .inl (dG, 32, .inl rg)), (bS, .inl (dS, 48, .inl rs)), (bM, .inl (dM, 16384, .inl rm))]) ⟨hx, hb, hml, hown, hB⟩ (c_Ref_paged l D aT bG bS bM dG dS dM rg rs rm rl rk (0 : Int32) (-1 : Int32) rc rd ra rb rn rf rw p0 p1 (f_Ref_bit (rs 1) (14 : Int32))) yl_Ref_paged mw_732 hK hN hP hD hS hA [0, 1, 2] [0, 1, 2, 3] [] [0, 1, 2, 3] rfl rfl rfl rfl (by decide +kernel) 0 rfl rfl rfl rfl hl.1 rfl (Nat.le_of_ble_eq_true rfl) ⟨Nat.le_of_ble_eq_true rfl, Nat.le_of_ble_eq_true rfl⟩ d_Ref_resolve_163 ⟨Nat.le_of_ble_eq_true rfl, Nat.le_of_ble_eq_true rfl⟩ (fun H locs hP hD hS => ?_)
                have ef : f_Ref_resolve p0 p1 rs rm = (t83.1, t83.2.1, t83.2.2) := by unfold f_Ref_resolve; try dsimp only; rw [if_neg h6, if_pos h18, if_pos h30, if_neg h42, if_neg h66, if_neg h78, if_neg h81]
                exact k_iret hx hb hr hlocks hK hP hD hS [0, 1, 2, 3] rfl (by rw [ef] <;> rfl) (by rw [ef] <;> rfl) d_Ref_resolve_166
              · refine lv_aload_n hx hb d_Ref_resolve_123 rfl (lv_at hl 4 rfl) ?_
                refine lv_iload_n hx hb d_Ref_resolve_124 rfl (lv_at hl 5 rfl) ?_
                refine lv_aload_n hx hb d_Ref_resolve_125 rfl (lv_at hl 4 rfl) ?_
                refine va_get (D := D) (ci := 11) (v := .ref bS) (C := "MappedProcessorModel") (T := T_Ref) (N := 14) hx hb hB iw_Ref hown hK hP 0 rfl rfl 1 (by decide) (hB _ mw_644) (fun _ h9 => h9) rfl d_Ref_resolve_126 ?_
                refine lv_iload_n hx hb d_Ref_resolve_129 rfl (lv_at hl 6 rfl) ?_
                refine k_join2 (c0 := p1 = (0 : Int32)) (x1 := (17 : Int32)) (x2 := (25 : Int32)) (rest := [.ref bS, .int p0, .ref aT]) 140 ?_ (fun k85 k86 => ?_)
                rotate_left
                · refine lv_if_ne (tgt := 138) hx hb d_Ref_resolve_130 (by decide) (fun (h84 : ¬ p1 = (0 : Int32)) => ?_) (fun (h84 : p1 = (0 : Int32)) => ?_)
                  · refine lv_bipush (v := (25 : Int32)) hx hb d_Ref_resolve_138 (by decide) ?_
                    exact k86 h84
                  · refine lv_bipush (v := (17 : Int32)) hx hb d_Ref_resolve_133 (by decide) ?_
                    refine lv_goto (tgt := 140) hx hb d_Ref_resolve_135 (by decide) ?_
                    exact k85 h84
                refine lv_iconst (v := (2 : Int32)) hx hb d_Ref_resolve_140 (by decide) ?_
                refine lv_iload hx hb d_Ref_resolve_141 (lv_at hl 2 rfl) ?_
                refine lv_imul hx hb d_Ref_resolve_143 ?_
                refine k_fold (6 : Int32) (by decide) ?_
                refine lv_iadd hx hb d_Ref_resolve_144 ?_
                refine k_iald (j := (ix ((if p1 = (0 : Int32) then (17 : Int32) else (25 : Int32)) + (6 : Int32)))) hx hb hK hP 2 1 rfl rfl rfl (by split <;> (unfold vp_in; decide)) d_Ref_resolve_145 ?_
                refine lv_iload hx hb d_Ref_resolve_146 (lv_at hl 0 rfl) ?_
                refine lv_iload_n hx hb d_Ref_resolve_148 rfl (lv_at hl 6 rfl) ?_
                let t89 := (f_Ref_block p0 (rs (ix ((if p1 = (0 : Int32) then (17 : Int32) else (25 : Int32)) + (6 : Int32)))) (shl ((shr (rs (ix ((if p1 = (0 : Int32) then (16 : Int32) else (24 : Int32)) + (6 : Int32)))) (2 : Int32)) &&& (2047 : Int32)) (13 : Int32)) p1 (0 : Int32))
                refine k_cVi (As := [.int p0, .int (rs (ix ((if p1 = (0 : Int32) then (17 : Int32) else (25 : Int32)) + (6 : Int32)))), .int (shl ((shr (rs (ix ((if p1 = (0 : Int32) then (16 : Int32) else (24 : Int32)) + (6 : Int32)))) (2 : Int32)) &&& (2047 : Int32)) (13 : Int32)), .int p1]) (rest := []) (wr := []) (wj := [(aT, .inr (11, [.ref bG, .ref bS, .ref bM, .int rl, .int rk, .int t89.2, .int (-1 : Int32), .int rc, .int rd, .int ra, .int rb, .int rn, .int rf, .int rw])), (bG, .inl (dG, 32, .inl rg)), (bS, .inl (dS, 48, .inl rs)), (bM, .inl (dM, 16384, .inl rm))]) ⟨hx, hb, hml, hown, hB⟩ (c_Ref_block l D aT bG bS bM dG dS dM rg rs rm rl rk (0 : Int32) (-1 : Int32) rc rd ra rb rn rf rw p0 (rs (ix ((if p1 = (0 : Int32) then (17 : Int32) else (25 : Int32)) + (6 : Int32)))) (shl ((shr (rs (ix ((if p1 = (0 : Int32) then (16 : Int32) else (24 : Int32)) + (6 : Int32)))) (2 : Int32)) &&& (2047 : Int32)) (13 : Int32)) p1) yl_Ref_block mw_728 hK hN hP hD hS hA [0, 1, 2] [0, 1, 2, 3] [] [0, 1, 2, 3] rfl rfl rfl rfl (by decide +kernel) 0 rfl rfl rfl rfl hl.1 rfl (Nat.le_of_ble_eq_true rfl) ⟨Nat.le_of_ble_eq_true rfl, Nat.le_of_ble_eq_true rfl⟩ d_Ref_resolve_149 ⟨Nat.le_of_ble_eq_true rfl, Nat.le_of_ble_eq_true rfl⟩ (fun H locs hP hD hS => ?_)
                have ef : f_Ref_resolve p0 p1 rs rm = (t89.1, t89.2, (-1 : Int32)) := by unfold f_Ref_resolve; try dsimp only; rw [if_neg h6, if_pos h18, if_pos h30, if_neg h42, if_neg h66, if_neg h78, if_pos h81]
                exact k_iret hx hb hr hlocks hK hP hD hS [0, 1, 2, 3] rfl (by rw [ef] <;> rfl) (by rw [ef] <;> rfl) d_Ref_resolve_152
          · refine lv_aload_n hx hb d_Ref_resolve_123 rfl (lv_at hl 4 rfl) ?_
            refine lv_iload_n hx hb d_Ref_resolve_124 rfl (lv_at hl 5 rfl) ?_
            refine lv_aload_n hx hb d_Ref_resolve_125 rfl (lv_at hl 4 rfl) ?_
            refine va_get (D := D) (ci := 11) (v := .ref bS) (C := "MappedProcessorModel") (T := T_Ref) (N := 14) hx hb hB iw_Ref hown hK hP 0 rfl rfl 1 (by decide) (hB _ mw_644) (fun _ h9 => h9) rfl d_Ref_resolve_126 ?_
            refine lv_iload_n hx hb d_Ref_resolve_129 rfl (lv_at hl 6 rfl) ?_
            refine k_join2 (c0 := p1 = (0 : Int32)) (x1 := (17 : Int32)) (x2 := (25 : Int32)) (rest := [.ref bS, .int p0, .ref aT]) 140 ?_ (fun k91 k92 => ?_)
            rotate_left
            · refine lv_if_ne (tgt := 138) hx hb d_Ref_resolve_130 (by decide) (fun (h90 : ¬ p1 = (0 : Int32)) => ?_) (fun (h90 : p1 = (0 : Int32)) => ?_)
              · refine lv_bipush (v := (25 : Int32)) hx hb d_Ref_resolve_138 (by decide) ?_
                exact k92 h90
              · refine lv_bipush (v := (17 : Int32)) hx hb d_Ref_resolve_133 (by decide) ?_
                refine lv_goto (tgt := 140) hx hb d_Ref_resolve_135 (by decide) ?_
                exact k91 h90
            refine lv_iconst (v := (2 : Int32)) hx hb d_Ref_resolve_140 (by decide) ?_
            refine lv_iload hx hb d_Ref_resolve_141 (lv_at hl 2 rfl) ?_
            refine lv_imul hx hb d_Ref_resolve_143 ?_
            refine k_fold (4 : Int32) (by decide) ?_
            refine lv_iadd hx hb d_Ref_resolve_144 ?_
            refine k_iald (j := (ix ((if p1 = (0 : Int32) then (17 : Int32) else (25 : Int32)) + (4 : Int32)))) hx hb hK hP 2 1 rfl rfl rfl (by split <;> (unfold vp_in; decide)) d_Ref_resolve_145 ?_
            refine lv_iload hx hb d_Ref_resolve_146 (lv_at hl 0 rfl) ?_
            refine lv_iload_n hx hb d_Ref_resolve_148 rfl (lv_at hl 6 rfl) ?_
            let t95 := (f_Ref_block p0 (rs (ix ((if p1 = (0 : Int32) then (17 : Int32) else (25 : Int32)) + (4 : Int32)))) (shl ((shr (rs (ix ((if p1 = (0 : Int32) then (16 : Int32) else (24 : Int32)) + (4 : Int32)))) (2 : Int32)) &&& (2047 : Int32)) (13 : Int32)) p1 (0 : Int32))
            refine k_cVi (As := [.int p0, .int (rs (ix ((if p1 = (0 : Int32) then (17 : Int32) else (25 : Int32)) + (4 : Int32)))), .int (shl ((shr (rs (ix ((if p1 = (0 : Int32) then (16 : Int32) else (24 : Int32)) + (4 : Int32)))) (2 : Int32)) &&& (2047 : Int32)) (13 : Int32)), .int p1]) (rest := []) (wr := []) (wj := [(aT, .inr (11, [.ref bG, .ref bS, .ref bM, .int rl, .int rk, .int t95.2, .int (-1 : Int32), .int rc, .int rd, .int ra, .int rb, .int rn, .int rf, .int rw])), (bG, .inl (dG, 32, .inl rg)), (bS, .inl (dS, 48, .inl rs)), (bM, .inl (dM, 16384, .inl rm))]) ⟨hx, hb, hml, hown, hB⟩ (c_Ref_block l D aT bG bS bM dG dS dM rg rs rm rl rk (0 : Int32) (-1 : Int32) rc rd ra rb rn rf rw p0 (rs (ix ((if p1 = (0 : Int32) then (17 : Int32) else (25 : Int32)) + (4 : Int32)))) (shl ((shr (rs (ix ((if p1 = (0 : Int32) then (16 : Int32) else (24 : Int32)) + (4 : Int32)))) (2 : Int32)) &&& (2047 : Int32)) (13 : Int32)) p1) yl_Ref_block mw_728 hK hN hP hD hS hA [0, 1, 2] [0, 1, 2, 3] [] [0, 1, 2, 3] rfl rfl rfl rfl (by decide +kernel) 0 rfl rfl rfl rfl hl.1 rfl (Nat.le_of_ble_eq_true rfl) ⟨Nat.le_of_ble_eq_true rfl, Nat.le_of_ble_eq_true rfl⟩ d_Ref_resolve_149 ⟨Nat.le_of_ble_eq_true rfl, Nat.le_of_ble_eq_true rfl⟩ (fun H locs hP hD hS => ?_)
            have ef : f_Ref_resolve p0 p1 rs rm = (t95.1, t95.2, (-1 : Int32)) := by unfold f_Ref_resolve; try dsimp only; rw [if_neg h6, if_pos h18, if_pos h30, if_neg h42, if_pos h66]
            exact k_iret hx hb hr hlocks hK hP hD hS [0, 1, 2, 3] rfl (by rw [ef] <;> rfl) (by rw [ef] <;> rfl) d_Ref_resolve_152
      · refine lv_iload_n hx hb d_Ref_resolve_107 rfl (lv_at hl 5 rfl) ?_
        refine lv_iload hx hb d_Ref_resolve_108 (lv_at hl 1 rfl) ?_
        refine lv_ixor hx hb d_Ref_resolve_110 ?_
        refine lv_iload hx hb d_Ref_resolve_111 (lv_at hl 0 rfl) ?_
        refine lv_iconst (v := (-1 : Int32)) hx hb d_Ref_resolve_113 (by decide) ?_
        refine lv_ixor hx hb d_Ref_resolve_114 ?_
        refine lv_iand hx hb d_Ref_resolve_115 ?_
        refine lv_sipush (v := (-8192 : Int32)) hx hb d_Ref_resolve_116 (by decide) ?_
        refine lv_iand hx hb d_Ref_resolve_119 ?_
        refine lv_if_ne (tgt := 153) hx hb d_Ref_resolve_120 (by decide) (fun (h96 : ¬ (((p0 ^^^ (rs (ix ((if p1 = (0 : Int32) then (16 : Int32) else (24 : Int32)) + (2 : Int32))))) &&& ((shl ((shr (rs (ix ((if p1 = (0 : Int32) then (16 : Int32) else (24 : Int32)) + (2 : Int32)))) (2 : Int32)) &&& (2047 : Int32)) (13 : Int32)) ^^^ (-1 : Int32))) &&& (-8192 : Int32)) = (0 : Int32)) => ?_) (fun (h96 : (((p0 ^^^ (rs (ix ((if p1 = (0 : Int32) then (16 : Int32) else (24 : Int32)) + (2 : Int32))))) &&& ((shl ((shr (rs (ix ((if p1 = (0 : Int32) then (16 : Int32) else (24 : Int32)) + (2 : Int32)))) (2 : Int32)) &&& (2047 : Int32)) (13 : Int32)) ^^^ (-1 : Int32))) &&& (-8192 : Int32)) = (0 : Int32)) => ?_)
        · refine lv_iinc (v := (2 : Int32)) (lv' := [(4, .int (2 : Int32)), (6, .int (shl ((shr (rs (ix ((if p1 = (0 : Int32) then (16 : Int32) else (24 : Int32)) + (2 : Int32)))) (2 : Int32)) &&& (2047 : Int32)) (13 : Int32))), (5, .int (rs (ix ((if p1 = (0 : Int32) then (16 : Int32) else (24 : Int32)) + (2 : Int32))))), (3, .int (f_Ref_bit (rs 1) (14 : Int32))), (0, .ref aT), (1, .int p0), (2, .int p1)]) hx hb d_Ref_resolve_153 hl (k := 2) rfl (by decide) (by decide) rfl (fun ls hl => ?_)
          refine lv_goto (tgt := 48) hx hb d_Ref_resolve_156 (by decide) ?_
          refine lv_iload hx hb d_Ref_resolve_48 (lv_at hl 0 rfl) ?_
          refine lv_iconst (v := (4 : Int32)) hx hb d_Ref_resolve_50 (by decide) ?_
          refine lv_icmp_ge (tgt := 159) hx hb d_Ref_resolve_51 (by decide) (fun h97 => ?_) (fun h97 => ?_)
          · exact absurd h97 (by decide)
          refine lv_aload_n hx hb d_Ref_resolve_54 rfl (lv_at hl 4 rfl) ?_
          refine va_get (D := D) (ci := 11) (v := .ref bS) (C := "MappedProcessorModel") (T := T_Ref) (N := 14) hx hb hB iw_Ref hown hK hP 0 rfl rfl 1 (by decide) (hB _ mw_644) (fun _ h9 => h9) rfl d_Ref_resolve_55 ?_
          refine lv_iload_n hx hb d_Ref_resolve_58 rfl (lv_at hl 6 rfl) ?_
          refine k_join2 (c0 := p1 = (0 : Int32)) (x1 := (16 : Int32)) (x2 := (24 : Int32)) (rest := [.ref bS]) 69 ?_ (fun k99 k100 => ?_)
          rotate_left
          · refine lv_if_ne (tgt := 67) hx hb d_Ref_resolve_59 (by decide) (fun (h98 : ¬ p1 = (0 : Int32)) => ?_) (fun (h98 : p1 = (0 : Int32)) => ?_)
            · refine lv_bipush (v := (24 : Int32)) hx hb d_Ref_resolve_67 (by decide) ?_
              exact k100 h98
            · refine lv_bipush (v := (16 : Int32)) hx hb d_Ref_resolve_62 (by decide) ?_
              refine lv_goto (tgt := 69) hx hb d_Ref_resolve_64 (by decide) ?_
              exact k99 h98
          refine lv_iconst (v := (2 : Int32)) hx hb d_Ref_resolve_69 (by decide) ?_
          refine lv_iload hx hb d_Ref_resolve_70 (lv_at hl 0 rfl) ?_
          refine lv_imul hx hb d_Ref_resolve_72 ?_
          refine k_fold (4 : Int32) (by decide) ?_
          refine lv_iadd hx hb d_Ref_resolve_73 ?_
          refine k_iald (j := (ix ((if p1 = (0 : Int32) then (16 : Int32) else (24 : Int32)) + (4 : Int32)))) hx hb hK hP 2 1 rfl rfl rfl (by split <;> (unfold vp_in; decide)) d_Ref_resolve_74 ?_
          refine lv_istore (lv' := [(5, .int (rs (ix ((if p1 = (0 : Int32) then (16 : Int32) else (24 : Int32)) + (4 : Int32))))), (4, .int (2 : Int32)), (6, .int (shl ((shr (rs (ix ((if p1 = (0 : Int32) then (16 : Int32) else (24 : Int32)) + (2 : Int32)))) (2 : Int32)) &&& (2047 : Int32)) (13 : Int32))), (3, .int (f_Ref_bit (rs 1) (14 : Int32))), (0, .ref aT), (1, .int p0), (2, .int p1)]) hx hb d_Ref_resolve_75 hl (by decide) rfl (fun ls hl => ?_)
          refine lv_iload hx hb d_Ref_resolve_77 (lv_at hl 0 rfl) ?_
          refine lv_iconst (v := (2 : Int32)) hx hb d_Ref_resolve_79 (by decide) ?_
          refine lv_ishr hx hb d_Ref_resolve_80 ?_
          refine lv_sipush (v := (2047 : Int32)) hx hb d_Ref_resolve_81 (by decide) ?_
          refine lv_iand hx hb d_Ref_resolve_84 ?_
          refine lv_bipush (v := (13 : Int32)) hx hb d_Ref_resolve_85 (by decide) ?_
          refine lv_ishl hx hb d_Ref_resolve_87 ?_
          refine lv_istore (lv' := [(6, .int (shl ((shr (rs (ix ((if p1 = (0 : Int32) then (16 : Int32) else (24 : Int32)) + (4 : Int32)))) (2 : Int32)) &&& (2047 : Int32)) (13 : Int32))), (5, .int (rs (ix ((if p1 = (0 : Int32) then (16 : Int32) else (24 : Int32)) + (4 : Int32))))), (4, .int (2 : Int32)), (3, .int (f_Ref_bit (rs 1) (14 : Int32))), (0, .ref aT), (1, .int p0), (2, .int p1)]) hx hb d_Ref_resolve_88 hl (by decide) rfl (fun ls hl => ?_)
          refine lv_iload hx hb d_Ref_resolve_90 (lv_at hl 1 rfl) ?_
          refine lv_iload_n hx hb d_Ref_resolve_92 rfl (lv_at hl 3 rfl) ?_
          refine k_join2 (c0 := (f_Ref_bit (rs 1) (14 : Int32)) = (0 : Int32)) (x1 := (1 : Int32)) (x2 := (0 : Int32)) (rest := [.int (rs (ix ((if p1 = (0 : Int32) then (16 : Int32) else (24 : Int32)) + (4 : Int32))))]) 101 ?_ (fun k104 k105 => ?_)
          rotate_left
          · refine lv_if_eq (tgt := 100) hx hb d_Ref_resolve_93 (by decide) (fun (h103 : (f_Ref_bit (rs 1) (14 : Int32)) = (0 : Int32)) => ?_) (fun (h103 : ¬ (f_Ref_bit (rs 1) (14 : Int32)) = (0 : Int32)) => ?_)
            · refine lv_iconst (v := (1 : Int32)) hx hb d_Ref_resolve_100 (by decide) ?_
              exact k104 h103
            · refine lv_iconst (v := (0 : Int32)) hx hb d_Ref_resolve_96 (by decide) ?_
              refine lv_goto (tgt := 101) hx hb d_Ref_resolve_97 (by decide) ?_
              exact k105 h103
          refine k_cSi (As := [.int (rs (ix ((if p1 = (0 : Int32) then (16 : Int32) else (24 : Int32)) + (4 : Int32)))), .int (if (f_Ref_bit (rs 1) (14 : Int32)) = (0 : Int32) then (1 : Int32) else (0 : Int32))]) (rest := []) (wr := [(aT, .inr (11, [.ref bG, .ref bS, .ref bM, .int rl, .int rk, .int (0 : Int32), .int (-1 : Int32), .int rc, .int rd, .int ra, .int rb, .int rn, .int rf, .int rw])), (bG, .inl (dG, 32, .inl rg)), (bS, .inl (dS, 48, .inl rs)), (bM, .inl (dM, 16384, .inl rm))]) (wj := [(aT, .inr (11, [.ref bG, .ref bS, .ref bM, .int rl, .int rk, .int (0 : Int32), .int (-1 : Int32), .int rc, .int rd, .int ra, .int rb, .int rn, .int rf, .int rw])), (bG, .inl (dG, 32, .inl rg)), (bS, .inl (dS, 48, .inl rs)), (bM, .inl (dM, 16384, .inl rm))]) ⟨hx, hb, hml, hown, hB⟩ (c_Ref_bit l D (rs (ix ((if p1 = (0 : Int32) then (16 : Int32) else (24 : Int32)) + (4 : Int32)))) (if (f_Ref_bit (rs 1) (14 : Int32)) = (0 : Int32) then (1 : Int32) else (0 : Int32))) yl_Ref_bit mw_725 hK hN hP hD hS hA [] [] [0, 1, 2, 3] [0, 1, 2, 3] rfl rfl rfl rfl (by decide +kernel) rfl hl.1 rfl (Nat.le_of_ble_eq_true rfl) ⟨Nat.le_of_ble_eq_true rfl, Nat.le_of_ble_eq_true rfl⟩ d_Ref_resolve_101 ⟨Nat.le_of_ble_eq_true rfl, Nat.le_of_ble_eq_true rfl⟩ (fun H locs hP hD hS => ?_)
          refine lv_if_eq (tgt := 153) hx hb d_Ref_resolve_104 (by decide) (fun (h108 : (f_Ref_bit (rs (ix ((if p1 = (0 : Int32) then (16 : Int32) else (24 : Int32)) + (4 : Int32)))) (if (f_Ref_bit (rs 1) (14 : Int32)) = (0 : Int32) then (1 : Int32) else (0 : Int32))) = (0 : Int32)) => ?_) (fun (h108 : ¬ (f_Ref_bit (rs (ix ((if p1 = (0 : Int32) then (16 : Int32) else (24 : Int32)) + (4 : Int32)))) (if (f_Ref_bit (rs 1) (14 : Int32)) = (0 : Int32) then (1 : Int32) else (0 : Int32))) = (0 : Int32)) => ?_)
          · refine lv_iinc (v := (3 : Int32)) (lv' := [(4, .int (3 : Int32)), (6, .int (shl ((shr (rs (ix ((if p1 = (0 : Int32) then (16 : Int32) else (24 : Int32)) + (4 : Int32)))) (2 : Int32)) &&& (2047 : Int32)) (13 : Int32))), (5, .int (rs (ix ((if p1 = (0 : Int32) then (16 : Int32) else (24 : Int32)) + (4 : Int32))))), (3, .int (f_Ref_bit (rs 1) (14 : Int32))), (0, .ref aT), (1, .int p0), (2, .int p1)]) hx hb d_Ref_resolve_153 hl (k := 2) rfl (by decide) (by decide) rfl (fun ls hl => ?_)
            refine lv_goto (tgt := 48) hx hb d_Ref_resolve_156 (by decide) ?_
            refine lv_iload hx hb d_Ref_resolve_48 (lv_at hl 0 rfl) ?_
            refine lv_iconst (v := (4 : Int32)) hx hb d_Ref_resolve_50 (by decide) ?_
            refine lv_icmp_ge (tgt := 159) hx hb d_Ref_resolve_51 (by decide) (fun h109 => ?_) (fun h109 => ?_)
            · exact absurd h109 (by decide)
            refine lv_aload_n hx hb d_Ref_resolve_54 rfl (lv_at hl 4 rfl) ?_
            refine va_get (D := D) (ci := 11) (v := .ref bS) (C := "MappedProcessorModel") (T := T_Ref) (N := 14) hx hb hB iw_Ref hown hK hP 0 rfl rfl 1 (by decide) (hB _ mw_644) (fun _ h9 => h9) rfl d_Ref_resolve_55 ?_
            refine lv_iload_n hx hb d_Ref_resolve_58 rfl (lv_at hl 6 rfl) ?_
            refine k_join2 (c0 := p1 = (0 : Int32)) (x1 := (16 : Int32)) (x2 := (24 : Int32)) (rest := [.ref bS]) 69 ?_ (fun k111 k112 => ?_)
            rotate_left
            · refine lv_if_ne (tgt := 67) hx hb d_Ref_resolve_59 (by decide) (fun (h110 : ¬ p1 = (0 : Int32)) => ?_) (fun (h110 : p1 = (0 : Int32)) => ?_)
              · refine lv_bipush (v := (24 : Int32)) hx hb d_Ref_resolve_67 (by decide) ?_
                exact k112 h110
              · refine lv_bipush (v := (16 : Int32)) hx hb d_Ref_resolve_62 (by decide) ?_
                refine lv_goto (tgt := 69) hx hb d_Ref_resolve_64 (by decide) ?_
                exact k111 h110
            refine lv_iconst (v := (2 : Int32)) hx hb d_Ref_resolve_69 (by decide) ?_
            refine lv_iload hx hb d_Ref_resolve_70 (lv_at hl 0 rfl) ?_
            refine lv_imul hx hb d_Ref_resolve_72 ?_
            refine k_fold (6 : Int32) (by decide) ?_
            refine lv_iadd hx hb d_Ref_resolve_73 ?_
            refine k_iald (j := (ix ((if p1 = (0 : Int32) then (16 : Int32) else (24 : Int32)) + (6 : Int32)))) hx hb hK hP 2 1 rfl rfl rfl (by split <;> (unfold vp_in; decide)) d_Ref_resolve_74 ?_
            refine lv_istore (lv' := [(5, .int (rs (ix ((if p1 = (0 : Int32) then (16 : Int32) else (24 : Int32)) + (6 : Int32))))), (4, .int (3 : Int32)), (6, .int (shl ((shr (rs (ix ((if p1 = (0 : Int32) then (16 : Int32) else (24 : Int32)) + (4 : Int32)))) (2 : Int32)) &&& (2047 : Int32)) (13 : Int32))), (3, .int (f_Ref_bit (rs 1) (14 : Int32))), (0, .ref aT), (1, .int p0), (2, .int p1)]) hx hb d_Ref_resolve_75 hl (by decide) rfl (fun ls hl => ?_)
            refine lv_iload hx hb d_Ref_resolve_77 (lv_at hl 0 rfl) ?_
            refine lv_iconst (v := (2 : Int32)) hx hb d_Ref_resolve_79 (by decide) ?_
            refine lv_ishr hx hb d_Ref_resolve_80 ?_
            refine lv_sipush (v := (2047 : Int32)) hx hb d_Ref_resolve_81 (by decide) ?_
            refine lv_iand hx hb d_Ref_resolve_84 ?_
            refine lv_bipush (v := (13 : Int32)) hx hb d_Ref_resolve_85 (by decide) ?_
            refine lv_ishl hx hb d_Ref_resolve_87 ?_
            refine lv_istore (lv' := [(6, .int (shl ((shr (rs (ix ((if p1 = (0 : Int32) then (16 : Int32) else (24 : Int32)) + (6 : Int32)))) (2 : Int32)) &&& (2047 : Int32)) (13 : Int32))), (5, .int (rs (ix ((if p1 = (0 : Int32) then (16 : Int32) else (24 : Int32)) + (6 : Int32))))), (4, .int (3 : Int32)), (3, .int (f_Ref_bit (rs 1) (14 : Int32))), (0, .ref aT), (1, .int p0), (2, .int p1)]) hx hb d_Ref_resolve_88 hl (by decide) rfl (fun ls hl => ?_)
            refine lv_iload hx hb d_Ref_resolve_90 (lv_at hl 1 rfl) ?_
            refine lv_iload_n hx hb d_Ref_resolve_92 rfl (lv_at hl 3 rfl) ?_
            refine k_join2 (c0 := (f_Ref_bit (rs 1) (14 : Int32)) = (0 : Int32)) (x1 := (1 : Int32)) (x2 := (0 : Int32)) (rest := [.int (rs (ix ((if p1 = (0 : Int32) then (16 : Int32) else (24 : Int32)) + (6 : Int32))))]) 101 ?_ (fun k116 k117 => ?_)
            rotate_left
            · refine lv_if_eq (tgt := 100) hx hb d_Ref_resolve_93 (by decide) (fun (h115 : (f_Ref_bit (rs 1) (14 : Int32)) = (0 : Int32)) => ?_) (fun (h115 : ¬ (f_Ref_bit (rs 1) (14 : Int32)) = (0 : Int32)) => ?_)
              · refine lv_iconst (v := (1 : Int32)) hx hb d_Ref_resolve_100 (by decide) ?_
                exact k116 h115
              · refine lv_iconst (v := (0 : Int32)) hx hb d_Ref_resolve_96 (by decide) ?_
                refine lv_goto (tgt := 101) hx hb d_Ref_resolve_97 (by decide) ?_
                exact k117 h115
            refine k_cSi (As := [.int (rs (ix ((if p1 = (0 : Int32) then (16 : Int32) else (24 : Int32)) + (6 : Int32)))), .int (if (f_Ref_bit (rs 1) (14 : Int32)) = (0 : Int32) then (1 : Int32) else (0 : Int32))]) (rest := []) (wr := [(aT, .inr (11, [.ref bG, .ref bS, .ref bM, .int rl, .int rk, .int (0 : Int32), .int (-1 : Int32), .int rc, .int rd, .int ra, .int rb, .int rn, .int rf, .int rw])), (bG, .inl (dG, 32, .inl rg)), (bS, .inl (dS, 48, .inl rs)), (bM, .inl (dM, 16384, .inl rm))]) (wj := [(aT, .inr (11, [.ref bG, .ref bS, .ref bM, .int rl, .int rk, .int (0 : Int32), .int (-1 : Int32), .int rc, .int rd, .int ra, .int rb, .int rn, .int rf, .int rw])), (bG, .inl (dG, 32, .inl rg)), (bS, .inl (dS, 48, .inl rs)), (bM, .inl (dM, 16384, .inl rm))]) ⟨hx, hb, hml, hown, hB⟩ (c_Ref_bit l D (rs (ix ((if p1 = (0 : Int32) then (16 : Int32) else (24 : Int32)) + (6 : Int32)))) (if (f_Ref_bit (rs 1) (14 : Int32)) = (0 : Int32) then (1 : Int32) else (0 : Int32))) yl_Ref_bit mw_725 hK hN hP hD hS hA [] [] [0, 1, 2, 3] [0, 1, 2, 3] rfl rfl rfl rfl (by decide +kernel) rfl hl.1 rfl (Nat.le_of_ble_eq_true rfl) ⟨Nat.le_of_ble_eq_true rfl, Nat.le_of_ble_eq_true rfl⟩ d_Ref_resolve_101 ⟨Nat.le_of_ble_eq_true rfl, Nat.le_of_ble_eq_true rfl⟩ (fun H locs hP hD hS => ?_)
            refine lv_if_eq (tgt := 153) hx hb d_Ref_resolve_104 (by decide) (fun (h120 : (f_Ref_bit (rs (ix ((if p1 = (0 : Int32) then (16 : Int32) else (24 : Int32)) + (6 : Int32)))) (if (f_Ref_bit (rs 1) (14 : Int32)) = (0 : Int32) then (1 : Int32) else (0 : Int32))) = (0 : Int32)) => ?_) (fun (h120 : ¬ (f_Ref_bit (rs (ix ((if p1 = (0 : Int32) then (16 : Int32) else (24 : Int32)) + (6 : Int32)))) (if (f_Ref_bit (rs 1) (14 : Int32)) = (0 : Int32) then (1 : Int32) else (0 : Int32))) = (0 : Int32)) => ?_)
            · refine lv_iinc (v := (4 : Int32)) (lv' := [(4, .int (4 : Int32)), (6, .int (shl ((shr (rs (ix ((if p1 = (0 : Int32) then (16 : Int32) else (24 : Int32)) + (6 : Int32)))) (2 : Int32)) &&& (2047 : Int32)) (13 : Int32))), (5, .int (rs (ix ((if p1 = (0 : Int32) then (16 : Int32) else (24 : Int32)) + (6 : Int32))))), (3, .int (f_Ref_bit (rs 1) (14 : Int32))), (0, .ref aT), (1, .int p0), (2, .int p1)]) hx hb d_Ref_resolve_153 hl (k := 2) rfl (by decide) (by decide) rfl (fun ls hl => ?_)
              refine lv_goto (tgt := 48) hx hb d_Ref_resolve_156 (by decide) ?_
              refine lv_iload hx hb d_Ref_resolve_48 (lv_at hl 0 rfl) ?_
              refine lv_iconst (v := (4 : Int32)) hx hb d_Ref_resolve_50 (by decide) ?_
              refine lv_icmp_ge (tgt := 159) hx hb d_Ref_resolve_51 (by decide) (fun h121 => ?_) (fun h121 => ?_)
              rotate_left
              · exact absurd (by decide) h121
              refine lv_aload_n hx hb d_Ref_resolve_159 rfl (lv_at hl 4 rfl) ?_
              refine lv_iload_n hx hb d_Ref_resolve_160 rfl (lv_at hl 5 rfl) ?_
              refine lv_iload_n hx hb d_Ref_resolve_161 rfl (lv_at hl 6 rfl) ?_
              refine lv_iload_n hx hb d_Ref_resolve_162 rfl (lv_at hl 3 rfl) ?_
              let t122 := (f_Ref_paged p0 p1 (f_Ref_bit (rs 1) (14 : Int32)) rs rm (0 : Int32) (-1 : Int32))
              refine k_cVi (As := [.int p0, .int p1, .int (f_Ref_bit (rs 1) (14 : Int32))]) (rest := []) (wr := []) (wj := [(aT, .inr (11, [.ref bG, .ref bS, .ref bM, .int rl, .int rk, .int t122.2.1, .int t122.2.2, .int rc, .int rd, .int ra, .int rb, .int rn, .int rf, .int rw])), (bG, .inl (dG, 32, .inl rg)), (bS, .inl (dS, 48, .inl rs)), (bM, .inl (dM, 16384, .inl rm))]) ⟨hx, hb, hml, hown, hB⟩ (c_Ref_paged l D aT bG bS bM dG dS dM rg rs rm rl rk (0 : Int32) (-1 : Int32) rc rd ra rb rn rf rw p0 p1 (f_Ref_bit (rs 1) (14 : Int32))) yl_Ref_paged mw_732 hK hN hP hD hS hA [0, 1, 2] [0, 1, 2, 3] [] [0, 1, 2, 3] rfl rfl rfl rfl (by decide +kernel) 0 rfl rfl rfl rfl hl.1 rfl (Nat.le_of_ble_eq_true rfl) ⟨Nat.le_of_ble_eq_true rfl, Nat.le_of_ble_eq_true rfl⟩ d_Ref_resolve_163 ⟨Nat.le_of_ble_eq_true rfl, Nat.le_of_ble_eq_true rfl⟩ (fun H locs hP hD hS => ?_)
              have ef : f_Ref_resolve p0 p1 rs rm = (t122.1, t122.2.1, t122.2.2) := by unfold f_Ref_resolve; try dsimp only; rw [if_neg h6, if_pos h18, if_neg h30, if_neg h96, if_pos h108, if_pos h120]
              exact k_iret hx hb hr hlocks hK hP hD hS [0, 1, 2, 3] rfl (by rw [ef] <;> rfl) (by rw [ef] <;> rfl) d_Ref_resolve_166
            · refine lv_iload_n hx hb d_Ref_resolve_107 rfl (lv_at hl 5 rfl) ?_
              refine lv_iload hx hb d_Ref_resolve_108 (lv_at hl 1 rfl) ?_
              refine lv_ixor hx hb d_Ref_resolve_110 ?_
              refine lv_iload hx hb d_Ref_resolve_111 (lv_at hl 0 rfl) ?_
              refine lv_iconst (v := (-1 : Int32)) hx hb d_Ref_resolve_113 (by decide) ?_
              refine lv_ixor hx hb d_Ref_resolve_114 ?_
              refine lv_iand hx hb d_Ref_resolve_115 ?_
              refine lv_sipush (v := (-8192 : Int32)) hx hb d_Ref_resolve_116 (by decide) ?_
              refine lv_iand hx hb d_Ref_resolve_119 ?_
              refine lv_if_ne (tgt := 153) hx hb d_Ref_resolve_120 (by decide) (fun (h123 : ¬ (((p0 ^^^ (rs (ix ((if p1 = (0 : Int32) then (16 : Int32) else (24 : Int32)) + (6 : Int32))))) &&& ((shl ((shr (rs (ix ((if p1 = (0 : Int32) then (16 : Int32) else (24 : Int32)) + (6 : Int32)))) (2 : Int32)) &&& (2047 : Int32)) (13 : Int32)) ^^^ (-1 : Int32))) &&& (-8192 : Int32)) = (0 : Int32)) => ?_) (fun (h123 : (((p0 ^^^ (rs (ix ((if p1 = (0 : Int32) then (16 : Int32) else (24 : Int32)) + (6 : Int32))))) &&& ((shl ((shr (rs (ix ((if p1 = (0 : Int32) then (16 : Int32) else (24 : Int32)) + (6 : Int32)))) (2 : Int32)) &&& (2047 : Int32)) (13 : Int32)) ^^^ (-1 : Int32))) &&& (-8192 : Int32)) = (0 : Int32)) => ?_)
              · refine lv_iinc (v := (4 : Int32)) (lv' := [(4, .int (4 : Int32)), (6, .int (shl ((shr (rs (ix ((if p1 = (0 : Int32) then (16 : Int32) else (24 : Int32)) + (6 : Int32)))) (2 : Int32)) &&& (2047 : Int32)) (13 : Int32))), (5, .int (rs (ix ((if p1 = (0 : Int32) then (16 : Int32) else (24 : Int32)) + (6 : Int32))))), (3, .int (f_Ref_bit (rs 1) (14 : Int32))), (0, .ref aT), (1, .int p0), (2, .int p1)]) hx hb d_Ref_resolve_153 hl (k := 2) rfl (by decide) (by decide) rfl (fun ls hl => ?_)
                refine lv_goto (tgt := 48) hx hb d_Ref_resolve_156 (by decide) ?_
                refine lv_iload hx hb d_Ref_resolve_48 (lv_at hl 0 rfl) ?_
                refine lv_iconst (v := (4 : Int32)) hx hb d_Ref_resolve_50 (by decide) ?_
                refine lv_icmp_ge (tgt := 159) hx hb d_Ref_resolve_51 (by decide) (fun h124 => ?_) (fun h124 => ?_)
                rotate_left
                · exact absurd (by decide) h124
                refine lv_aload_n hx hb d_Ref_resolve_159 rfl (lv_at hl 4 rfl) ?_
                refine lv_iload_n hx hb d_Ref_resolve_160 rfl (lv_at hl 5 rfl) ?_
                refine lv_iload_n hx hb d_Ref_resolve_161 rfl (lv_at hl 6 rfl) ?_
                refine lv_iload_n hx hb d_Ref_resolve_162 rfl (lv_at hl 3 rfl) ?_
                let t125 := (f_Ref_paged p0 p1 (f_Ref_bit (rs 1) (14 : Int32)) rs rm (0 : Int32) (-1 : Int32))
                refine k_cVi (As := [.int p0, .int p1, .int (f_Ref_bit (rs 1) (14 : Int32))]) (rest := []) (wr := []) (wj := [(aT, .inr (11, [.ref bG, .ref bS, .ref bM, .int rl, .int rk, .int t125.2.1, .int t125.2.2, .int rc, .int rd, .int ra, .int rb, .int rn, .int rf, .int rw])), (bG, .inl (dG, 32, .inl rg)), (bS, .inl (dS, 48, .inl rs)), (bM, .inl (dM, 16384, .inl rm))]) ⟨hx, hb, hml, hown, hB⟩ (c_Ref_paged l D aT bG bS bM dG dS dM rg rs rm rl rk (0 : Int32) (-1 : Int32) rc rd ra rb rn rf rw p0 p1 (f_Ref_bit (rs 1) (14 : Int32))) yl_Ref_paged mw_732 hK hN hP hD hS hA [0, 1, 2] [0, 1, 2, 3] [] [0, 1, 2, 3] rfl rfl rfl rfl (by decide +kernel) 0 rfl rfl rfl rfl hl.1 rfl (Nat.le_of_ble_eq_true rfl) ⟨Nat.le_of_ble_eq_true rfl, Nat.le_of_ble_eq_true rfl⟩ d_Ref_resolve_163 ⟨Nat.le_of_ble_eq_true rfl, Nat.le_of_ble_eq_true rfl⟩ (fun H locs hP hD hS => ?_)
                have ef : f_Ref_resolve p0 p1 rs rm = (t125.1, t125.2.1, t125.2.2) := by unfold f_Ref_resolve; try dsimp only; rw [if_neg h6, if_pos h18, if_neg h30, if_neg h96, if_pos h108, if_neg h120, if_neg h123]
                exact k_iret hx hb hr hlocks hK hP hD hS [0, 1, 2, 3] rfl (by rw [ef] <;> rfl) (by rw [ef] <;> rfl) d_Ref_resolve_166
              · refine lv_aload_n hx hb d_Ref_resolve_123 rfl (lv_at hl 4 rfl) ?_
                refine lv_iload_n hx hb d_Ref_resolve_124 rfl (lv_at hl 5 rfl) ?_
                refine lv_aload_n hx hb d_Ref_resolve_125 rfl (lv_at hl 4 rfl) ?_
                refine va_get (D := D) (ci := 11) (v := .ref bS) (C := "MappedProcessorModel") (T := T_Ref) (N := 14) hx hb hB iw_Ref hown hK hP 0 rfl rfl 1 (by decide) (hB _ mw_644) (fun _ h9 => h9) rfl d_Ref_resolve_126 ?_
                refine lv_iload_n hx hb d_Ref_resolve_129 rfl (lv_at hl 6 rfl) ?_
                refine k_join2 (c0 := p1 = (0 : Int32)) (x1 := (17 : Int32)) (x2 := (25 : Int32)) (rest := [.ref bS, .int p0, .ref aT]) 140 ?_ (fun k127 k128 => ?_)
                rotate_left
                · refine lv_if_ne (tgt := 138) hx hb d_Ref_resolve_130 (by decide) (fun (h126 : ¬ p1 = (0 : Int32)) => ?_) (fun (h126 : p1 = (0 : Int32)) => ?_)
                  · refine lv_bipush (v := (25 : Int32)) hx hb d_Ref_resolve_138 (by decide) ?_
                    exact k128 h126
                  · refine lv_bipush (v := (17 : Int32)) hx hb d_Ref_resolve_133 (by decide) ?_
                    refine lv_goto (tgt := 140) hx hb d_Ref_resolve_135 (by decide) ?_
                    exact k127 h126
                refine lv_iconst (v := (2 : Int32)) hx hb d_Ref_resolve_140 (by decide) ?_
                refine lv_iload hx hb d_Ref_resolve_141 (lv_at hl 2 rfl) ?_
                refine lv_imul hx hb d_Ref_resolve_143 ?_
                refine k_fold (6 : Int32) (by decide) ?_
                refine lv_iadd hx hb d_Ref_resolve_144 ?_
                refine k_iald (j := (ix ((if p1 = (0 : Int32) then (17 : Int32) else (25 : Int32)) + (6 : Int32)))) hx hb hK hP 2 1 rfl rfl rfl (by split <;> (unfold vp_in; decide)) d_Ref_resolve_145 ?_
                refine lv_iload hx hb d_Ref_resolve_146 (lv_at hl 0 rfl) ?_
                refine lv_iload_n hx hb d_Ref_resolve_148 rfl (lv_at hl 6 rfl) ?_
                let t131 := (f_Ref_block p0 (rs (ix ((if p1 = (0 : Int32) then (17 : Int32) else (25 : Int32)) + (6 : Int32)))) (shl ((shr (rs (ix ((if p1 = (0 : Int32) then (16 : Int32) else (24 : Int32)) + (6 : Int32)))) (2 : Int32)) &&& (2047 : Int32)) (13 : Int32)) p1 (0 : Int32))
                refine k_cVi (As := [.int p0, .int (rs (ix ((if p1 = (0 : Int32) then (17 : Int32) else (25 : Int32)) + (6 : Int32)))), .int (shl ((shr (rs (ix ((if p1 = (0 : Int32) then (16 : Int32) else (24 : Int32)) + (6 : Int32)))) (2 : Int32)) &&& (2047 : Int32)) (13 : Int32)), .int p1]) (rest := []) (wr := []) (wj := [(aT, .inr (11, [.ref bG, .ref bS, .ref bM, .int rl, .int rk, .int t131.2, .int (-1 : Int32), .int rc, .int rd, .int ra, .int rb, .int rn, .int rf, .int rw])), (bG, .inl (dG, 32, .inl rg)), (bS, .inl (dS, 48, .inl rs)), (bM, .inl (dM, 16384, .inl rm))]) ⟨hx, hb, hml, hown, hB⟩ (c_Ref_block l D aT bG bS bM dG dS dM rg rs rm rl rk (0 : Int32) (-1 : Int32) rc rd ra rb rn rf rw p0 (rs (ix ((if p1 = (0 : Int32) then (17 : Int32) else (25 : Int32)) + (6 : Int32)))) (shl ((shr (rs (ix ((if p1 = (0 : Int32) then (16 : Int32) else (24 : Int32)) + (6 : Int32)))) (2 : Int32)) &&& (2047 : Int32)) (13 : Int32)) p1) yl_Ref_block mw_728 hK hN hP hD hS hA [0, 1, 2] [0, 1, 2, 3] [] [0, 1, 2, 3] rfl rfl rfl rfl (by decide +kernel) 0 rfl rfl rfl rfl hl.1 rfl (Nat.le_of_ble_eq_true rfl) ⟨Nat.le_of_ble_eq_true rfl, Nat.le_of_ble_eq_true rfl⟩ d_Ref_resolve_149 ⟨Nat.le_of_ble_eq_true rfl, Nat.le_of_ble_eq_true rfl⟩ (fun H locs hP hD hS => ?_)
                have ef : f_Ref_resolve p0 p1 rs rm = (t131.1, t131.2, (-1 : Int32)) := by unfold f_Ref_resolve; try dsimp only; rw [if_neg h6, if_pos h18, if_neg h30, if_neg h96, if_pos h108, if_neg h120, if_pos h123]
                exact k_iret hx hb hr hlocks hK hP hD hS [0, 1, 2, 3] rfl (by rw [ef] <;> rfl) (by rw [ef] <;> rfl) d_Ref_resolve_152
          · refine lv_iload_n hx hb d_Ref_resolve_107 rfl (lv_at hl 5 rfl) ?_
            refine lv_iload hx hb d_Ref_resolve_108 (lv_at hl 1 rfl) ?_
            refine lv_ixor hx hb d_Ref_resolve_110 ?_
            refine lv_iload hx hb d_Ref_resolve_111 (lv_at hl 0 rfl) ?_
            refine lv_iconst (v := (-1 : Int32)) hx hb d_Ref_resolve_113 (by decide) ?_
            refine lv_ixor hx hb d_Ref_resolve_114 ?_
            refine lv_iand hx hb d_Ref_resolve_115 ?_
            refine lv_sipush (v := (-8192 : Int32)) hx hb d_Ref_resolve_116 (by decide) ?_
            refine lv_iand hx hb d_Ref_resolve_119 ?_
            refine lv_if_ne (tgt := 153) hx hb d_Ref_resolve_120 (by decide) (fun (h132 : ¬ (((p0 ^^^ (rs (ix ((if p1 = (0 : Int32) then (16 : Int32) else (24 : Int32)) + (4 : Int32))))) &&& ((shl ((shr (rs (ix ((if p1 = (0 : Int32) then (16 : Int32) else (24 : Int32)) + (4 : Int32)))) (2 : Int32)) &&& (2047 : Int32)) (13 : Int32)) ^^^ (-1 : Int32))) &&& (-8192 : Int32)) = (0 : Int32)) => ?_) (fun (h132 : (((p0 ^^^ (rs (ix ((if p1 = (0 : Int32) then (16 : Int32) else (24 : Int32)) + (4 : Int32))))) &&& ((shl ((shr (rs (ix ((if p1 = (0 : Int32) then (16 : Int32) else (24 : Int32)) + (4 : Int32)))) (2 : Int32)) &&& (2047 : Int32)) (13 : Int32)) ^^^ (-1 : Int32))) &&& (-8192 : Int32)) = (0 : Int32)) => ?_)
            · refine lv_iinc (v := (3 : Int32)) (lv' := [(4, .int (3 : Int32)), (6, .int (shl ((shr (rs (ix ((if p1 = (0 : Int32) then (16 : Int32) else (24 : Int32)) + (4 : Int32)))) (2 : Int32)) &&& (2047 : Int32)) (13 : Int32))), (5, .int (rs (ix ((if p1 = (0 : Int32) then (16 : Int32) else (24 : Int32)) + (4 : Int32))))), (3, .int (f_Ref_bit (rs 1) (14 : Int32))), (0, .ref aT), (1, .int p0), (2, .int p1)]) hx hb d_Ref_resolve_153 hl (k := 2) rfl (by decide) (by decide) rfl (fun ls hl => ?_)
              refine lv_goto (tgt := 48) hx hb d_Ref_resolve_156 (by decide) ?_
              refine lv_iload hx hb d_Ref_resolve_48 (lv_at hl 0 rfl) ?_
              refine lv_iconst (v := (4 : Int32)) hx hb d_Ref_resolve_50 (by decide) ?_
              refine lv_icmp_ge (tgt := 159) hx hb d_Ref_resolve_51 (by decide) (fun h133 => ?_) (fun h133 => ?_)
              · exact absurd h133 (by decide)
              refine lv_aload_n hx hb d_Ref_resolve_54 rfl (lv_at hl 4 rfl) ?_
              refine va_get (D := D) (ci := 11) (v := .ref bS) (C := "MappedProcessorModel") (T := T_Ref) (N := 14) hx hb hB iw_Ref hown hK hP 0 rfl rfl 1 (by decide) (hB _ mw_644) (fun _ h9 => h9) rfl d_Ref_resolve_55 ?_
              refine lv_iload_n hx hb d_Ref_resolve_58 rfl (lv_at hl 6 rfl) ?_
              refine k_join2 (c0 := p1 = (0 : Int32)) (x1 := (16 : Int32)) (x2 := (24 : Int32)) (rest := [.ref bS]) 69 ?_ (fun k135 k136 => ?_)
              rotate_left
              · refine lv_if_ne (tgt := 67) hx hb d_Ref_resolve_59 (by decide) (fun (h134 : ¬ p1 = (0 : Int32)) => ?_) (fun (h134 : p1 = (0 : Int32)) => ?_)
                · refine lv_bipush (v := (24 : Int32)) hx hb d_Ref_resolve_67 (by decide) ?_
                  exact k136 h134
                · refine lv_bipush (v := (16 : Int32)) hx hb d_Ref_resolve_62 (by decide) ?_
                  refine lv_goto (tgt := 69) hx hb d_Ref_resolve_64 (by decide) ?_
                  exact k135 h134
              refine lv_iconst (v := (2 : Int32)) hx hb d_Ref_resolve_69 (by decide) ?_
              refine lv_iload hx hb d_Ref_resolve_70 (lv_at hl 0 rfl) ?_
              refine lv_imul hx hb d_Ref_resolve_72 ?_
              refine k_fold (6 : Int32) (by decide) ?_
              refine lv_iadd hx hb d_Ref_resolve_73 ?_
              refine k_iald (j := (ix ((if p1 = (0 : Int32) then (16 : Int32) else (24 : Int32)) + (6 : Int32)))) hx hb hK hP 2 1 rfl rfl rfl (by split <;> (unfold vp_in; decide)) d_Ref_resolve_74 ?_
              refine lv_istore (lv' := [(5, .int (rs (ix ((if p1 = (0 : Int32) then (16 : Int32) else (24 : Int32)) + (6 : Int32))))), (4, .int (3 : Int32)), (6, .int (shl ((shr (rs (ix ((if p1 = (0 : Int32) then (16 : Int32) else (24 : Int32)) + (4 : Int32)))) (2 : Int32)) &&& (2047 : Int32)) (13 : Int32))), (3, .int (f_Ref_bit (rs 1) (14 : Int32))), (0, .ref aT), (1, .int p0), (2, .int p1)]) hx hb d_Ref_resolve_75 hl (by decide) rfl (fun ls hl => ?_)
              refine lv_iload hx hb d_Ref_resolve_77 (lv_at hl 0 rfl) ?_
              refine lv_iconst (v := (2 : Int32)) hx hb d_Ref_resolve_79 (by decide) ?_
              refine lv_ishr hx hb d_Ref_resolve_80 ?_
              refine lv_sipush (v := (2047 : Int32)) hx hb d_Ref_resolve_81 (by decide) ?_
              refine lv_iand hx hb d_Ref_resolve_84 ?_
              refine lv_bipush (v := (13 : Int32)) hx hb d_Ref_resolve_85 (by decide) ?_
              refine lv_ishl hx hb d_Ref_resolve_87 ?_
              refine lv_istore (lv' := [(6, .int (shl ((shr (rs (ix ((if p1 = (0 : Int32) then (16 : Int32) else (24 : Int32)) + (6 : Int32)))) (2 : Int32)) &&& (2047 : Int32)) (13 : Int32))), (5, .int (rs (ix ((if p1 = (0 : Int32) then (16 : Int32) else (24 : Int32)) + (6 : Int32))))), (4, .int (3 : Int32)), (3, .int (f_Ref_bit (rs 1) (14 : Int32))), (0, .ref aT), (1, .int p0), (2, .int p1)]) hx hb d_Ref_resolve_88 hl (by decide) rfl (fun ls hl => ?_)
              refine lv_iload hx hb d_Ref_resolve_90 (lv_at hl 1 rfl) ?_
              refine lv_iload_n hx hb d_Ref_resolve_92 rfl (lv_at hl 3 rfl) ?_
              refine k_join2 (c0 := (f_Ref_bit (rs 1) (14 : Int32)) = (0 : Int32)) (x1 := (1 : Int32)) (x2 := (0 : Int32)) (rest := [.int (rs (ix ((if p1 = (0 : Int32) then (16 : Int32) else (24 : Int32)) + (6 : Int32))))]) 101 ?_ (fun k140 k141 => ?_)
              rotate_left
              · refine lv_if_eq (tgt := 100) hx hb d_Ref_resolve_93 (by decide) (fun (h139 : (f_Ref_bit (rs 1) (14 : Int32)) = (0 : Int32)) => ?_) (fun (h139 : ¬ (f_Ref_bit (rs 1) (14 : Int32)) = (0 : Int32)) => ?_)
                · refine lv_iconst (v := (1 : Int32)) hx hb d_Ref_resolve_100 (by decide) ?_
                  exact k140 h139
                · refine lv_iconst (v := (0 : Int32)) hx hb d_Ref_resolve_96 (by decide) ?_
                  refine lv_goto (tgt := 101) hx hb d_Ref_resolve_97 (by decide) ?_
                  exact k141 h139
              refine k_cSi (As := [.int (rs (ix ((if p1 = (0 : Int32) then (16 : Int32) else (24 : Int32)) + (6 : Int32)))), .int (if (f_Ref_bit (rs 1) (14 : Int32)) = (0 : Int32) then (1 : Int32) else (0 : Int32))]) (rest := []) (wr := [(aT, .inr (11, [.ref bG, .ref bS, .ref bM, .int rl, .int rk, .int (0 : Int32), .int (-1 : Int32), .int rc, .int rd, .int ra, .int rb, .int rn, .int rf, .int rw])), (bG, .inl (dG, 32, .inl rg)), (bS, .inl (dS, 48, .inl rs)), (bM, .inl (dM, 16384, .inl rm))]) (wj := [(aT, .inr (11, [.ref bG, .ref bS, .ref bM, .int rl, .int rk, .int (0 : Int32), .int (-1 : Int32), .int rc, .int rd, .int ra, .int rb, .int rn, .int rf, .int rw])), (bG, .inl (dG, 32, .inl rg)), (bS, .inl (dS, 48, .inl rs)), (bM, .inl (dM, 16384, .inl rm))]) ⟨hx, hb, hml, hown, hB⟩ (c_Ref_bit l D (rs (ix ((if p1 = (0 : Int32) then (16 : Int32) else (24 : Int32)) + (6 : Int32)))) (if (f_Ref_bit (rs 1) (14 : Int32)) = (0 : Int32) then (1 : Int32) else (0 : Int32))) yl_Ref_bit mw_725 hK hN hP hD hS hA [] [] [0, 1, 2, 3] [0, 1, 2, 3] rfl rfl rfl rfl (by decide +kernel) rfl hl.1 rfl (Nat.le_of_ble_eq_true rfl) ⟨Nat.le_of_ble_eq_true rfl, Nat.le_of_ble_eq_true rfl⟩ d_Ref_resolve_101 ⟨Nat.le_of_ble_eq_true rfl, Nat.le_of_ble_eq_true rfl⟩ (fun H locs hP hD hS => ?_)
              refine lv_if_eq (tgt := 153) hx hb d_Ref_resolve_104 (by decide) (fun (h144 : (f_Ref_bit (rs (ix ((if p1 = (0 : Int32) then (16 : Int32) else (24 : Int32)) + (6 : Int32)))) (if (f_Ref_bit (rs 1) (14 : Int32)) = (0 : Int32) then (1 : Int32) else (0 : Int32))) = (0 : Int32)) => ?_) (fun (h144 : ¬ (f_Ref_bit (rs (ix ((if p1 = (0 : Int32) then (16 : Int32) else (24 : Int32)) + (6 : Int32)))) (if (f_Ref_bit (rs 1) (14 : Int32)) = (0 : Int32) then (1 : Int32) else (0 : Int32))) = (0 : Int32)) => ?_)
              · refine lv_iinc (v := (4 : Int32)) (lv' := [(4, .int (4 : Int32)), (6, .int (shl ((shr (rs (ix ((if p1 = (0 : Int32) then (16 : Int32) else (24 : Int32)) + (6 : Int32)))) (2 : Int32)) &&& (2047 : Int32)) (13 : Int32))), (5, .int (rs (ix ((if p1 = (0 : Int32) then (16 : Int32) else (24 : Int32)) + (6 : Int32))))), (3, .int (f_Ref_bit (rs 1) (14 : Int32))), (0, .ref aT), (1, .int p0), (2, .int p1)]) hx hb d_Ref_resolve_153 hl (k := 2) rfl (by decide) (by decide) rfl (fun ls hl => ?_)
                refine lv_goto (tgt := 48) hx hb d_Ref_resolve_156 (by decide) ?_
                refine lv_iload hx hb d_Ref_resolve_48 (lv_at hl 0 rfl) ?_
                refine lv_iconst (v := (4 : Int32)) hx hb d_Ref_resolve_50 (by decide) ?_
                refine lv_icmp_ge (tgt := 159) hx hb d_Ref_resolve_51 (by decide) (fun h145 => ?_) (fun h145 => ?_)
                rotate_left
                · exact absurd (by decide) h145
                refine lv_aload_n hx hb d_Ref_resolve_159 rfl (lv_at hl 4 rfl) ?_
                refine lv_iload_n hx hb d_Ref_resolve_160 rfl (lv_at hl 5 rfl) ?_
                refine lv_iload_n hx hb d_Ref_resolve_161 rfl (lv_at hl 6 rfl) ?_
                refine lv_iload_n hx hb d_Ref_resolve_162 rfl (lv_at hl 3 rfl) ?_
                let t146 := (f_Ref_paged p0 p1 (f_Ref_bit (rs 1) (14 : Int32)) rs rm (0 : Int32) (-1 : Int32))
                refine k_cVi (As := [.int p0, .int p1, .int (f_Ref_bit (rs 1) (14 : Int32))]) (rest := []) (wr := []) (wj := [(aT, .inr (11, [.ref bG, .ref bS, .ref bM, .int rl, .int rk, .int t146.2.1, .int t146.2.2, .int rc, .int rd, .int ra, .int rb, .int rn, .int rf, .int rw])), (bG, .inl (dG, 32, .inl rg)), (bS, .inl (dS, 48, .inl rs)), (bM, .inl (dM, 16384, .inl rm))]) ⟨hx, hb, hml, hown, hB⟩ (c_Ref_paged l D aT bG bS bM dG dS dM rg rs rm rl rk (0 : Int32) (-1 : Int32) rc rd ra rb rn rf rw p0 p1 (f_Ref_bit (rs 1) (14 : Int32))) yl_Ref_paged mw_732 hK hN hP hD hS hA [0, 1, 2] [0, 1, 2, 3] [] [0, 1, 2, 3] rfl rfl rfl rfl (by decide +kernel) 0 rfl rfl rfl rfl hl.1 rfl (Nat.le_of_ble_eq_true rfl) ⟨Nat.le_of_ble_eq_true rfl, Nat.le_of_ble_eq_true rfl⟩ d_Ref_resolve_163 ⟨Nat.le_of_ble_eq_true rfl, Nat.le_of_ble_eq_true rfl⟩ (fun H locs hP hD hS => ?_)
                have ef : f_Ref_resolve p0 p1 rs rm = (t146.1, t146.2.1, t146.2.2) := by unfold f_Ref_resolve; try dsimp only; rw [if_neg h6, if_pos h18, if_neg h30, if_neg h96, if_neg h108, if_neg h132, if_pos h144]
                exact k_iret hx hb hr hlocks hK hP hD hS [0, 1, 2, 3] rfl (by rw [ef] <;> rfl) (by rw [ef] <;> rfl) d_Ref_resolve_166
              · refine lv_iload_n hx hb d_Ref_resolve_107 rfl (lv_at hl 5 rfl) ?_
                refine lv_iload hx hb d_Ref_resolve_108 (lv_at hl 1 rfl) ?_
                refine lv_ixor hx hb d_Ref_resolve_110 ?_
                refine lv_iload hx hb d_Ref_resolve_111 (lv_at hl 0 rfl) ?_
                refine lv_iconst (v := (-1 : Int32)) hx hb d_Ref_resolve_113 (by decide) ?_
                refine lv_ixor hx hb d_Ref_resolve_114 ?_
                refine lv_iand hx hb d_Ref_resolve_115 ?_
                refine lv_sipush (v := (-8192 : Int32)) hx hb d_Ref_resolve_116 (by decide) ?_
                refine lv_iand hx hb d_Ref_resolve_119 ?_
                refine lv_if_ne (tgt := 153) hx hb d_Ref_resolve_120 (by decide) (fun (h147 : ¬ (((p0 ^^^ (rs (ix ((if p1 = (0 : Int32) then (16 : Int32) else (24 : Int32)) + (6 : Int32))))) &&& ((shl ((shr (rs (ix ((if p1 = (0 : Int32) then (16 : Int32) else (24 : Int32)) + (6 : Int32)))) (2 : Int32)) &&& (2047 : Int32)) (13 : Int32)) ^^^ (-1 : Int32))) &&& (-8192 : Int32)) = (0 : Int32)) => ?_) (fun (h147 : (((p0 ^^^ (rs (ix ((if p1 = (0 : Int32) then (16 : Int32) else (24 : Int32)) + (6 : Int32))))) &&& ((shl ((shr (rs (ix ((if p1 = (0 : Int32) then (16 : Int32) else (24 : Int32)) + (6 : Int32)))) (2 : Int32)) &&& (2047 : Int32)) (13 : Int32)) ^^^ (-1 : Int32))) &&& (-8192 : Int32)) = (0 : Int32)) => ?_)
                · refine lv_iinc (v := (4 : Int32)) (lv' := [(4, .int (4 : Int32)), (6, .int (shl ((shr (rs (ix ((if p1 = (0 : Int32) then (16 : Int32) else (24 : Int32)) + (6 : Int32)))) (2 : Int32)) &&& (2047 : Int32)) (13 : Int32))), (5, .int (rs (ix ((if p1 = (0 : Int32) then (16 : Int32) else (24 : Int32)) + (6 : Int32))))), (3, .int (f_Ref_bit (rs 1) (14 : Int32))), (0, .ref aT), (1, .int p0), (2, .int p1)]) hx hb d_Ref_resolve_153 hl (k := 2) rfl (by decide) (by decide) rfl (fun ls hl => ?_)
                  refine lv_goto (tgt := 48) hx hb d_Ref_resolve_156 (by decide) ?_
                  refine lv_iload hx hb d_Ref_resolve_48 (lv_at hl 0 rfl) ?_
                  refine lv_iconst (v := (4 : Int32)) hx hb d_Ref_resolve_50 (by decide) ?_
                  refine lv_icmp_ge (tgt := 159) hx hb d_Ref_resolve_51 (by decide) (fun h148 => ?_) (fun h148 => ?_)
                  rotate_left
                  · exact absurd (by decide) h148
                  refine lv_aload_n hx hb d_Ref_resolve_159 rfl (lv_at hl 4 rfl) ?_
                  refine lv_iload_n hx hb d_Ref_resolve_160 rfl (lv_at hl 5 rfl) ?_
                  refine lv_iload_n hx hb d_Ref_resolve_161 rfl (lv_at hl 6 rfl) ?_
                  refine lv_iload_n hx hb d_Ref_resolve_162 rfl (lv_at hl 3 rfl) ?_
                  let t149 := (f_Ref_paged p0 p1 (f_Ref_bit (rs 1) (14 : Int32)) rs rm (0 : Int32) (-1 : Int32))
                  refine k_cVi (As := [.int p0, .int p1, .int (f_Ref_bit (rs 1) (14 : Int32))]) (rest := []) (wr := []) (wj := [(aT, .inr (11, [.ref bG, .ref bS, .ref bM, .int rl, .int rk, .int t149.2.1, .int t149.2.2, .int rc, .int rd, .int ra, .int rb, .int rn, .int rf, .int rw])), (bG, .inl (dG, 32, .inl rg)), (bS, .inl (dS, 48, .inl rs)), (bM, .inl (dM, 16384, .inl rm))]) ⟨hx, hb, hml, hown, hB⟩ (c_Ref_paged l D aT bG bS bM dG dS dM rg rs rm rl rk (0 : Int32) (-1 : Int32) rc rd ra rb rn rf rw p0 p1 (f_Ref_bit (rs 1) (14 : Int32))) yl_Ref_paged mw_732 hK hN hP hD hS hA [0, 1, 2] [0, 1, 2, 3] [] [0, 1, 2, 3] rfl rfl rfl rfl (by decide +kernel) 0 rfl rfl rfl rfl hl.1 rfl (Nat.le_of_ble_eq_true rfl) ⟨Nat.le_of_ble_eq_true rfl, Nat.le_of_ble_eq_true rfl⟩ d_Ref_resolve_163 ⟨Nat.le_of_ble_eq_true rfl, Nat.le_of_ble_eq_true rfl⟩ (fun H locs hP hD hS => ?_)
                  have ef : f_Ref_resolve p0 p1 rs rm = (t149.1, t149.2.1, t149.2.2) := by unfold f_Ref_resolve; try dsimp only; rw [if_neg h6, if_pos h18, if_neg h30, if_neg h96, if_neg h108, if_neg h132, if_neg h144, if_neg h147]
                  exact k_iret hx hb hr hlocks hK hP hD hS [0, 1, 2, 3] rfl (by rw [ef] <;> rfl) (by rw [ef] <;> rfl) d_Ref_resolve_166
                · refine lv_aload_n hx hb d_Ref_resolve_123 rfl (lv_at hl 4 rfl) ?_
                  refine lv_iload_n hx hb d_Ref_resolve_124 rfl (lv_at hl 5 rfl) ?_
                  refine lv_aload_n hx hb d_Ref_resolve_125 rfl (lv_at hl 4 rfl) ?_
                  refine va_get (D := D) (ci := 11) (v := .ref bS) (C := "MappedProcessorModel") (T := T_Ref) (N := 14) hx hb hB iw_Ref hown hK hP 0 rfl rfl 1 (by decide) (hB _ mw_644) (fun _ h9 => h9) rfl d_Ref_resolve_126 ?_
                  refine lv_iload_n hx hb d_Ref_resolve_129 rfl (lv_at hl 6 rfl) ?_
                  refine k_join2 (c0 := p1 = (0 : Int32)) (x1 := (17 : Int32)) (x2 := (25 : Int32)) (rest := [.ref bS, .int p0, .ref aT]) 140 ?_ (fun k151 k152 => ?_)
                  rotate_left
                  · refine lv_if_ne (tgt := 138) hx hb d_Ref_resolve_130 (by decide) (fun (h150 : ¬ p1 = (0 : Int32)) => ?_) (fun (h150 : p1 = (0 : Int32)) => ?_)
                    · refine lv_bipush (v := (25 : Int32)) hx hb d_Ref_resolve_138 (by decide) ?_
                      exact k152 h150
                    · refine lv_bipush (v := (17 : Int32)) hx hb d_Ref_resolve_133 (by decide) ?_
                      refine lv_goto (tgt := 140) hx hb d_Ref_resolve_135 (by decide) ?_
                      exact k151 h150
                  refine lv_iconst (v := (2 : Int32)) hx hb d_Ref_resolve_140 (by decide) ?_
                  refine lv_iload hx hb d_Ref_resolve_141 (lv_at hl 2 rfl) ?_
                  refine lv_imul hx hb d_Ref_resolve_143 ?_
                  refine k_fold (6 : Int32) (by decide) ?_
                  refine lv_iadd hx hb d_Ref_resolve_144 ?_
                  refine k_iald (j := (ix ((if p1 = (0 : Int32) then (17 : Int32) else (25 : Int32)) + (6 : Int32)))) hx hb hK hP 2 1 rfl rfl rfl (by split <;> (unfold vp_in; decide)) d_Ref_resolve_145 ?_
                  refine lv_iload hx hb d_Ref_resolve_146 (lv_at hl 0 rfl) ?_
                  refine lv_iload_n hx hb d_Ref_resolve_148 rfl (lv_at hl 6 rfl) ?_
                  let t155 := (f_Ref_block p0 (rs (ix ((if p1 = (0 : Int32) then (17 : Int32) else (25 : Int32)) + (6 : Int32)))) (shl ((shr (rs (ix ((if p1 = (0 : Int32) then (16 : Int32) else (24 : Int32)) + (6 : Int32)))) (2 : Int32)) &&& (2047 : Int32)) (13 : Int32)) p1 (0 : Int32))
                  refine k_cVi (As := [.int p0, .int (rs (ix ((if p1 = (0 : Int32) then (17 : Int32) else (25 : Int32)) + (6 : Int32)))), .int (shl ((shr (rs (ix ((if p1 = (0 : Int32) then (16 : Int32) else (24 : Int32)) + (6 : Int32)))) (2 : Int32)) &&& (2047 : Int32)) (13 : Int32)), .int p1]) (rest := []) (wr := []) (wj := [(aT, .inr (11, [.ref bG, .ref bS, .ref bM, .int rl, .int rk, .int t155.2, .int (-1 : Int32), .int rc, .int rd, .int ra, .int rb, .int rn, .int rf, .int rw])), (bG, .inl (dG, 32, .inl rg)), (bS, .inl (dS, 48, .inl rs)), (bM, .inl (dM, 16384, .inl rm))]) ⟨hx, hb, hml, hown, hB⟩ (c_Ref_block l D aT bG bS bM dG dS dM rg rs rm rl rk (0 : Int32) (-1 : Int32) rc rd ra rb rn rf rw p0 (rs (ix ((if p1 = (0 : Int32) then (17 : Int32) else (25 : Int32)) + (6 : Int32)))) (shl ((shr (rs (ix ((if p1 = (0 : Int32) then (16 : Int32) else (24 : Int32)) + (6 : Int32)))) (2 : Int32)) &&& (2047 : Int32)) (13 : Int32)) p1) yl_Ref_block mw_728 hK hN hP hD hS hA [0, 1, 2] [0, 1, 2, 3] [] [0, 1, 2, 3] rfl rfl rfl rfl (by decide +kernel) 0 rfl rfl rfl rfl hl.1 rfl (Nat.le_of_ble_eq_true rfl) ⟨Nat.le_of_ble_eq_true rfl, Nat.le_of_ble_eq_true rfl⟩ d_Ref_resolve_149 ⟨Nat.le_of_ble_eq_true rfl, Nat.le_of_ble_eq_true rfl⟩ (fun H locs hP hD hS => ?_)
                  have ef : f_Ref_resolve p0 p1 rs rm = (t155.1, t155.2, (-1 : Int32)) := by unfold f_Ref_resolve; try dsimp only; rw [if_neg h6, if_pos h18, if_neg h30, if_neg h96, if_neg h108, if_neg h132, if_neg h144, if_pos h147]
                  exact k_iret hx hb hr hlocks hK hP hD hS [0, 1, 2, 3] rfl (by rw [ef] <;> rfl) (by rw [ef] <;> rfl) d_Ref_resolve_152
            · refine lv_aload_n hx hb d_Ref_resolve_123 rfl (lv_at hl 4 rfl) ?_
              refine lv_iload_n hx hb d_Ref_resolve_124 rfl (lv_at hl 5 rfl) ?_
              refine lv_aload_n hx hb d_Ref_resolve_125 rfl (lv_at hl 4 rfl) ?_
              refine va_get (D := D) (ci := 11) (v := .ref bS) (C := "MappedProcessorModel") (T := T_Ref) (N := 14) hx hb hB iw_Ref hown hK hP 0 rfl rfl 1 (by decide) (hB _ mw_644) (fun _ h9 => h9) rfl d_Ref_resolve_126 ?_
              refine lv_iload_n hx hb d_Ref_resolve_129 rfl (lv_at hl 6 rfl) ?_
              refine k_join2 (c0 := p1 = (0 : Int32)) (x1 := (17 : Int32)) (x2 := (25 : Int32)) (rest := [.ref bS, .int p0, .ref aT]) 140 ?_ (fun k157 k158 => ?_)
              rotate_left
              · refine lv_if_ne (tgt := 138) hx hb d_Ref_resolve_130 (by decide) (fun (h156 : ¬ p1 = (0 : Int32)) => ?_) (fun (h156 : p1 = (0 : Int32)) => ?_)
                · refine lv_bipush (v := (25 : Int32)) hx hb d_Ref_resolve_138 (by decide) ?_
                  exact k158 h156
                · refine lv_bipush (v := (17 : Int32)) hx hb d_Ref_resolve_133 (by decide) ?_
                  refine lv_goto (tgt := 140) hx hb d_Ref_resolve_135 (by decide) ?_
                  exact k157 h156
              refine lv_iconst (v := (2 : Int32)) hx hb d_Ref_resolve_140 (by decide) ?_
              refine lv_iload hx hb d_Ref_resolve_141 (lv_at hl 2 rfl) ?_
              refine lv_imul hx hb d_Ref_resolve_143 ?_
              refine k_fold (4 : Int32) (by decide) ?_
              refine lv_iadd hx hb d_Ref_resolve_144 ?_
              refine k_iald (j := (ix ((if p1 = (0 : Int32) then (17 : Int32) else (25 : Int32)) + (4 : Int32)))) hx hb hK hP 2 1 rfl rfl rfl (by split <;> (unfold vp_in; decide)) d_Ref_resolve_145 ?_
              refine lv_iload hx hb d_Ref_resolve_146 (lv_at hl 0 rfl) ?_
              refine lv_iload_n hx hb d_Ref_resolve_148 rfl (lv_at hl 6 rfl) ?_
              let t161 := (f_Ref_block p0 (rs (ix ((if p1 = (0 : Int32) then (17 : Int32) else (25 : Int32)) + (4 : Int32)))) (shl ((shr (rs (ix ((if p1 = (0 : Int32) then (16 : Int32) else (24 : Int32)) + (4 : Int32)))) (2 : Int32)) &&& (2047 : Int32)) (13 : Int32)) p1 (0 : Int32))
              refine k_cVi (As := [.int p0, .int (rs (ix ((if p1 = (0 : Int32) then (17 : Int32) else (25 : Int32)) + (4 : Int32)))), .int (shl ((shr (rs (ix ((if p1 = (0 : Int32) then (16 : Int32) else (24 : Int32)) + (4 : Int32)))) (2 : Int32)) &&& (2047 : Int32)) (13 : Int32)), .int p1]) (rest := []) (wr := []) (wj := [(aT, .inr (11, [.ref bG, .ref bS, .ref bM, .int rl, .int rk, .int t161.2, .int (-1 : Int32), .int rc, .int rd, .int ra, .int rb, .int rn, .int rf, .int rw])), (bG, .inl (dG, 32, .inl rg)), (bS, .inl (dS, 48, .inl rs)), (bM, .inl (dM, 16384, .inl rm))]) ⟨hx, hb, hml, hown, hB⟩ (c_Ref_block l D aT bG bS bM dG dS dM rg rs rm rl rk (0 : Int32) (-1 : Int32) rc rd ra rb rn rf rw p0 (rs (ix ((if p1 = (0 : Int32) then (17 : Int32) else (25 : Int32)) + (4 : Int32)))) (shl ((shr (rs (ix ((if p1 = (0 : Int32) then (16 : Int32) else (24 : Int32)) + (4 : Int32)))) (2 : Int32)) &&& (2047 : Int32)) (13 : Int32)) p1) yl_Ref_block mw_728 hK hN hP hD hS hA [0, 1, 2] [0, 1, 2, 3] [] [0, 1, 2, 3] rfl rfl rfl rfl (by decide +kernel) 0 rfl rfl rfl rfl hl.1 rfl (Nat.le_of_ble_eq_true rfl) ⟨Nat.le_of_ble_eq_true rfl, Nat.le_of_ble_eq_true rfl⟩ d_Ref_resolve_149 ⟨Nat.le_of_ble_eq_true rfl, Nat.le_of_ble_eq_true rfl⟩ (fun H locs hP hD hS => ?_)
              have ef : f_Ref_resolve p0 p1 rs rm = (t161.1, t161.2, (-1 : Int32)) := by unfold f_Ref_resolve; try dsimp only; rw [if_neg h6, if_pos h18, if_neg h30, if_neg h96, if_neg h108, if_pos h132]
              exact k_iret hx hb hr hlocks hK hP hD hS [0, 1, 2, 3] rfl (by rw [ef] <;> rfl) (by rw [ef] <;> rfl) d_Ref_resolve_152
        · refine lv_aload_n hx hb d_Ref_resolve_123 rfl (lv_at hl 4 rfl) ?_
          refine lv_iload_n hx hb d_Ref_resolve_124 rfl (lv_at hl 5 rfl) ?_
          refine lv_aload_n hx hb d_Ref_resolve_125 rfl (lv_at hl 4 rfl) ?_
          refine va_get (D := D) (ci := 11) (v := .ref bS) (C := "MappedProcessorModel") (T := T_Ref) (N := 14) hx hb hB iw_Ref hown hK hP 0 rfl rfl 1 (by decide) (hB _ mw_644) (fun _ h9 => h9) rfl d_Ref_resolve_126 ?_
          refine lv_iload_n hx hb d_Ref_resolve_129 rfl (lv_at hl 6 rfl) ?_
          refine k_join2 (c0 := p1 = (0 : Int32)) (x1 := (17 : Int32)) (x2 := (25 : Int32)) (rest := [.ref bS, .int p0, .ref aT]) 140 ?_ (fun k163 k164 => ?_)
          rotate_left
          · refine lv_if_ne (tgt := 138) hx hb d_Ref_resolve_130 (by decide) (fun (h162 : ¬ p1 = (0 : Int32)) => ?_) (fun (h162 : p1 = (0 : Int32)) => ?_)
            · refine lv_bipush (v := (25 : Int32)) hx hb d_Ref_resolve_138 (by decide) ?_
              exact k164 h162
            · refine lv_bipush (v := (17 : Int32)) hx hb d_Ref_resolve_133 (by decide) ?_
              refine lv_goto (tgt := 140) hx hb d_Ref_resolve_135 (by decide) ?_
              exact k163 h162
          refine lv_iconst (v := (2 : Int32)) hx hb d_Ref_resolve_140 (by decide) ?_
          refine lv_iload hx hb d_Ref_resolve_141 (lv_at hl 2 rfl) ?_
          refine lv_imul hx hb d_Ref_resolve_143 ?_
          refine k_fold (2 : Int32) (by decide) ?_
          refine lv_iadd hx hb d_Ref_resolve_144 ?_
          refine k_iald (j := (ix ((if p1 = (0 : Int32) then (17 : Int32) else (25 : Int32)) + (2 : Int32)))) hx hb hK hP 2 1 rfl rfl rfl (by split <;> (unfold vp_in; decide)) d_Ref_resolve_145 ?_
          refine lv_iload hx hb d_Ref_resolve_146 (lv_at hl 0 rfl) ?_
          refine lv_iload_n hx hb d_Ref_resolve_148 rfl (lv_at hl 6 rfl) ?_
          let t167 := (f_Ref_block p0 (rs (ix ((if p1 = (0 : Int32) then (17 : Int32) else (25 : Int32)) + (2 : Int32)))) (shl ((shr (rs (ix ((if p1 = (0 : Int32) then (16 : Int32) else (24 : Int32)) + (2 : Int32)))) (2 : Int32)) &&& (2047 : Int32)) (13 : Int32)) p1 (0 : Int32))
          refine k_cVi (As := [.int p0, .int (rs (ix ((if p1 = (0 : Int32) then (17 : Int32) else (25 : Int32)) + (2 : Int32)))), .int (shl ((shr (rs (ix ((if p1 = (0 : Int32) then (16 : Int32) else (24 : Int32)) + (2 : Int32)))) (2 : Int32)) &&& (2047 : Int32)) (13 : Int32)), .int p1]) (rest := []) (wr := []) (wj := [(aT, .inr (11, [.ref bG, .ref bS, .ref bM, .int rl, .int rk, .int t167.2, .int (-1 : Int32), .int rc, .int rd, .int ra, .int rb, .int rn, .int rf, .int rw])), (bG, .inl (dG, 32, .inl rg)), (bS, .inl (dS, 48, .inl rs)), (bM, .inl (dM, 16384, .inl rm))]) ⟨hx, hb, hml, hown, hB⟩ (c_Ref_block l D aT bG bS bM dG dS dM rg rs rm rl rk (0 : Int32) (-1 : Int32) rc rd ra rb rn rf rw p0 (rs (ix ((if p1 = (0 : Int32) then (17 : Int32) else (25 : Int32)) + (2 : Int32)))) (shl ((shr (rs (ix ((if p1 = (0 : Int32) then (16 : Int32) else (24 : Int32)) + (2 : Int32)))) (2 : Int32)) &&& (2047 : Int32)) (13 : Int32)) p1) yl_Ref_block mw_728 hK hN hP hD hS hA [0, 1, 2] [0, 1, 2, 3] [] [0, 1, 2, 3] rfl rfl rfl rfl (by decide +kernel) 0 rfl rfl rfl rfl hl.1 rfl (Nat.le_of_ble_eq_true rfl) ⟨Nat.le_of_ble_eq_true rfl, Nat.le_of_ble_eq_true rfl⟩ d_Ref_resolve_149 ⟨Nat.le_of_ble_eq_true rfl, Nat.le_of_ble_eq_true rfl⟩ (fun H locs hP hD hS => ?_)
          have ef : f_Ref_resolve p0 p1 rs rm = (t167.1, t167.2, (-1 : Int32)) := by unfold f_Ref_resolve; try dsimp only; rw [if_neg h6, if_pos h18, if_neg h30, if_pos h96]
          exact k_iret hx hb hr hlocks hK hP hD hS [0, 1, 2, 3] rfl (by rw [ef] <;> rfl) (by rw [ef] <;> rfl) d_Ref_resolve_152
    · refine lv_iload_n hx hb d_Ref_resolve_107 rfl (lv_at hl 5 rfl) ?_
      refine lv_iload hx hb d_Ref_resolve_108 (lv_at hl 1 rfl) ?_
      refine lv_ixor hx hb d_Ref_resolve_110 ?_
      refine lv_iload hx hb d_Ref_resolve_111 (lv_at hl 0 rfl) ?_
      refine lv_iconst (v := (-1 : Int32)) hx hb d_Ref_resolve_113 (by decide) ?_
      refine lv_ixor hx hb d_Ref_resolve_114 ?_
      refine lv_iand hx hb d_Ref_resolve_115 ?_
      refine lv_sipush (v := (-8192 : Int32)) hx hb d_Ref_resolve_116 (by decide) ?_
      refine lv_iand hx hb d_Ref_resolve_119 ?_
      refine lv_if_ne (tgt := 153) hx hb d_Ref_resolve_120 (by decide) (fun (h168 : ¬ (((p0 ^^^ (rs (ix ((if p1 = (0 : Int32) then (16 : Int32) else (24 : Int32)) + (0 : Int32))))) &&& ((shl ((shr (rs (ix ((if p1 = (0 : Int32) then (16 : Int32) else (24 : Int32)) + (0 : Int32)))) (2 : Int32)) &&& (2047 : Int32)) (13 : Int32)) ^^^ (-1 : Int32))) &&& (-8192 : Int32)) = (0 : Int32)) => ?_) (fun (h168 : (((p0 ^^^ (rs (ix ((if p1 = (0 : Int32) then (16 : Int32) else (24 : Int32)) + (0 : Int32))))) &&& ((shl ((shr (rs (ix ((if p1 = (0 : Int32) then (16 : Int32) else (24 : Int32)) + (0 : Int32)))) (2 : Int32)) &&& (2047 : Int32)) (13 : Int32)) ^^^ (-1 : Int32))) &&& (-8192 : Int32)) = (0 : Int32)) => ?_)
      · refine lv_iinc (v := (1 : Int32)) (lv' := [(4, .int (1 : Int32)), (6, .int (shl ((shr (rs (ix ((if p1 = (0 : Int32) then (16 : Int32) else (24 : Int32)) + (0 : Int32)))) (2 : Int32)) &&& (2047 : Int32)) (13 : Int32))), (5, .int (rs (ix ((if p1 = (0 : Int32) then (16 : Int32) else (24 : Int32)) + (0 : Int32))))), (3, .int (f_Ref_bit (rs 1) (14 : Int32))), (0, .ref aT), (1, .int p0), (2, .int p1)]) hx hb d_Ref_resolve_153 hl (k := 2) rfl (by decide) (by decide) rfl (fun ls hl => ?_)
        refine lv_goto (tgt := 48) hx hb d_Ref_resolve_156 (by decide) ?_
        refine lv_iload hx hb d_Ref_resolve_48 (lv_at hl 0 rfl) ?_
        refine lv_iconst (v := (4 : Int32)) hx hb d_Ref_resolve_50 (by decide) ?_
        refine lv_icmp_ge (tgt := 159) hx hb d_Ref_resolve_51 (by decide) (fun h169 => ?_) (fun h169 => ?_)
        · exact absurd h169 (by decide)
        refine lv_aload_n hx hb d_Ref_resolve_54 rfl (lv_at hl 4 rfl) ?_
        refine va_get (D := D) (ci := 11) (v := .ref bS) (C := "MappedProcessorModel") (T := T_Ref) (N := 14) hx hb hB iw_Ref hown hK hP 0 rfl rfl 1 (by decide) (hB _ mw_644) (fun _ h9 => h9) rfl d_Ref_resolve_55 ?_
        refine lv_iload_n hx hb d_Ref_resolve_58 rfl (lv_at hl 6 rfl) ?_
        refine k_join2 (c0 := p1 = (0 : Int32)) (x1 := (16 : Int32)) (x2 := (24 : Int32)) (rest := [.ref bS]) 69 ?_ (fun k171 k172 => ?_)
        rotate_left
        · refine lv_if_ne (tgt := 67) hx hb d_Ref_resolve_59 (by decide) (fun (h170 : ¬ p1 = (0 : Int32)) => ?_) (fun (h170 : p1 = (0 : Int32)) => ?_)
          · refine lv_bipush (v := (24 : Int32)) hx hb d_Ref_resolve_67 (by decide) ?_
            exact k172 h170
          · refine lv_bipush (v := (16 : Int32)) hx hb d_Ref_resolve_62 (by decide) ?_
            refine lv_goto (tgt := 69) hx hb d_Ref_resolve_64 (by decide) ?_
            exact k171 h170
        refine lv_iconst (v := (2 : Int32)) hx hb d_Ref_resolve_69 (by decide) ?_
        refine lv_iload hx hb d_Ref_resolve_70 (lv_at hl 0 rfl) ?_
        refine lv_imul hx hb d_Ref_resolve_72 ?_
        refine k_fold (2 : Int32) (by decide) ?_
        refine lv_iadd hx hb d_Ref_resolve_73 ?_
        refine k_iald (j := (ix ((if p1 = (0 : Int32) then (16 : Int32) else (24 : Int32)) + (2 : Int32)))) hx hb hK hP 2 1 rfl rfl rfl (by split <;> (unfold vp_in; decide)) d_Ref_resolve_74 ?_
        refine lv_istore (lv' := [(5, .int (rs (ix ((if p1 = (0 : Int32) then (16 : Int32) else (24 : Int32)) + (2 : Int32))))), (4, .int (1 : Int32)), (6, .int (shl ((shr (rs (ix ((if p1 = (0 : Int32) then (16 : Int32) else (24 : Int32)) + (0 : Int32)))) (2 : Int32)) &&& (2047 : Int32)) (13 : Int32))), (3, .int (f_Ref_bit (rs 1) (14 : Int32))), (0, .ref aT), (1, .int p0), (2, .int p1)]) hx hb d_Ref_resolve_75 hl (by decide) rfl (fun ls hl => ?_)
        refine lv_iload hx hb d_Ref_resolve_77 (lv_at hl 0 rfl) ?_
        refine lv_iconst (v := (2 : Int32)) hx hb d_Ref_resolve_79 (by decide) ?_
        refine lv_ishr hx hb d_Ref_resolve_80 ?_
        refine lv_sipush (v := (2047 : Int32)) hx hb d_Ref_resolve_81 (by decide) ?_
        refine lv_iand hx hb d_Ref_resolve_84 ?_
        refine lv_bipush (v := (13 : Int32)) hx hb d_Ref_resolve_85 (by decide) ?_
        refine lv_ishl hx hb d_Ref_resolve_87 ?_
        refine lv_istore (lv' := [(6, .int (shl ((shr (rs (ix ((if p1 = (0 : Int32) then (16 : Int32) else (24 : Int32)) + (2 : Int32)))) (2 : Int32)) &&& (2047 : Int32)) (13 : Int32))), (5, .int (rs (ix ((if p1 = (0 : Int32) then (16 : Int32) else (24 : Int32)) + (2 : Int32))))), (4, .int (1 : Int32)), (3, .int (f_Ref_bit (rs 1) (14 : Int32))), (0, .ref aT), (1, .int p0), (2, .int p1)]) hx hb d_Ref_resolve_88 hl (by decide) rfl (fun ls hl => ?_)
        refine lv_iload hx hb d_Ref_resolve_90 (lv_at hl 1 rfl) ?_
        refine lv_iload_n hx hb d_Ref_resolve_92 rfl (lv_at hl 3 rfl) ?_
        refine k_join2 (c0 := (f_Ref_bit (rs 1) (14 : Int32)) = (0 : Int32)) (x1 := (1 : Int32)) (x2 := (0 : Int32)) (rest := [.int (rs (ix ((if p1 = (0 : Int32) then (16 : Int32) else (24 : Int32)) + (2 : Int32))))]) 101 ?_ (fun k176 k177 => ?_)
        rotate_left
        · refine lv_if_eq (tgt := 100) hx hb d_Ref_resolve_93 (by decide) (fun (h175 : (f_Ref_bit (rs 1) (14 : Int32)) = (0 : Int32)) => ?_) (fun (h175 : ¬ (f_Ref_bit (rs 1) (14 : Int32)) = (0 : Int32)) => ?_)
          · refine lv_iconst (v := (1 : Int32)) hx hb d_Ref_resolve_100 (by decide) ?_
            exact k176 h175
          · refine lv_iconst (v := (0 : Int32)) hx hb d_Ref_resolve_96 (by decide) ?_
            refine lv_goto (tgt := 101) hx hb d_Ref_resolve_97 (by decide) ?_
            exact k177 h175
        refine k_cSi (As := [.int (rs (ix ((if p1 = (0 : Int32) then (16 : Int32) else (24 : Int32)) + (2 : Int32)))), .int (if (f_Ref_bit (rs 1) (14 : Int32)) = (0 : Int32) then (1 : Int32) else (0 : Int32))]) (rest := []) (wr := [(aT, .inr (11, [.ref bG, .ref bS, .ref bM, .int rl, .int rk, .int (0 : Int32), .int (-1 : Int32), .int rc, .int rd, .int ra, .int rb, .int rn, .int rf, .int rw])), (bG, .inl (dG, 32, .inl rg)), (bS, .inl (dS, 48, .inl rs)), (bM, .inl (dM, 16384, .inl rm))]) (wj := [(aT, .inr (11, [.ref bG, .ref bS, .ref bM, .int rl, .int rk, .int (0 : Int32), .int (-1 : Int32), .int rc, .int rd, .int ra, .int rb, .int rn, .int rf, .int rw])), (bG, .inl (dG, 32, .inl rg)), (bS, .inl (dS, 48, .inl rs)), (bM, .inl (dM, 16384, .inl rm))]) ⟨hx, hb, hml, hown, hB⟩ (c_Ref_bit l D (rs (ix ((if p1 = (0 : Int32) then (16 : Int32) else (24 : Int32)) + (2 : Int32)))) (if (f_Ref_bit (rs 1) (14 : Int32)) = (0 : Int32) then (1 : Int32) else (0 : Int32))) yl_Ref_bit mw_725 hK hN hP hD hS hA [] [] [0, 1, 2, 3] [0, 1, 2, 3] rfl rfl rfl rfl (by decide +kernel) rfl hl.1 rfl (Nat.le_of_ble_eq_true rfl) ⟨Nat.le_of_ble_eq_true rfl, Nat.le_of_ble_eq_true rfl⟩ d_Ref_resolve_101 ⟨Nat.le_of_ble_eq_true rfl, Nat.le_of_ble_eq_true rfl⟩ (fun H locs hP hD hS => ?_)
        refine lv_if_eq (tgt := 153) hx hb d_Ref_resolve_104 (by decide) (fun (h180 : (f_Ref_bit (rs (ix ((if p1 = (0 : Int32) then (16 : Int32) else (24 : Int32)) + (2 : Int32)))) (if (f_Ref_bit (rs 1) (14 : Int32)) = (0 : Int32) then (1 : Int32) else (0 : Int32))) = (0 : Int32)) => ?_) (fun (h180 : ¬ (f_Ref_bit (rs (ix ((if p1 = (0 : Int32) then (16 : Int32) else (24 : Int32)) + (2 : Int32)))) (if (f_Ref_bit (rs 1) (14 : Int32)) = (0 : Int32) then (1 : Int32) else (0 : Int32))) = (0 : Int32)) => ?_)
        · refine lv_iinc (v := (2 : Int32)) (lv' := [(4, .int (2 : Int32)), (6, .int (shl ((shr (rs (ix ((if p1 = (0 : Int32) then (16 : Int32) else (24 : Int32)) + (2 : Int32)))) (2 : Int32)) &&& (2047 : Int32)) (13 : Int32))), (5, .int (rs (ix ((if p1 = (0 : Int32) then (16 : Int32) else (24 : Int32)) + (2 : Int32))))), (3, .int (f_Ref_bit (rs 1) (14 : Int32))), (0, .ref aT), (1, .int p0), (2, .int p1)]) hx hb d_Ref_resolve_153 hl (k := 2) rfl (by decide) (by decide) rfl (fun ls hl => ?_)
          refine lv_goto (tgt := 48) hx hb d_Ref_resolve_156 (by decide) ?_
          refine lv_iload hx hb d_Ref_resolve_48 (lv_at hl 0 rfl) ?_
          refine lv_iconst (v := (4 : Int32)) hx hb d_Ref_resolve_50 (by decide) ?_
          refine lv_icmp_ge (tgt := 159) hx hb d_Ref_resolve_51 (by decide) (fun h181 => ?_) (fun h181 => ?_)
          · exact absurd h181 (by decide)
          refine lv_aload_n hx hb d_Ref_resolve_54 rfl (lv_at hl 4 rfl) ?_
          refine va_get (D := D) (ci := 11) (v := .ref bS) (C := "MappedProcessorModel") (T := T_Ref) (N := 14) hx hb hB iw_Ref hown hK hP 0 rfl rfl 1 (by decide) (hB _ mw_644) (fun _ h9 => h9) rfl d_Ref_resolve_55 ?_
          refine lv_iload_n hx hb d_Ref_resolve_58 rfl (lv_at hl 6 rfl) ?_
          refine k_join2 (c0 := p1 = (0 : Int32)) (x1 := (16 : Int32)) (x2 := (24 : Int32)) (rest := [.ref bS]) 69 ?_ (fun k183 k184 => ?_)
          rotate_left
          · refine lv_if_ne (tgt := 67) hx hb d_Ref_resolve_59 (by decide) (fun (h182 : ¬ p1 = (0 : Int32)) => ?_) (fun (h182 : p1 = (0 : Int32)) => ?_)
            · refine lv_bipush (v := (24 : Int32)) hx hb d_Ref_resolve_67 (by decide) ?_
              exact k184 h182
            · refine lv_bipush (v := (16 : Int32)) hx hb d_Ref_resolve_62 (by decide) ?_
              refine lv_goto (tgt := 69) hx hb d_Ref_resolve_64 (by decide) ?_
              exact k183 h182
          refine lv_iconst (v := (2 : Int32)) hx hb d_Ref_resolve_69 (by decide) ?_
          refine lv_iload hx hb d_Ref_resolve_70 (lv_at hl 0 rfl) ?_
          refine lv_imul hx hb d_Ref_resolve_72 ?_
          refine k_fold (4 : Int32) (by decide) ?_
          refine lv_iadd hx hb d_Ref_resolve_73 ?_
          refine k_iald (j := (ix ((if p1 = (0 : Int32) then (16 : Int32) else (24 : Int32)) + (4 : Int32)))) hx hb hK hP 2 1 rfl rfl rfl (by split <;> (unfold vp_in; decide)) d_Ref_resolve_74 ?_
          refine lv_istore (lv' := [(5, .int (rs (ix ((if p1 = (0 : Int32) then (16 : Int32) else (24 : Int32)) + (4 : Int32))))), (4, .int (2 : Int32)), (6, .int (shl ((shr (rs (ix ((if p1 = (0 : Int32) then (16 : Int32) else (24 : Int32)) + (2 : Int32)))) (2 : Int32)) &&& (2047 : Int32)) (13 : Int32))), (3, .int (f_Ref_bit (rs 1) (14 : Int32))), (0, .ref aT), (1, .int p0), (2, .int p1)]) hx hb d_Ref_resolve_75 hl (by decide) rfl (fun ls hl => ?_)
          refine lv_iload hx hb d_Ref_resolve_77 (lv_at hl 0 rfl) ?_
          refine lv_iconst (v := (2 : Int32)) hx hb d_Ref_resolve_79 (by decide) ?_
          refine lv_ishr hx hb d_Ref_resolve_80 ?_
          refine lv_sipush (v := (2047 : Int32)) hx hb d_Ref_resolve_81 (by decide) ?_
          refine lv_iand hx hb d_Ref_resolve_84 ?_
          refine lv_bipush (v := (13 : Int32)) hx hb d_Ref_resolve_85 (by decide) ?_
          refine lv_ishl hx hb d_Ref_resolve_87 ?_
          refine lv_istore (lv' := [(6, .int (shl ((shr (rs (ix ((if p1 = (0 : Int32) then (16 : Int32) else (24 : Int32)) + (4 : Int32)))) (2 : Int32)) &&& (2047 : Int32)) (13 : Int32))), (5, .int (rs (ix ((if p1 = (0 : Int32) then (16 : Int32) else (24 : Int32)) + (4 : Int32))))), (4, .int (2 : Int32)), (3, .int (f_Ref_bit (rs 1) (14 : Int32))), (0, .ref aT), (1, .int p0), (2, .int p1)]) hx hb d_Ref_resolve_88 hl (by decide) rfl (fun ls hl => ?_)
          refine lv_iload hx hb d_Ref_resolve_90 (lv_at hl 1 rfl) ?_
          refine lv_iload_n hx hb d_Ref_resolve_92 rfl (lv_at hl 3 rfl) ?_
          refine k_join2 (c0 := (f_Ref_bit (rs 1) (14 : Int32)) = (0 : Int32)) (x1 := (1 : Int32)) (x2 := (0 : Int32)) (rest := [.int (rs (ix ((if p1 = (0 : Int32) then (16 : Int32) else (24 : Int32)) + (4 : Int32))))]) 101 ?_ (fun k188 k189 => ?_)
          rotate_left
          · refine lv_if_eq (tgt := 100) hx hb d_Ref_resolve_93 (by decide) (fun (h187 : (f_Ref_bit (rs 1) (14 : Int32)) = (0 : Int32)) => ?_) (fun (h187 : ¬ (f_Ref_bit (rs 1) (14 : Int32)) = (0 : Int32)) => ?_)
            · refine lv_iconst (v := (1 : Int32)) hx hb d_Ref_resolve_100 (by decide) ?_
              exact k188 h187
            · refine lv_iconst (v := (0 : Int32)) hx hb d_Ref_resolve_96 (by decide) ?_
              refine lv_goto (tgt := 101) hx hb d_Ref_resolve_97 (by decide) ?_
              exact k189 h187
          refine k_cSi (As := [.int (rs (ix ((if p1 = (0 : Int32) then (16 : Int32) else (24 : Int32)) + (4 : Int32)))), .int (if (f_Ref_bit (rs 1) (14 : Int32)) = (0 : Int32) then (1 : Int32) else (0 : Int32))]) (rest := []) (wr := [(aT, .inr (11, [.ref bG, .ref bS, .ref bM, .int rl, .int rk, .int (0 : Int32), .int (-1 : Int32), .int rc, .int rd, .int ra, .int rb, .int rn, .int rf, .int rw])), (bG, .inl (dG, 32, .inl rg)), (bS, .inl (dS, 48, .inl rs)), (bM, .inl (dM, 16384, .inl rm))]) (wj := [(aT, .inr (11, [.ref bG, .ref bS, .ref bM, .int rl, .int rk, .int (0 : Int32), .int (-1 : Int32), .int rc, .int rd, .int ra, .int rb, .int rn, .int rf, .int rw])), (bG, .inl (dG, 32, .inl rg)), (bS, .inl (dS, 48, .inl rs)), (bM, .inl (dM, 16384, .inl rm))]) ⟨hx, hb, hml, hown, hB⟩ (c_Ref_bit l D (rs (ix ((if p1 = (0 : Int32) then (16 : Int32) else (24 : Int32)) + (4 : Int32)))) (if (f_Ref_bit (rs 1) (14 : Int32)) = (0 : Int32) then (1 : Int32) else (0 : Int32))) yl_Ref_bit mw_725 hK hN hP hD hS hA [] [] [0, 1, 2, 3] [0, 1, 2, 3] rfl rfl rfl rfl (by decide +kernel) rfl hl.1 rfl (Nat.le_of_ble_eq_true rfl) ⟨Nat.le_of_ble_eq_true rfl, Nat.le_of_ble_eq_true rfl⟩ d_Ref_resolve_101 ⟨Nat.le_of_ble_eq_true rfl, Nat.le_of_ble_eq_true rfl⟩ (fun H locs hP hD hS => ?_)
          refine lv_if_eq (tgt := 153) hx hb d_Ref_resolve_104 (by decide) (fun (h192 : (f_Ref_bit (rs (ix ((if p1 = (0 : Int32) then (16 : Int32) else (24 : Int32)) + (4 : Int32)))) (if (f_Ref_bit (rs 1) (14 : Int32)) = (0 : Int32) then (1 : Int32) else (0 : Int32))) = (0 : Int32)) => ?_) (fun (h192 : ¬ (f_Ref_bit (rs (ix ((if p1 = (0 : Int32) then (16 : Int32) else (24 : Int32)) + (4 : Int32)))) (if (f_Ref_bit (rs 1) (14 : Int32)) = (0 : Int32) then (1 : Int32) else (0 : Int32))) = (0 : Int32)) => ?_)
          · refine lv_iinc (v := (3 : Int32)) (lv' := [(4, .int (3 : Int32)), (6, .int (shl ((shr (rs (ix ((if p1 = (0 : Int32) then (16 : Int32) else (24 : Int32)) + (4 : Int32)))) (2 : Int32)) &&& (2047 : Int32)) (13 : Int32))), (5, .int (rs (ix ((if p1 = (0 : Int32) then (16 : Int32) else (24 : Int32)) + (4 : Int32))))), (3, .int (f_Ref_bit (rs 1) (14 : Int32))), (0, .ref aT), (1, .int p0), (2, .int p1)]) hx hb d_Ref_resolve_153 hl (k := 2) rfl (by decide) (by decide) rfl (fun ls hl => ?_)
            refine lv_goto (tgt := 48) hx hb d_Ref_resolve_156 (by decide) ?_
            refine lv_iload hx hb d_Ref_resolve_48 (lv_at hl 0 rfl) ?_
            refine lv_iconst (v := (4 : Int32)) hx hb d_Ref_resolve_50 (by decide) ?_
            refine lv_icmp_ge (tgt := 159) hx hb d_Ref_resolve_51 (by decide) (fun h193 => ?_) (fun h193 => ?_)
            · exact absurd h193 (by decide)
            refine lv_aload_n hx hb d_Ref_resolve_54 rfl (lv_at hl 4 rfl) ?_
            refine va_get (D := D) (ci := 11) (v := .ref bS) (C := "MappedProcessorModel") (T := T_Ref) (N := 14) hx hb hB iw_Ref hown hK hP 0 rfl rfl 1 (by decide) (hB _ mw_644) (fun _ h9 => h9) rfl d_Ref_resolve_55 ?_
            refine lv_iload_n hx hb d_Ref_resolve_58 rfl (lv_at hl 6 rfl) ?_
            refine k_join2 (c0 := p1 = (0 : Int32)) (x1 := (16 : Int32)) (x2 := (24 : Int32)) (rest := [.ref bS]) 69 ?_ (fun k195 k196 => ?_)
            rotate_left
            · refine lv_if_ne (tgt := 67) hx hb d_Ref_resolve_59 (by decide) (fun (h194 : ¬ p1 = (0 : Int32)) => ?_) (fun (h194 : p1 = (0 : Int32)) => ?_)
              · refine lv_bipush (v := (24 : Int32)) hx hb d_Ref_resolve_67 (by decide) ?_
                exact k196 h194
              · refine lv_bipush (v := (16 : Int32)) hx hb d_Ref_resolve_62 (by decide) ?_
                refine lv_goto (tgt := 69) hx hb d_Ref_resolve_64 (by decide) ?_
                exact k195 h194
            refine lv_iconst (v := (2 : Int32)) hx hb d_Ref_resolve_69 (by decide) ?_
            refine lv_iload hx hb d_Ref_resolve_70 (lv_at hl 0 rfl) ?_
            refine lv_imul hx hb d_Ref_resolve_72 ?_
            refine k_fold (6 : Int32) (by decide) ?_
            refine lv_iadd hx hb d_Ref_resolve_73 ?_
            refine k_iald (j := (ix ((if p1 = (0 : Int32) then (16 : Int32) else (24 : Int32)) + (6 : Int32)))) hx hb hK hP 2 1 rfl rfl rfl (by split <;> (unfold vp_in; decide)) d_Ref_resolve_74 ?_
            refine lv_istore (lv' := [(5, .int (rs (ix ((if p1 = (0 : Int32) then (16 : Int32) else (24 : Int32)) + (6 : Int32))))), (4, .int (3 : Int32)), (6, .int (shl ((shr (rs (ix ((if p1 = (0 : Int32) then (16 : Int32) else (24 : Int32)) + (4 : Int32)))) (2 : Int32)) &&& (2047 : Int32)) (13 : Int32))), (3, .int (f_Ref_bit (rs 1) (14 : Int32))), (0, .ref aT), (1, .int p0), (2, .int p1)]) hx hb d_Ref_resolve_75 hl (by decide) rfl (fun ls hl => ?_)
            refine lv_iload hx hb d_Ref_resolve_77 (lv_at hl 0 rfl) ?_
            refine lv_iconst (v := (2 : Int32)) hx hb d_Ref_resolve_79 (by decide) ?_
            refine lv_ishr hx hb d_Ref_resolve_80 ?_
            refine lv_sipush (v := (2047 : Int32)) hx hb d_Ref_resolve_81 (by decide) ?_
            refine lv_iand hx hb d_Ref_resolve_84 ?_
            refine lv_bipush (v := (13 : Int32)) hx hb d_Ref_resolve_85 (by decide) ?_
            refine lv_ishl hx hb d_Ref_resolve_87 ?_
            refine lv_istore (lv' := [(6, .int (shl ((shr (rs (ix ((if p1 = (0 : Int32) then (16 : Int32) else (24 : Int32)) + (6 : Int32)))) (2 : Int32)) &&& (2047 : Int32)) (13 : Int32))), (5, .int (rs (ix ((if p1 = (0 : Int32) then (16 : Int32) else (24 : Int32)) + (6 : Int32))))), (4, .int (3 : Int32)), (3, .int (f_Ref_bit (rs 1) (14 : Int32))), (0, .ref aT), (1, .int p0), (2, .int p1)]) hx hb d_Ref_resolve_88 hl (by decide) rfl (fun ls hl => ?_)
            refine lv_iload hx hb d_Ref_resolve_90 (lv_at hl 1 rfl) ?_
            refine lv_iload_n hx hb d_Ref_resolve_92 rfl (lv_at hl 3 rfl) ?_
            refine k_join2 (c0 := (f_Ref_bit (rs 1) (14 : Int32)) = (0 : Int32)) (x1 := (1 : Int32)) (x2 := (0 : Int32)) (rest := [.int (rs (ix ((if p1 = (0 : Int32) then (16 : Int32) else (24 : Int32)) + (6 : Int32))))]) 101 ?_ (fun k200 k201 => ?_)
            rotate_left
            · refine lv_if_eq (tgt := 100) hx hb d_Ref_resolve_93 (by decide) (fun (h199 : (f_Ref_bit (rs 1) (14 : Int32)) = (0 : Int32)) => ?_) (fun (h199 : ¬ (f_Ref_bit (rs 1) (14 : Int32)) = (0 : Int32)) => ?_)
              · refine lv_iconst (v := (1 : Int32)) hx hb d_Ref_resolve_100 (by decide) ?_
                exact k200 h199
              · refine lv_iconst (v := (0 : Int32)) hx hb d_Ref_resolve_96 (by decide) ?_
                refine lv_goto (tgt := 101) hx hb d_Ref_resolve_97 (by decide) ?_
                exact k201 h199
            refine k_cSi (As := [.int (rs (ix ((if p1 = (0 : Int32) then (16 : Int32) else (24 : Int32)) + (6 : Int32)))), .int (if (f_Ref_bit (rs 1) (14 : Int32)) = (0 : Int32) then (1 : Int32) else (0 : Int32))]) (rest := []) (wr := [(aT, .inr (11, [.ref bG, .ref bS, .ref bM, .int rl, .int rk, .int (0 : Int32), .int (-1 : Int32), .int rc, .int rd, .int ra, .int rb, .int rn, .int rf, .int rw])), (bG, .inl (dG, 32, .inl rg)), (bS, .inl (dS, 48, .inl rs)), (bM, .inl (dM, 16384, .inl rm))]) (wj := [(aT, .inr (11, [.ref bG, .ref bS, .ref bM, .int rl, .int rk, .int (0 : Int32), .int (-1 : Int32), .int rc, .int rd, .int ra, .int rb, .int rn, .int rf, .int rw])), (bG, .inl (dG, 32, .inl rg)), (bS, .inl (dS, 48, .inl rs)), (bM, .inl (dM, 16384, .inl rm))]) ⟨hx, hb, hml, hown, hB⟩ (c_Ref_bit l D (rs (ix ((if p1 = (0 : Int32) then (16 : Int32) else (24 : Int32)) + (6 : Int32)))) (if (f_Ref_bit (rs 1) (14 : Int32)) = (0 : Int32) then (1 : Int32) else (0 : Int32))) yl_Ref_bit mw_725 hK hN hP hD hS hA [] [] [0, 1, 2, 3] [0, 1, 2, 3] rfl rfl rfl rfl (by decide +kernel) rfl hl.1 rfl (Nat.le_of_ble_eq_true rfl) ⟨Nat.le_of_ble_eq_true rfl, Nat.le_of_ble_eq_true rfl⟩ d_Ref_resolve_101 ⟨Nat.le_of_ble_eq_true rfl, Nat.le_of_ble_eq_true rfl⟩ (fun H locs hP hD hS => ?_)
            refine lv_if_eq (tgt := 153) hx hb d_Ref_resolve_104 (by decide) (fun (h204 : (f_Ref_bit (rs (ix ((if p1 = (0 : Int32) then (16 : Int32) else (24 : Int32)) + (6 : Int32)))) (if (f_Ref_bit (rs 1) (14 : Int32)) = (0 : Int32) then (1 : Int32) else (0 : Int32))) = (0 : Int32)) => ?_) (fun (h204 : ¬ (f_Ref_bit (rs (ix ((if p1 = (0 : Int32) then (16 : Int32) else (24 : Int32)) + (6 : Int32)))) (if (f_Ref_bit (rs 1) (14 : Int32)) = (0 : Int32) then (1 : Int32) else (0 : Int32))) = (0 : Int32)) => ?_)
            · refine lv_iinc (v := (4 : Int32)) (lv' := [(4, .int (4 : Int32)), (6, .int (shl ((shr (rs (ix ((if p1 = (0 : Int32) then (16 : Int32) else (24 : Int32)) + (6 : Int32)))) (2 : Int32)) &&& (2047 : Int32)) (13 : Int32))), (5, .int (rs (ix ((if p1 = (0 : Int32) then (16 : Int32) else (24 : Int32)) + (6 : Int32))))), (3, .int (f_Ref_bit (rs 1) (14 : Int32))), (0, .ref aT), (1, .int p0), (2, .int p1)]) hx hb d_Ref_resolve_153 hl (k := 2) rfl (by decide) (by decide) rfl (fun ls hl => ?_)
              refine lv_goto (tgt := 48) hx hb d_Ref_resolve_156 (by decide) ?_
              refine lv_iload hx hb d_Ref_resolve_48 (lv_at hl 0 rfl) ?_
              refine lv_iconst (v := (4 : Int32)) hx hb d_Ref_resolve_50 (by decide) ?_
              refine lv_icmp_ge (tgt := 159) hx hb d_Ref_resolve_51 (by decide) (fun h205 => ?_) (fun h205 => ?_)
              rotate_left
              · exact absurd (by decide) h205
              refine lv_aload_n hx hb d_Ref_resolve_159 rfl (lv_at hl 4 rfl) ?_
              refine lv_iload_n hx hb d_Ref_resolve_160 rfl (lv_at hl 5 rfl) ?_
              refine lv_iload_n hx hb d_Ref_resolve_161 rfl (lv_at hl 6 rfl) ?_
              refine lv_iload_n hx hb d_Ref_resolve_162 rfl (lv_at hl 3 rfl) ?_
              let t206 := (f_Ref_paged p0 p1 (f_Ref_bit (rs 1) (14 : Int32)) rs rm (0 : Int32) (-1 : Int32))
              refine k_cVi (As := [.int p0, .int p1, .int (f_Ref_bit (rs 1) (14 : Int32))]) (rest := []) (wr := []) (wj := [(aT, .inr (11, [.ref bG, .ref bS, .ref bM, .int rl, .int rk, .int t206.2.1, .int t206.2.2, .int rc, .int rd, .int ra, .int rb, .int rn, .int rf, .int rw])), (bG, .inl (dG, 32, .inl rg)), (bS, .inl (dS, 48, .inl rs)), (bM, .inl (dM, 16384, .inl rm))]) ⟨hx, hb, hml, hown, hB⟩ (c_Ref_paged l D aT bG bS bM dG dS dM rg rs rm rl rk (0 : Int32) (-1 : Int32) rc rd ra rb rn rf rw p0 p1 (f_Ref_bit (rs 1) (14 : Int32))) yl_Ref_paged mw_732 hK hN hP hD hS hA [0, 1, 2] [0, 1, 2, 3] [] [0, 1, 2, 3] rfl rfl rfl rfl (by decide +kernel) 0 rfl rfl rfl rfl hl.1 rfl (Nat.le_of_ble_eq_true rfl) ⟨Nat.le_of_ble_eq_true rfl, Nat.le_of_ble_eq_true rfl⟩ d_Ref_resolve_163 ⟨Nat.le_of_ble_eq_true rfl, Nat.le_of_ble_eq_true rfl⟩ (fun H locs hP hD hS => ?_)
              have ef : f_Ref_resolve p0 p1 rs rm = (t206.1, t206.2.1, t206.2.2) := by unfold f_Ref_resolve; try dsimp only; rw [if_neg h6, if_neg h18, if_neg h168, if_pos h180, if_pos h192, if_pos h204]
              exact k_iret hx hb hr hlocks hK hP hD hS [0, 1, 2, 3] rfl (by rw [ef] <;> rfl) (by rw [ef] <;> rfl) d_Ref_resolve_166
            · refine lv_iload_n hx hb d_Ref_resolve_107 rfl (lv_at hl 5 rfl) ?_
              refine lv_iload hx hb d_Ref_resolve_108 (lv_at hl 1 rfl) ?_
              refine lv_ixor hx hb d_Ref_resolve_110 ?_
              refine lv_iload hx hb d_Ref_resolve_111 (lv_at hl 0 rfl) ?_
              refine lv_iconst (v := (-1 : Int32)) hx hb d_Ref_resolve_113 (by decide) ?_
              refine lv_ixor hx hb d_Ref_resolve_114 ?_
              refine lv_iand hx hb d_Ref_resolve_115 ?_
              refine lv_sipush (v := (-8192 : Int32)) hx hb d_Ref_resolve_116 (by decide) ?_
              refine lv_iand hx hb d_Ref_resolve_119 ?_
              refine lv_if_ne (tgt := 153) hx hb d_Ref_resolve_120 (by decide) (fun (h207 : ¬ (((p0 ^^^ (rs (ix ((if p1 = (0 : Int32) then (16 : Int32) else (24 : Int32)) + (6 : Int32))))) &&& ((shl ((shr (rs (ix ((if p1 = (0 : Int32) then (16 : Int32) else (24 : Int32)) + (6 : Int32)))) (2 : Int32)) &&& (2047 : Int32)) (13 : Int32)) ^^^ (-1 : Int32))) &&& (-8192 : Int32)) = (0 : Int32)) => ?_) (fun (h207 : (((p0 ^^^ (rs (ix ((if p1 = (0 : Int32) then (16 : Int32) else (24 : Int32)) + (6 : Int32))))) &&& ((shl ((shr (rs (ix ((if p1 = (0 : Int32) then (16 : Int32) else (24 : Int32)) + (6 : Int32)))) (2 : Int32)) &&& (2047 : Int32)) (13 : Int32)) ^^^ (-1 : Int32))) &&& (-8192 : Int32)) = (0 : Int32)) => ?_)
              · refine lv_iinc (v := (4 : Int32)) (lv' := [(4, .int (4 : Int32)), (6, .int (shl ((shr (rs (ix ((if p1 = (0 : Int32) then (16 : Int32) else (24 : Int32)) + (6 : Int32)))) (2 : Int32)) &&& (2047 : Int32)) (13 : Int32))), (5, .int (rs (ix ((if p1 = (0 : Int32) then (16 : Int32) else (24 : Int32)) + (6 : Int32))))), (3, .int (f_Ref_bit (rs 1) (14 : Int32))), (0, .ref aT), (1, .int p0), (2, .int p1)]) hx hb d_Ref_resolve_153 hl (k := 2) rfl (by decide) (by decide) rfl (fun ls hl => ?_)
                refine lv_goto (tgt := 48) hx hb d_Ref_resolve_156 (by decide) ?_
                refine lv_iload hx hb d_Ref_resolve_48 (lv_at hl 0 rfl) ?_
                refine lv_iconst (v := (4 : Int32)) hx hb d_Ref_resolve_50 (by decide) ?_
                refine lv_icmp_ge (tgt := 159) hx hb d_Ref_resolve_51 (by decide) (fun h208 => ?_) (fun h208 => ?_)
                rotate_left
                · exact absurd (by decide) h208
                refine lv_aload_n hx hb d_Ref_resolve_159 rfl (lv_at hl 4 rfl) ?_
                refine lv_iload_n hx hb d_Ref_resolve_160 rfl (lv_at hl 5 rfl) ?_
                refine lv_iload_n hx hb d_Ref_resolve_161 rfl (lv_at hl 6 rfl) ?_
                refine lv_iload_n hx hb d_Ref_resolve_162 rfl (lv_at hl 3 rfl) ?_
                let t209 := (f_Ref_paged p0 p1 (f_Ref_bit (rs 1) (14 : Int32)) rs rm (0 : Int32) (-1 : Int32))
                refine k_cVi (As := [.int p0, .int p1, .int (f_Ref_bit (rs 1) (14 : Int32))]) (rest := []) (wr := []) (wj := [(aT, .inr (11, [.ref bG, .ref bS, .ref bM, .int rl, .int rk, .int t209.2.1, .int t209.2.2, .int rc, .int rd, .int ra, .int rb, .int rn, .int rf, .int rw])), (bG, .inl (dG, 32, .inl rg)), (bS, .inl (dS, 48, .inl rs)), (bM, .inl (dM, 16384, .inl rm))]) ⟨hx, hb, hml, hown, hB⟩ (c_Ref_paged l D aT bG bS bM dG dS dM rg rs rm rl rk (0 : Int32) (-1 : Int32) rc rd ra rb rn rf rw p0 p1 (f_Ref_bit (rs 1) (14 : Int32))) yl_Ref_paged mw_732 hK hN hP hD hS hA [0, 1, 2] [0, 1, 2, 3] [] [0, 1, 2, 3] rfl rfl rfl rfl (by decide +kernel) 0 rfl rfl rfl rfl hl.1 rfl (Nat.le_of_ble_eq_true rfl) ⟨Nat.le_of_ble_eq_true rfl, Nat.le_of_ble_eq_true rfl⟩ d_Ref_resolve_163 ⟨Nat.le_of_ble_eq_true rfl, Nat.le_of_ble_eq_true rfl⟩ (fun H locs hP hD hS => ?_)
                have ef : f_Ref_resolve p0 p1 rs rm = (t209.1, t209.2.1, t209.2.2) := by unfold f_Ref_resolve; try dsimp only; rw [if_neg h6, if_neg h18, if_neg h168, if_pos h180, if_pos h192, if_neg h204, if_neg h207]
                exact k_iret hx hb hr hlocks hK hP hD hS [0, 1, 2, 3] rfl (by rw [ef] <;> rfl) (by rw [ef] <;> rfl) d_Ref_resolve_166
              · refine lv_aload_n hx hb d_Ref_resolve_123 rfl (lv_at hl 4 rfl) ?_
                refine lv_iload_n hx hb d_Ref_resolve_124 rfl (lv_at hl 5 rfl) ?_
                refine lv_aload_n hx hb d_Ref_resolve_125 rfl (lv_at hl 4 rfl) ?_
                refine va_get (D := D) (ci := 11) (v := .ref bS) (C := "MappedProcessorModel") (T := T_Ref) (N := 14) hx hb hB iw_Ref hown hK hP 0 rfl rfl 1 (by decide) (hB _ mw_644) (fun _ h9 => h9) rfl d_Ref_resolve_126 ?_
                refine lv_iload_n hx hb d_Ref_resolve_129 rfl (lv_at hl 6 rfl) ?_
                refine k_join2 (c0 := p1 = (0 : Int32)) (x1 := (17 : Int32)) (x2 := (25 : Int32)) (rest := [.ref bS, .int p0, .ref aT]) 140 ?_ (fun k211 k212 => ?_)
                rotate_left
                · refine lv_if_ne (tgt := 138) hx hb d_Ref_resolve_130 (by decide) (fun (h210 : ¬ p1 = (0 : Int32)) => ?_) (fun (h210 : p1 = (0 : Int32)) => ?_)
                  · refine lv_bipush (v := (25 : Int32)) hx hb d_Ref_resolve_138 (by decide) ?_
                    exact k212 h210
                  · refine lv_bipush (v := (17 : Int32)) hx hb d_Ref_resolve_133 (by decide) ?_
                    refine lv_goto (tgt := 140) hx hb d_Ref_resolve_135 (by decide) ?_
                    exact k211 h210
                refine lv_iconst (v := (2 : Int32)) hx hb d_Ref_resolve_140 (by decide) ?_
                refine lv_iload hx hb d_Ref_resolve_141 (lv_at hl 2 rfl) ?_
                refine lv_imul hx hb d_Ref_resolve_143 ?_
                refine k_fold (6 : Int32) (by decide) ?_
                refine lv_iadd hx hb d_Ref_resolve_144 ?_
                refine k_iald (j := (ix ((if p1 = (0 : Int32) then (17 : Int32) else (25 : Int32)) + (6 : Int32)))) hx hb hK hP 2 1 rfl rfl rfl (by split <;> (unfold vp_in; decide)) d_Ref_resolve_145 ?_
                refine lv_iload hx hb d_Ref_resolve_146 (lv_at hl 0 rfl) ?_
                refine lv_iload_n hx hb d_Ref_resolve_148 rfl (lv_at hl 6 rfl) ?_
                let t215 := (f_Ref_block p0 (rs (ix ((if p1 = (0 : Int32) then (17 : Int32) else (25 : Int32)) + (6 : Int32)))) (shl ((shr (rs (ix ((if p1 = (0 : Int32) then (16 : Int32) else (24 : Int32)) + (6 : Int32)))) (2 : Int32)) &&& (2047 : Int32)) (13 : Int32)) p1 (0 : Int32))
                refine k_cVi (As := [.int p0, .int (rs (ix ((if p1 = (0 : Int32) then (17 : Int32) else (25 : Int32)) + (6 : Int32)))), .int (shl ((shr (rs (ix ((if p1 = (0 : Int32) then (16 : Int32) else (24 : Int32)) + (6 : Int32)))) (2 : Int32)) &&& (2047 : Int32)) (13 : Int32)), .int p1]) (rest := []) (wr := []) (wj := [(aT, .inr (11, [.ref bG, .ref bS, .ref bM, .int rl, .int rk, .int t215.2, .int (-1 : Int32), .int rc, .int rd, .int ra, .int rb, .int rn, .int rf, .int rw])), (bG, .inl (dG, 32, .inl rg)), (bS, .inl (dS, 48, .inl rs)), (bM, .inl (dM, 16384, .inl rm))]) ⟨hx, hb, hml, hown, hB⟩ (c_Ref_block l D aT bG bS bM dG dS dM rg rs rm rl rk (0 : Int32) (-1 : Int32) rc rd ra rb rn rf rw p0 (rs (ix ((if p1 = (0 : Int32) then (17 : Int32) else (25 : Int32)) + (6 : Int32)))) (shl ((shr (rs (ix ((if p1 = (0 : Int32) then (16 : Int32) else (24 : Int32)) + (6 : Int32)))) (2 : Int32)) &&& (2047 : Int32)) (13 : Int32)) p1) yl_Ref_block mw_728 hK hN hP hD hS hA [0, 1, 2] [0, 1, 2, 3] [] [0, 1, 2, 3] rfl rfl rfl rfl (by decide +kernel) 0 rfl rfl rfl rfl hl.1 rfl (Nat.le_of_ble_eq_true rfl) ⟨Nat.le_of_ble_eq_true rfl, Nat.le_of_ble_eq_true rfl⟩ d_Ref_resolve_149 ⟨Nat.le_of_ble_eq_true rfl, Nat.le_of_ble_eq_true rfl⟩ (fun H locs hP hD hS => ?_)
                have ef : f_Ref_resolve p0 p1 rs rm = (t215.1, t215.2, (-1 : Int32)) := by unfold f_Ref_resolve; try dsimp only; rw [if_neg h6, if_neg h18, if_neg h168, if_pos h180, if_pos h192, if_neg h204, if_pos h207]
                exact k_iret hx hb hr hlocks hK hP hD hS [0, 1, 2, 3] rfl (by rw [ef] <;> rfl) (by rw [ef] <;> rfl) d_Ref_resolve_152
          · refine lv_iload_n hx hb d_Ref_resolve_107 rfl (lv_at hl 5 rfl) ?_
            refine lv_iload hx hb d_Ref_resolve_108 (lv_at hl 1 rfl) ?_
            refine lv_ixor hx hb d_Ref_resolve_110 ?_
            refine lv_iload hx hb d_Ref_resolve_111 (lv_at hl 0 rfl) ?_
            refine lv_iconst (v := (-1 : Int32)) hx hb d_Ref_resolve_113 (by decide) ?_
            refine lv_ixor hx hb d_Ref_resolve_114 ?_
            refine lv_iand hx hb d_Ref_resolve_115 ?_
            refine lv_sipush (v := (-8192 : Int32)) hx hb d_Ref_resolve_116 (by decide) ?_
            refine lv_iand hx hb d_Ref_resolve_119 ?_
            refine lv_if_ne (tgt := 153) hx hb d_Ref_resolve_120 (by decide) (fun (h216 : ¬ (((p0 ^^^ (rs (ix ((if p1 = (0 : Int32) then (16 : Int32) else (24 : Int32)) + (4 : Int32))))) &&& ((shl ((shr (rs (ix ((if p1 = (0 : Int32) then (16 : Int32) else (24 : Int32)) + (4 : Int32)))) (2 : Int32)) &&& (2047 : Int32)) (13 : Int32)) ^^^ (-1 : Int32))) &&& (-8192 : Int32)) = (0 : Int32)) => ?_) (fun (h216 : (((p0 ^^^ (rs (ix ((if p1 = (0 : Int32) then (16 : Int32) else (24 : Int32)) + (4 : Int32))))) &&& ((shl ((shr (rs (ix ((if p1 = (0 : Int32) then (16 : Int32) else (24 : Int32)) + (4 : Int32)))) (2 : Int32)) &&& (2047 : Int32)) (13 : Int32)) ^^^ (-1 : Int32))) &&& (-8192 : Int32)) = (0 : Int32)) => ?_)
            · refine lv_iinc (v := (3 : Int32)) (lv' := [(4, .int (3 : Int32)), (6, .int (shl ((shr (rs (ix ((if p1 = (0 : Int32) then (16 : Int32) else (24 : Int32)) + (4 : Int32)))) (2 : Int32)) &&& (2047 : Int32)) (13 : Int32))), (5, .int (rs (ix ((if p1 = (0 : Int32) then (16 : Int32) else (24 : Int32)) + (4 : Int32))))), (3, .int (f_Ref_bit (rs 1) (14 : Int32))), (0, .ref aT), (1, .int p0), (2, .int p1)]) hx hb d_Ref_resolve_153 hl (k := 2) rfl (by decide) (by decide) rfl (fun ls hl => ?_)
              refine lv_goto (tgt := 48) hx hb d_Ref_resolve_156 (by decide) ?_
              refine lv_iload hx hb d_Ref_resolve_48 (lv_at hl 0 rfl) ?_
              refine lv_iconst (v := (4 : Int32)) hx hb d_Ref_resolve_50 (by decide) ?_
              refine lv_icmp_ge (tgt := 159) hx hb d_Ref_resolve_51 (by decide) (fun h217 => ?_) (fun h217 => ?_)
              · exact absurd h217 (by decide)
              refine lv_aload_n hx hb d_Ref_resolve_54 rfl (lv_at hl 4 rfl) ?_
              refine va_get (D := D) (ci := 11) (v := .ref bS) (C := "MappedProcessorModel") (T := T_Ref) (N := 14) hx hb hB iw_Ref hown hK hP 0 rfl rfl 1 (by decide) (hB _ mw_644) (fun _ h9 => h9) rfl d_Ref_resolve_55 ?_
              refine lv_iload_n hx hb d_Ref_resolve_58 rfl (lv_at hl 6 rfl) ?_
              refine k_join2 (c0 := p1 = (0 : Int32)) (x1 := (16 : Int32)) (x2 := (24 : Int32)) (rest := [.ref bS]) 69 ?_ (fun k219 k220 => ?_)
              rotate_left
              · refine lv_if_ne (tgt := 67) hx hb d_Ref_resolve_59 (by decide) (fun (h218 : ¬ p1 = (0 : Int32)) => ?_) (fun (h218 : p1 = (0 : Int32)) => ?_)
                · refine lv_bipush (v := (24 : Int32)) hx hb d_Ref_resolve_67 (by decide) ?_
                  exact k220 h218
                · refine lv_bipush (v := (16 : Int32)) hx hb d_Ref_resolve_62 (by decide) ?_
                  refine lv_goto (tgt := 69) hx hb d_Ref_resolve_64 (by decide) ?_
                  exact k219 h218
              refine lv_iconst (v := (2 : Int32)) hx hb d_Ref_resolve_69 (by decide) ?_
              refine lv_iload hx hb d_Ref_resolve_70 (lv_at hl 0 rfl) ?_
              refine lv_imul hx hb d_Ref_resolve_72 ?_
              refine k_fold (6 : Int32) (by decide) ?_
              refine lv_iadd hx hb d_Ref_resolve_73 ?_
              refine k_iald (j := (ix ((if p1 = (0 : Int32) then (16 : Int32) else (24 : Int32)) + (6 : Int32)))) hx hb hK hP 2 1 rfl rfl rfl (by split <;> (unfold vp_in; decide)) d_Ref_resolve_74 ?_
              refine lv_istore (lv' := [(5, .int (rs (ix ((if p1 = (0 : Int32) then (16 : Int32) else (24 : Int32)) + (6 : Int32))))), (4, .int (3 : Int32)), (6, .int (shl ((shr (rs (ix ((if p1 = (0 : Int32) then (16 : Int32) else (24 : Int32)) + (4 : Int32)))) (2 : Int32)) &&& (2047 : Int32)) (13 : Int32))), (3, .int (f_Ref_bit (rs 1) (14 : Int32))), (0, .ref aT), (1, .int p0), (2, .int p1)]) hx hb d_Ref_resolve_75 hl (by decide) rfl (fun ls hl => ?_)
              refine lv_iload hx hb d_Ref_resolve_77 (lv_at hl 0 rfl) ?_
              refine lv_iconst (v := (2 : Int32)) hx hb d_Ref_resolve_79 (by decide) ?_
              refine lv_ishr hx hb d_Ref_resolve_80 ?_
              refine lv_sipush (v := (2047 : Int32)) hx hb d_Ref_resolve_81 (by decide) ?_
              refine lv_iand hx hb d_Ref_resolve_84 ?_
              refine lv_bipush (v := (13 : Int32)) hx hb d_Ref_resolve_85 (by decide) ?_
              refine lv_ishl hx hb d_Ref_resolve_87 ?_
              refine lv_istore (lv' := [(6, .int (shl ((shr (rs (ix ((if p1 = (0 : Int32) then (16 : Int32) else (24 : Int32)) + (6 : Int32)))) (2 : Int32)) &&& (2047 : Int32)) (13 : Int32))), (5, .int (rs (ix ((if p1 = (0 : Int32) then (16 : Int32) else (24 : Int32)) + (6 : Int32))))), (4, .int (3 : Int32)), (3, .int (f_Ref_bit (rs 1) (14 : Int32))), (0, .ref aT), (1, .int p0), (2, .int p1)]) hx hb d_Ref_resolve_88 hl (by decide) rfl (fun ls hl => ?_)
              refine lv_iload hx hb d_Ref_resolve_90 (lv_at hl 1 rfl) ?_
              refine lv_iload_n hx hb d_Ref_resolve_92 rfl (lv_at hl 3 rfl) ?_
              refine k_join2 (c0 := (f_Ref_bit (rs 1) (14 : Int32)) = (0 : Int32)) (x1 := (1 : Int32)) (x2 := (0 : Int32)) (rest := [.int (rs (ix ((if p1 = (0 : Int32) then (16 : Int32) else (24 : Int32)) + (6 : Int32))))]) 101 ?_ (fun k224 k225 => ?_)
              rotate_left
              · refine lv_if_eq (tgt := 100) hx hb d_Ref_resolve_93 (by decide) (fun (h223 : (f_Ref_bit (rs 1) (14 : Int32)) = (0 : Int32)) => ?_) (fun (h223 : ¬ (f_Ref_bit (rs 1) (14 : Int32)) = (0 : Int32)) => ?_)
                · refine lv_iconst (v := (1 : Int32)) hx hb d_Ref_resolve_100 (by decide) ?_
                  exact k224 h223
                · refine lv_iconst (v := (0 : Int32)) hx hb d_Ref_resolve_96 (by decide) ?_
                  refine lv_goto (tgt := 101) hx hb d_Ref_resolve_97 (by decide) ?_
                  exact k225 h223
              refine k_cSi (As := [.int (rs (ix ((if p1 = (0 : Int32) then (16 : Int32) else (24 : Int32)) + (6 : Int32)))), .int (if (f_Ref_bit (rs 1) (14 : Int32)) = (0 : Int32) then (1 : Int32) else (0 : Int32))]) (rest := []) (wr := [(aT, .inr (11, [.ref bG, .ref bS, .ref bM, .int rl, .int rk, .int (0 : Int32), .int (-1 : Int32), .int rc, .int rd, .int ra, .int rb, .int rn, .int rf, .int rw])), (bG, .inl (dG, 32, .inl rg)), (bS, .inl (dS, 48, .inl rs)), (bM, .inl (dM, 16384, .inl rm))]) (wj := [(aT, .inr (11, [.ref bG, .ref bS, .ref bM, .int rl, .int rk, .int (0 : Int32), .int (-1 : Int32), .int rc, .int rd, .int ra, .int rb, .int rn, .int rf, .int rw])), (bG, .inl (dG, 32, .inl rg)), (bS, .inl (dS, 48, .inl rs)), (bM, .inl (dM, 16384, .inl rm))]) ⟨hx, hb, hml, hown, hB⟩ (c_Ref_bit l D (rs (ix ((if p1 = (0 : Int32) then (16 : Int32) else (24 : Int32)) + (6 : Int32)))) (if (f_Ref_bit (rs 1) (14 : Int32)) = (0 : Int32) then (1 : Int32) else (0 : Int32))) yl_Ref_bit mw_725 hK hN hP hD hS hA [] [] [0, 1, 2, 3] [0, 1, 2, 3] rfl rfl rfl rfl (by decide +kernel) rfl hl.1 rfl (Nat.le_of_ble_eq_true rfl) ⟨Nat.le_of_ble_eq_true rfl, Nat.le_of_ble_eq_true rfl⟩ d_Ref_resolve_101 ⟨Nat.le_of_ble_eq_true rfl, Nat.le_of_ble_eq_true rfl⟩ (fun H locs hP hD hS => ?_)
              refine lv_if_eq (tgt := 153) hx hb d_Ref_resolve_104 (by decide) (fun (h228 : (f_Ref_bit (rs (ix ((if p1 = (0 : Int32) then (16 : Int32) else (24 : Int32)) + (6 : Int32)))) (if (f_Ref_bit (rs 1) (14 : Int32)) = (0 : Int32) then (1 : Int32) else (0 : Int32))) = (0 : Int32)) => ?_) (fun (h228 : ¬ (f_Ref_bit (rs (ix ((if p1 = (0 : Int32) then (16 : Int32) else (24 : Int32)) + (6 : Int32)))) (if (f_Ref_bit (rs 1) (14 : Int32)) = (0 : Int32) then (1 : Int32) else (0 : Int32))) = (0 : Int32)) => ?_)
              · refine lv_iinc (v := (4 : Int32)) (lv' := [(4, .int (4 : Int32)), (6, .int (shl ((shr (rs (ix ((if p1 = (0 : Int32) then (16 : Int32) else (24 : Int32)) + (6 : Int32)))) (2 : Int32)) &&& (2047 : Int32)) (13 : Int32))), (5, .int (rs (ix ((if p1 = (0 : Int32) then (16 : Int32) else (24 : Int32)) + (6 : Int32))))), (3, .int (f_Ref_bit (rs 1) (14 : Int32))), (0, .ref aT), (1, .int p0), (2, .int p1)]) hx hb d_Ref_resolve_153 hl (k := 2) rfl (by decide) (by decide) rfl (fun ls hl => ?_)
                refine lv_goto (tgt := 48) hx hb d_Ref_resolve_156 (by decide) ?_
                refine lv_iload hx hb d_Ref_resolve_48 (lv_at hl 0 rfl) ?_
                refine lv_iconst (v := (4 : Int32)) hx hb d_Ref_resolve_50 (by decide) ?_
                refine lv_icmp_ge (tgt := 159) hx hb d_Ref_resolve_51 (by decide) (fun h229 => ?_) (fun h229 => ?_)
                rotate_left
                · exact absurd (by decide) h229
                refine lv_aload_n hx hb d_Ref_resolve_159 rfl (lv_at hl 4 rfl) ?_
                refine lv_iload_n hx hb d_Ref_resolve_160 rfl (lv_at hl 5 rfl) ?_
                refine lv_iload_n hx hb d_Ref_resolve_161 rfl (lv_at hl 6 rfl) ?_
                refine lv_iload_n hx hb d_Ref_resolve_162 rfl (lv_at hl 3 rfl) ?_
                let t230 := (f_Ref_paged p0 p1 (f_Ref_bit (rs 1) (14 : Int32)) rs rm (0 : Int32) (-1 : Int32))
                refine k_cVi (As := [.int p0, .int p1, .int (f_Ref_bit (rs 1) (14 : Int32))]) (rest := []) (wr := []) (wj := [(aT, .inr (11, [.ref bG, .ref bS, .ref bM, .int rl, .int rk, .int t230.2.1, .int t230.2.2, .int rc, .int rd, .int ra, .int rb, .int rn, .int rf, .int rw])), (bG, .inl (dG, 32, .inl rg)), (bS, .inl (dS, 48, .inl rs)), (bM, .inl (dM, 16384, .inl rm))]) ⟨hx, hb, hml, hown, hB⟩ (c_Ref_paged l D aT bG bS bM dG dS dM rg rs rm rl rk (0 : Int32) (-1 : Int32) rc rd ra rb rn rf rw p0 p1 (f_Ref_bit (rs 1) (14 : Int32))) yl_Ref_paged mw_732 hK hN hP hD hS hA [0, 1, 2] [0, 1, 2, 3] [] [0, 1, 2, 3] rfl rfl rfl rfl (by decide +kernel) 0 rfl rfl rfl rfl hl.1 rfl (Nat.le_of_ble_eq_true rfl) ⟨Nat.le_of_ble_eq_true rfl, Nat.le_of_ble_eq_true rfl⟩ d_Ref_resolve_163 ⟨Nat.le_of_ble_eq_true rfl, Nat.le_of_ble_eq_true rfl⟩ (fun H locs hP hD hS => ?_)
                have ef : f_Ref_resolve p0 p1 rs rm = (t230.1, t230.2.1, t230.2.2) := by unfold f_Ref_resolve; try dsimp only; rw [if_neg h6, if_neg h18, if_neg h168, if_pos h180, if_neg h192, if_neg h216, if_pos h228]
                exact k_iret hx hb hr hlocks hK hP hD hS [0, 1, 2, 3] rfl (by rw [ef] <;> rfl) (by rw [ef] <;> rfl) d_Ref_resolve_166
              · refine lv_iload_n hx hb d_Ref_resolve_107 rfl (lv_at hl 5 rfl) ?_
                refine lv_iload hx hb d_Ref_resolve_108 (lv_at hl 1 rfl) ?_
                refine lv_ixor hx hb d_Ref_resolve_110 ?_
                refine lv_iload hx hb d_Ref_resolve_111 (lv_at hl 0 rfl) ?_
                refine lv_iconst (v := (-1 : Int32)) hx hb d_Ref_resolve_113 (by decide) ?_
                refine lv_ixor hx hb d_Ref_resolve_114 ?_
                refine lv_iand hx hb d_Ref_resolve_115 ?_
                refine lv_sipush (v := (-8192 : Int32)) hx hb d_Ref_resolve_116 (by decide) ?_
                refine lv_iand hx hb d_Ref_resolve_119 ?_
                refine lv_if_ne (tgt := 153) hx hb d_Ref_resolve_120 (by decide) (fun (h231 : ¬ (((p0 ^^^ (rs (ix ((if p1 = (0 : Int32) then (16 : Int32) else (24 : Int32)) + (6 : Int32))))) &&& ((shl ((shr (rs (ix ((if p1 = (0 : Int32) then (16 : Int32) else (24 : Int32)) + (6 : Int32)))) (2 : Int32)) &&& (2047 : Int32)) (13 : Int32)) ^^^ (-1 : Int32))) &&& (-8192 : Int32)) = (0 : Int32)) => ?_) (fun (h231 : (((p0 ^^^ (rs (ix ((if p1 = (0 : Int32) then (16 : Int32) else (24 : Int32)) + (6 : Int32))))) &&& ((shl ((shr (rs (ix ((if p1 = (0 : Int32) then (16 : Int32) else (24 : Int32)) + (6 : Int32)))) (2 : Int32)) &&& (2047 : Int32)) (13 : Int32)) ^^^ (-1 : Int32))) &&& (-8192 : Int32)) = (0 : Int32)) => ?_)
                · refine lv_iinc (v := (4 : Int32)) (lv' := [(4, .int (4 : Int32)), (6, .int (shl ((shr (rs (ix ((if p1 = (0 : Int32) then (16 : Int32) else (24 : Int32)) + (6 : Int32)))) (2 : Int32)) &&& (2047 : Int32)) (13 : Int32))), (5, .int (rs (ix ((if p1 = (0 : Int32) then (16 : Int32) else (24 : Int32)) + (6 : Int32))))), (3, .int (f_Ref_bit (rs 1) (14 : Int32))), (0, .ref aT), (1, .int p0), (2, .int p1)]) hx hb d_Ref_resolve_153 hl (k := 2) rfl (by decide) (by decide) rfl (fun ls hl => ?_)
                  refine lv_goto (tgt := 48) hx hb d_Ref_resolve_156 (by decide) ?_
                  refine lv_iload hx hb d_Ref_resolve_48 (lv_at hl 0 rfl) ?_
                  refine lv_iconst (v := (4 : Int32)) hx hb d_Ref_resolve_50 (by decide) ?_
                  refine lv_icmp_ge (tgt := 159) hx hb d_Ref_resolve_51 (by decide) (fun h232 => ?_) (fun h232 => ?_)
                  rotate_left
                  · exact absurd (by decide) h232
                  refine lv_aload_n hx hb d_Ref_resolve_159 rfl (lv_at hl 4 rfl) ?_
                  refine lv_iload_n hx hb d_Ref_resolve_160 rfl (lv_at hl 5 rfl) ?_
                  refine lv_iload_n hx hb d_Ref_resolve_161 rfl (lv_at hl 6 rfl) ?_
                  refine lv_iload_n hx hb d_Ref_resolve_162 rfl (lv_at hl 3 rfl) ?_
                  let t233 := (f_Ref_paged p0 p1 (f_Ref_bit (rs 1) (14 : Int32)) rs rm (0 : Int32) (-1 : Int32))
                  refine k_cVi (As := [.int p0, .int p1, .int (f_Ref_bit (rs 1) (14 : Int32))]) (rest := []) (wr := []) (wj := [(aT, .inr (11, [.ref bG, .ref bS, .ref bM, .int rl, .int rk, .int t233.2.1, .int t233.2.2, .int rc, .int rd, .int ra, .int rb, .int rn, .int rf, .int rw])), (bG, .inl (dG, 32, .inl rg)), (bS, .inl (dS, 48, .inl rs)), (bM, .inl (dM, 16384, .inl rm))]) ⟨hx, hb, hml, hown, hB⟩ (c_Ref_paged l D aT bG bS bM dG dS dM rg rs rm rl rk (0 : Int32) (-1 : Int32) rc rd ra rb rn rf rw p0 p1 (f_Ref_bit (rs 1) (14 : Int32))) yl_Ref_paged mw_732 hK hN hP hD hS hA [0, 1, 2] [0, 1, 2, 3] [] [0, 1, 2, 3] rfl rfl rfl rfl (by decide +kernel) 0 rfl rfl rfl rfl hl.1 rfl (Nat.le_of_ble_eq_true rfl) ⟨Nat.le_of_ble_eq_true rfl, Nat.le_of_ble_eq_true rfl⟩ d_Ref_resolve_163 ⟨Nat.le_of_ble_eq_true rfl, Nat.le_of_ble_eq_true rfl⟩ (fun H locs hP hD hS => ?_)
                  have ef : f_Ref_resolve p0 p1 rs rm = (t233.1, t233.2.1, t233.2.2) := by unfold f_Ref_resolve; try dsimp only; rw [if_neg h6, if_neg h18, if_neg h168, if_pos h180, if_neg h192, if_neg h216, if_neg h228, if_neg h231]
                  exact k_iret hx hb hr hlocks hK hP hD hS [0, 1, 2, 3] rfl (by rw [ef] <;> rfl) (by rw [ef] <;> rfl) d_Ref_resolve_166
                · refine lv_aload_n hx hb d_Ref_resolve_123 rfl (lv_at hl 4 rfl) ?_
                  refine lv_iload_n hx hb d_Ref_resolve_124 rfl (lv_at hl 5 rfl) ?_
                  refine lv_aload_n hx hb d_Ref_resolve_125 rfl (lv_at hl 4 rfl) ?_
                  refine va_get (D := D) (ci := 11) (v := .ref bS) (C := "MappedProcessorModel") (T := T_Ref) (N := 14) hx hb hB iw_Ref hown hK hP 0 rfl rfl 1 (by decide) (hB _ mw_644) (fun _ h9 => h9) rfl d_Ref_resolve_126 ?_
                  refine lv_iload_n hx hb d_Ref_resolve_129 rfl (lv_at hl 6 rfl) ?_
                  refine k_join2 (c0 := p1 = (0 : Int32)) (x1 := (17 : Int32)) (x2 := (25 : Int32)) (rest := [.ref bS, .int p0, .ref aT]) 140 ?_ (fun k235 k236 => ?_)
                  rotate_left
                  · refine lv_if_ne (tgt := 138) hx hb d_Ref_resolve_130 (by decide) (fun (h234 : ¬ p1 = (0 : Int32)) => ?_) (fun (h234 : p1 = (0 : Int32)) => ?_)
                    · refine lv_bipush (v := (25 : Int32)) hx hb d_Ref_resolve_138 (by decide) ?_
                      exact k236 h234
                    · refine lv_bipush (v := (17 : Int32)) hx hb d_Ref_resolve_133 (by decide) ?_
                      refine lv_goto (tgt := 140) hx hb d_Ref_resolve_135 (by decide) ?_
                      exact k235 h234
                  refine lv_iconst (v := (2 : Int32)) hx hb d_Ref_resolve_140 (by decide) ?_
                  refine lv_iload hx hb d_Ref_resolve_141 (lv_at hl 2 rfl) ?_
                  refine lv_imul hx hb d_Ref_resolve_143 ?_
                  refine k_fold (6 : Int32) (by decide) ?_
                  refine lv_iadd hx hb d_Ref_resolve_144 ?_
                  refine k_iald (j := (ix ((if p1 = (0 : Int32) then (17 : Int32) else (25 : Int32)) + (6 : Int32)))) hx hb hK hP 2 1 rfl rfl rfl (by split <;> (unfold vp_in; decide)) d_Ref_resolve_145 ?_
                  refine lv_iload hx hb d_Ref_resolve_146 (lv_at hl 0 rfl) ?_
                  refine lv_iload_n hx hb d_Ref_resolve_148 rfl (lv_at hl 6 rfl) ?_
                  let t239 := (f_Ref_block p0 (rs (ix ((if p1 = (0 : Int32) then (17 : Int32) else (25 : Int32)) + (6 : Int32)))) (shl ((shr (rs (ix ((if p1 = (0 : Int32) then (16 : Int32) else (24 : Int32)) + (6 : Int32)))) (2 : Int32)) &&& (2047 : Int32)) (13 : Int32)) p1 (0 : Int32))
                  refine k_cVi (As := [.int p0, .int (rs (ix ((if p1 = (0 : Int32) then (17 : Int32) else (25 : Int32)) + (6 : Int32)))), .int (shl ((shr (rs (ix ((if p1 = (0 : Int32) then (16 : Int32) else (24 : Int32)) + (6 : Int32)))) (2 : Int32)) &&& (2047 : Int32)) (13 : Int32)), .int p1]) (rest := []) (wr := []) (wj := [(aT, .inr (11, [.ref bG, .ref bS, .ref bM, .int rl, .int rk, .int t239.2, .int (-1 : Int32), .int rc, .int rd, .int ra, .int rb, .int rn, .int rf, .int rw])), (bG, .inl (dG, 32, .inl rg)), (bS, .inl (dS, 48, .inl rs)), (bM, .inl (dM, 16384, .inl rm))]) ⟨hx, hb, hml, hown, hB⟩ (c_Ref_block l D aT bG bS bM dG dS dM rg rs rm rl rk (0 : Int32) (-1 : Int32) rc rd ra rb rn rf rw p0 (rs (ix ((if p1 = (0 : Int32) then (17 : Int32) else (25 : Int32)) + (6 : Int32)))) (shl ((shr (rs (ix ((if p1 = (0 : Int32) then (16 : Int32) else (24 : Int32)) + (6 : Int32)))) (2 : Int32)) &&& (2047 : Int32)) (13 : Int32)) p1) yl_Ref_block mw_728 hK hN hP hD hS hA [0, 1, 2] [0, 1, 2, 3] [] [0, 1, 2, 3] rfl rfl rfl rfl (by decide +kernel) 0 rfl rfl rfl rfl hl.1 rfl (Nat.le_of_ble_eq_true rfl) ⟨Nat.le_of_ble_eq_true rfl, Nat.le_of_ble_eq_true rfl⟩ d_Ref_resolve_149 ⟨Nat.le_of_ble_eq_true rfl, Nat.le_of_ble_eq_true rfl⟩ (fun H locs hP hD hS => ?_)
                  have ef : f_Ref_resolve p0 p1 rs rm = (t239.1, t239.2, (-1 : Int32)) := by unfold f_Ref_resolve; try dsimp only; rw [if_neg h6, if_neg h18, if_neg h168, if_pos h180, if_neg h192, if_neg h216, if_neg h228, if_pos h231]
                  exact k_iret hx hb hr hlocks hK hP hD hS [0, 1, 2, 3] rfl (by rw [ef] <;> rfl) (by rw [ef] <;> rfl) d_Ref_resolve_152
            · refine lv_aload_n hx hb d_Ref_resolve_123 rfl (lv_at hl 4 rfl) ?_
              refine lv_iload_n hx hb d_Ref_resolve_124 rfl (lv_at hl 5 rfl) ?_
              refine lv_aload_n hx hb d_Ref_resolve_125 rfl (lv_at hl 4 rfl) ?_
              refine va_get (D := D) (ci := 11) (v := .ref bS) (C := "MappedProcessorModel") (T := T_Ref) (N := 14) hx hb hB iw_Ref hown hK hP 0 rfl rfl 1 (by decide) (hB _ mw_644) (fun _ h9 => h9) rfl d_Ref_resolve_126 ?_
              refine lv_iload_n hx hb d_Ref_resolve_129 rfl (lv_at hl 6 rfl) ?_
              refine k_join2 (c0 := p1 = (0 : Int32)) (x1 := (17 : Int32)) (x2 := (25 : Int32)) (rest := [.ref bS, .int p0, .ref aT]) 140 ?_ (fun k241 k242 => ?_)
              rotate_left
              · refine lv_if_ne (tgt := 138) hx hb d_Ref_resolve_130 (by decide) (fun (h240 : ¬ p1 = (0 : Int32)) => ?_) (fun (h240 : p1 = (0 : Int32)) => ?_)
                · refine lv_bipush (v := (25 : Int32)) hx hb d_Ref_resolve_138 (by decide) ?_
                  exact k242 h240
                · refine lv_bipush (v := (17 : Int32)) hx hb d_Ref_resolve_133 (by decide) ?_
                  refine lv_goto (tgt := 140) hx hb d_Ref_resolve_135 (by decide) ?_
                  exact k241 h240
              refine lv_iconst (v := (2 : Int32)) hx hb d_Ref_resolve_140 (by decide) ?_
              refine lv_iload hx hb d_Ref_resolve_141 (lv_at hl 2 rfl) ?_
              refine lv_imul hx hb d_Ref_resolve_143 ?_
              refine k_fold (4 : Int32) (by decide) ?_
              refine lv_iadd hx hb d_Ref_resolve_144 ?_
              refine k_iald (j := (ix ((if p1 = (0 : Int32) then (17 : Int32) else (25 : Int32)) + (4 : Int32)))) hx hb hK hP 2 1 rfl rfl rfl (by split <;> (unfold vp_in; decide)) d_Ref_resolve_145 ?_
              refine lv_iload hx hb d_Ref_resolve_146 (lv_at hl 0 rfl) ?_
              refine lv_iload_n hx hb d_Ref_resolve_148 rfl (lv_at hl 6 rfl) ?_
              let t245 := (f_Ref_block p0 (rs (ix ((if p1 = (0 : Int32) then (17 : Int32) else (25 : Int32)) + (4 : Int32)))) (shl ((shr (rs (ix ((if p1 = (0 : Int32) then (16 : Int32) else (24 : Int32)) + (4 : Int32)))) (2 : Int32)) &&& (2047 : Int32)) (13 : Int32)) p1 (0 : Int32))
              refine k_cVi (As := [.int p0, .int (rs (ix ((if p1 = (0 : Int32) then (17 : Int32) else (25 : Int32)) + (4 : Int32)))), .int (shl ((shr (rs (ix ((if p1 = (0 : Int32) then (16 : Int32) else (24 : Int32)) + (4 : Int32)))) (2 : Int32)) &&& (2047 : Int32)) (13 : Int32)), .int p1]) (rest := []) (wr := []) (wj := [(aT, .inr (11, [.ref bG, .ref bS, .ref bM, .int rl, .int rk, .int t245.2, .int (-1 : Int32), .int rc, .int rd, .int ra, .int rb, .int rn, .int rf, .int rw])), (bG, .inl (dG, 32, .inl rg)), (bS, .inl (dS, 48, .inl rs)), (bM, .inl (dM, 16384, .inl rm))]) ⟨hx, hb, hml, hown, hB⟩ (c_Ref_block l D aT bG bS bM dG dS dM rg rs rm rl rk (0 : Int32) (-1 : Int32) rc rd ra rb rn rf rw p0 (rs (ix ((if p1 = (0 : Int32) then (17 : Int32) else (25 : Int32)) + (4 : Int32)))) (shl ((shr (rs (ix ((if p1 = (0 : Int32) then (16 : Int32) else (24 : Int32)) + (4 : Int32)))) (2 : Int32)) &&& (2047 : Int32)) (13 : Int32)) p1) yl_Ref_block mw_728 hK hN hP hD hS hA [0, 1, 2] [0, 1, 2, 3] [] [0, 1, 2, 3] rfl rfl rfl rfl (by decide +kernel) 0 rfl rfl rfl rfl hl.1 rfl (Nat.le_of_ble_eq_true rfl) ⟨Nat.le_of_ble_eq_true rfl, Nat.le_of_ble_eq_true rfl⟩ d_Ref_resolve_149 ⟨Nat.le_of_ble_eq_true rfl, Nat.le_of_ble_eq_true rfl⟩ (fun H locs hP hD hS => ?_)
              have ef : f_Ref_resolve p0 p1 rs rm = (t245.1, t245.2, (-1 : Int32)) := by unfold f_Ref_resolve; try dsimp only; rw [if_neg h6, if_neg h18, if_neg h168, if_pos h180, if_neg h192, if_pos h216]
              exact k_iret hx hb hr hlocks hK hP hD hS [0, 1, 2, 3] rfl (by rw [ef] <;> rfl) (by rw [ef] <;> rfl) d_Ref_resolve_152
        · refine lv_iload_n hx hb d_Ref_resolve_107 rfl (lv_at hl 5 rfl) ?_
          refine lv_iload hx hb d_Ref_resolve_108 (lv_at hl 1 rfl) ?_
          refine lv_ixor hx hb d_Ref_resolve_110 ?_
          refine lv_iload hx hb d_Ref_resolve_111 (lv_at hl 0 rfl) ?_
          refine lv_iconst (v := (-1 : Int32)) hx hb d_Ref_resolve_113 (by decide) ?_
          refine lv_ixor hx hb d_Ref_resolve_114 ?_
          refine lv_iand hx hb d_Ref_resolve_115 ?_
          refine lv_sipush (v := (-8192 : Int32)) hx hb d_Ref_resolve_116 (by decide) ?_
          refine lv_iand hx hb d_Ref_resolve_119 ?_
          refine lv_if_ne (tgt := 153) hx hb d_Ref_resolve_120 (by decide) (fun (h246 : ¬ (((p0 ^^^ (rs (ix ((if p1 = (0 : Int32) then (16 : Int32) else (24 : Int32)) + (2 : Int32))))) &&& ((shl ((shr (rs (ix ((if p1 = (0 : Int32) then (16 : Int32) else (24 : Int32)) + (2 : Int32)))) (2 : Int32)) &&& (2047 : Int32)) (13 : Int32)) ^^^ (-1 : Int32))) &&& (-8192 : Int32)) = (0 : Int32)) => ?_) (fun (h246 : (((p0 ^^^ (rs (ix ((if p1 = (0 : Int32) then (16 : Int32) else (24 : Int32)) + (2 : Int32))))) &&& ((shl ((shr (rs (ix ((if p1 = (0 : Int32) then (16 : Int32) else (24 : Int32)) + (2 : Int32)))) (2 : Int32)) &&& (2047 : Int32)) (13 : Int32)) ^^^ (-1 : Int32))) &&& (-8192 : Int32)) = (0 : Int32)) => ?_)
          · refine lv_iinc (v := (2 : Int32)) (lv' := [(4, .int (2 : Int32)), (6, .int (shl ((shr (rs (ix ((if p1 = (0 : Int32) then (16 : Int32) else (24 : Int32)) + (2 : Int32)))) (2 : Int32)) &&& (2047 : Int32)) (13 : Int32))), (5, .int (rs (ix ((if p1 = (0 : Int32) then (16 : Int32) else (24 : Int32)) + (2 : Int32))))), (3, .int (f_Ref_bit (rs 1) (14 : Int32))), (0, .ref aT), (1, .int p0), (2, .int p1)]) hx hb d_Ref_resolve_153 hl (k := 2) rfl (by decide) (by decide) rfl (fun ls hl => ?_)
            refine lv_goto (tgt := 48) hx hb d_Ref_resolve_156 (by decide) ?_
            refine lv_iload hx hb d_Ref_resolve_48 (lv_at hl 0 rfl) ?_
            refine lv_iconst (v := (4 : Int32)) hx hb d_Ref_resolve_50 (by decide) ?_
            refine lv_icmp_ge (tgt := 159) hx hb d_Ref_resolve_51 (by decide) (fun h247 => ?_) (fun h247 => ?_)
            · exact absurd h247 (by decide)
            refine lv_aload_n hx hb d_Ref_resolve_54 rfl (lv_at hl 4 rfl) ?_
            refine va_get (D := D) (ci := 11) (v := .ref bS) (C := "MappedProcessorModel") (T := T_Ref) (N := 14) hx hb hB iw_Ref hown hK hP 0 rfl rfl 1 (by decide) (hB _ mw_644) (fun _ h9 => h9) rfl d_Ref_resolve_55 ?_
            refine lv_iload_n hx hb d_Ref_resolve_58 rfl (lv_at hl 6 rfl) ?_
            refine k_join2 (c0 := p1 = (0 : Int32)) (x1 := (16 : Int32)) (x2 := (24 : Int32)) (rest := [.ref bS]) 69 ?_ (fun k249 k250 => ?_)
            rotate_left
            · refine lv_if_ne (tgt := 67) hx hb d_Ref_resolve_59 (by decide) (fun (h248 : ¬ p1 = (0 : Int32)) => ?_) (fun (h248 : p1 = (0 : Int32)) => ?_)
              · refine lv_bipush (v := (24 : Int32)) hx hb d_Ref_resolve_67 (by decide) ?_
                exact k250 h248
              · refine lv_bipush (v := (16 : Int32)) hx hb d_Ref_resolve_62 (by decide) ?_
                refine lv_goto (tgt := 69) hx hb d_Ref_resolve_64 (by decide) ?_
                exact k249 h248
            refine lv_iconst (v := (2 : Int32)) hx hb d_Ref_resolve_69 (by decide) ?_
            refine lv_iload hx hb d_Ref_resolve_70 (lv_at hl 0 rfl) ?_
            refine lv_imul hx hb d_Ref_resolve_72 ?_
            refine k_fold (4 : Int32) (by decide) ?_
            refine lv_iadd hx hb d_Ref_resolve_73 ?_
            refine k_iald (j := (ix ((if p1 = (0 : Int32) then (16 : Int32) else (24 : Int32)) + (4 : Int32)))) hx hb hK hP 2 1 rfl rfl rfl (by split <;> (unfold vp_in; decide)) d_Ref_resolve_74 ?_
            refine lv_istore (lv' := [(5, .int (rs (ix ((if p1 = (0 : Int32) then (16 : Int32) else (24 : Int32)) + (4 : Int32))))), (4, .int (2 : Int32)), (6, .int (shl ((shr (rs (ix ((if p1 = (0 : Int32) then (16 : Int32) else (24 : Int32)) + (2 : Int32)))) (2 : Int32)) &&& (2047 : Int32)) (13 : Int32))), (3, .int (f_Ref_bit (rs 1) (14 : Int32))), (0, .ref aT), (1, .int p0), (2, .int p1)]) hx hb d_Ref_resolve_75 hl (by decide) rfl (fun ls hl => ?_)
            refine lv_iload hx hb d_Ref_resolve_77 (lv_at hl 0 rfl) ?_
            refine lv_iconst (v := (2 : Int32)) hx hb d_Ref_resolve_79 (by decide) ?_
            refine lv_ishr hx hb d_Ref_resolve_80 ?_
            refine lv_sipush (v := (2047 : Int32)) hx hb d_Ref_resolve_81 (by decide) ?_
            refine lv_iand hx hb d_Ref_resolve_84 ?_
            refine lv_bipush (v := (13 : Int32)) hx hb d_Ref_resolve_85 (by decide) ?_
            refine lv_ishl hx hb d_Ref_resolve_87 ?_
            refine lv_istore (lv' := [(6, .int (shl ((shr (rs (ix ((if p1 = (0 : Int32) then (16 : Int32) else (24 : Int32)) + (4 : Int32)))) (2 : Int32)) &&& (2047 : Int32)) (13 : Int32))), (5, .int (rs (ix ((if p1 = (0 : Int32) then (16 : Int32) else (24 : Int32)) + (4 : Int32))))), (4, .int (2 : Int32)), (3, .int (f_Ref_bit (rs 1) (14 : Int32))), (0, .ref aT), (1, .int p0), (2, .int p1)]) hx hb d_Ref_resolve_88 hl (by decide) rfl (fun ls hl => ?_)
            refine lv_iload hx hb d_Ref_resolve_90 (lv_at hl 1 rfl) ?_
            refine lv_iload_n hx hb d_Ref_resolve_92 rfl (lv_at hl 3 rfl) ?_
            refine k_join2 (c0 := (f_Ref_bit (rs 1) (14 : Int32)) = (0 : Int32)) (x1 := (1 : Int32)) (x2 := (0 : Int32)) (rest := [.int (rs (ix ((if p1 = (0 : Int32) then (16 : Int32) else (24 : Int32)) + (4 : Int32))))]) 101 ?_ (fun k254 k255 => ?_)
            rotate_left
            · refine lv_if_eq (tgt := 100) hx hb d_Ref_resolve_93 (by decide) (fun (h253 : (f_Ref_bit (rs 1) (14 : Int32)) = (0 : Int32)) => ?_) (fun (h253 : ¬ (f_Ref_bit (rs 1) (14 : Int32)) = (0 : Int32)) => ?_)
              · refine lv_iconst (v := (1 : Int32)) hx hb d_Ref_resolve_100 (by decide) ?_
                exact k254 h253
              · refine lv_iconst (v := (0 : Int32)) hx hb d_Ref_resolve_96 (by decide) ?_
                refine lv_goto (tgt := 101) hx hb d_Ref_resolve_97 (by decide) ?_
                exact k255 h253
            refine k_cSi (As := [.int (rs (ix ((if p1 = (0 : Int32) then (16 : Int32) else (24 : Int32)) + (4 : Int32)))), .int (if (f_Ref_bit (rs 1) (14 : Int32)) = (0 : Int32) then (1 : Int32) else (0 : Int32))]) (rest := []) (wr := [(aT, .inr (11, [.ref bG, .ref bS, .ref bM, .int rl, .int rk, .int (0 : Int32), .int (-1 : Int32), .int rc, .int rd, .int ra, .int rb, .int rn, .int rf, .int rw])), (bG, .inl (dG, 32, .inl rg)), (bS, .inl (dS, 48, .inl rs)), (bM, .inl (dM, 16384, .inl rm))]) (wj := [(aT, .inr (11, [.ref bG, .ref bS, .ref bM, .int rl, .int rk, .int (0 : Int32), .int (-1 : Int32), .int rc, .int rd, .int ra, .int rb, .int rn, .int rf, .int rw])), (bG, .inl (dG, 32, .inl rg)), (bS, .inl (dS, 48, .inl rs)), (bM, .inl (dM, 16384, .inl rm))]) ⟨hx, hb, hml, hown, hB⟩ (c_Ref_bit l D (rs (ix ((if p1 = (0 : Int32) then (16 : Int32) else (24 : Int32)) + (4 : Int32)))) (if (f_Ref_bit (rs 1) (14 : Int32)) = (0 : Int32) then (1 : Int32) else (0 : Int32))) yl_Ref_bit mw_725 hK hN hP hD hS hA [] [] [0, 1, 2, 3] [0, 1, 2, 3] rfl rfl rfl rfl (by decide +kernel) rfl hl.1 rfl (Nat.le_of_ble_eq_true rfl) ⟨Nat.le_of_ble_eq_true rfl, Nat.le_of_ble_eq_true rfl⟩ d_Ref_resolve_101 ⟨Nat.le_of_ble_eq_true rfl, Nat.le_of_ble_eq_true rfl⟩ (fun H locs hP hD hS => ?_)
            refine lv_if_eq (tgt := 153) hx hb d_Ref_resolve_104 (by decide) (fun (h258 : (f_Ref_bit (rs (ix ((if p1 = (0 : Int32) then (16 : Int32) else (24 : Int32)) + (4 : Int32)))) (if (f_Ref_bit (rs 1) (14 : Int32)) = (0 : Int32) then (1 : Int32) else (0 : Int32))) = (0 : Int32)) => ?_) (fun (h258 : ¬ (f_Ref_bit (rs (ix ((if p1 = (0 : Int32) then (16 : Int32) else (24 : Int32)) + (4 : Int32)))) (if (f_Ref_bit (rs 1) (14 : Int32)) = (0 : Int32) then (1 : Int32) else (0 : Int32))) = (0 : Int32)) => ?_)
            · refine lv_iinc (v := (3 : Int32)) (lv' := [(4, .int (3 : Int32)), (6, .int (shl ((shr (rs (ix ((if p1 = (0 : Int32) then (16 : Int32) else (24 : Int32)) + (4 : Int32)))) (2 : Int32)) &&& (2047 : Int32)) (13 : Int32))), (5, .int (rs (ix ((if p1 = (0 : Int32) then (16 : Int32) else (24 : Int32)) + (4 : Int32))))), (3, .int (f_Ref_bit (rs 1) (14 : Int32))), (0, .ref aT), (1, .int p0), (2, .int p1)]) hx hb d_Ref_resolve_153 hl (k := 2) rfl (by decide) (by decide) rfl (fun ls hl => ?_)
              refine lv_goto (tgt := 48) hx hb d_Ref_resolve_156 (by decide) ?_
              refine lv_iload hx hb d_Ref_resolve_48 (lv_at hl 0 rfl) ?_
              refine lv_iconst (v := (4 : Int32)) hx hb d_Ref_resolve_50 (by decide) ?_
              refine lv_icmp_ge (tgt := 159) hx hb d_Ref_resolve_51 (by decide) (fun h259 => ?_) (fun h259 => ?_)
              · exact absurd h259 (by decide)
              refine lv_aload_n hx hb d_Ref_resolve_54 rfl (lv_at hl 4 rfl) ?_
              refine va_get (D := D) (ci := 11) (v := .ref bS) (C := "MappedProcessorModel") (T := T_Ref) (N := 14) hx hb hB iw_Ref hown hK hP 0 rfl rfl 1 (by decide) (hB _ mw_644) (fun _ h9 => h9) rfl d_Ref_resolve_55 ?_
              refine lv_iload_n hx hb d_Ref_resolve_58 rfl (lv_at hl 6 rfl) ?_
              refine k_join2 (c0 := p1 = (0 : Int32)) (x1 := (16 : Int32)) (x2 := (24 : Int32)) (rest := [.ref bS]) 69 ?_ (fun k261 k262 => ?_)
              rotate_left
              · refine lv_if_ne (tgt := 67) hx hb d_Ref_resolve_59 (by decide) (fun (h260 : ¬ p1 = (0 : Int32)) => ?_) (fun (h260 : p1 = (0 : Int32)) => ?_)
                · refine lv_bipush (v := (24 : Int32)) hx hb d_Ref_resolve_67 (by decide) ?_
                  exact k262 h260
                · refine lv_bipush (v := (16 : Int32)) hx hb d_Ref_resolve_62 (by decide) ?_
                  refine lv_goto (tgt := 69) hx hb d_Ref_resolve_64 (by decide) ?_
                  exact k261 h260
              refine lv_iconst (v := (2 : Int32)) hx hb d_Ref_resolve_69 (by decide) ?_
              refine lv_iload hx hb d_Ref_resolve_70 (lv_at hl 0 rfl) ?_
              refine lv_imul hx hb d_Ref_resolve_72 ?_
              refine k_fold (6 : Int32) (by decide) ?_
              refine lv_iadd hx hb d_Ref_resolve_73 ?_
              refine k_iald (j := (ix ((if p1 = (0 : Int32) then (16 : Int32) else (24 : Int32)) + (6 : Int32)))) hx hb hK hP 2 1 rfl rfl rfl (by split <;> (unfold vp_in; decide)) d_Ref_resolve_74 ?_
              refine lv_istore (lv' := [(5, .int (rs (ix ((if p1 = (0 : Int32) then (16 : Int32) else (24 : Int32)) + (6 : Int32))))), (4, .int (3 : Int32)), (6, .int (shl ((shr (rs (ix ((if p1 = (0 : Int32) then (16 : Int32) else (24 : Int32)) + (4 : Int32)))) (2 : Int32)) &&& (2047 : Int32)) (13 : Int32))), (3, .int (f_Ref_bit (rs 1) (14 : Int32))), (0, .ref aT), (1, .int p0), (2, .int p1)]) hx hb d_Ref_resolve_75 hl (by decide) rfl (fun ls hl => ?_)
              refine lv_iload hx hb d_Ref_resolve_77 (lv_at hl 0 rfl) ?_
              refine lv_iconst (v := (2 : Int32)) hx hb d_Ref_resolve_79 (by decide) ?_
              refine lv_ishr hx hb d_Ref_resolve_80 ?_
              refine lv_sipush (v := (2047 : Int32)) hx hb d_Ref_resolve_81 (by decide) ?_
              refine lv_iand hx hb d_Ref_resolve_84 ?_
              refine lv_bipush (v := (13 : Int32)) hx hb d_Ref_resolve_85 (by decide) ?_
              refine lv_ishl hx hb d_Ref_resolve_87 ?_
              refine lv_istore (lv' := [(6, .int (shl ((shr (rs (ix ((if p1 = (0 : Int32) then (16 : Int32) else (24 : Int32)) + (6 : Int32)))) (2 : Int32)) &&& (2047 : Int32)) (13 : Int32))), (5, .int (rs (ix ((if p1 = (0 : Int32) then (16 : Int32) else (24 : Int32)) + (6 : Int32))))), (4, .int (3 : Int32)), (3, .int (f_Ref_bit (rs 1) (14 : Int32))), (0, .ref aT), (1, .int p0), (2, .int p1)]) hx hb d_Ref_resolve_88 hl (by decide) rfl (fun ls hl => ?_)
              refine lv_iload hx hb d_Ref_resolve_90 (lv_at hl 1 rfl) ?_
              refine lv_iload_n hx hb d_Ref_resolve_92 rfl (lv_at hl 3 rfl) ?_
              refine k_join2 (c0 := (f_Ref_bit (rs 1) (14 : Int32)) = (0 : Int32)) (x1 := (1 : Int32)) (x2 := (0 : Int32)) (rest := [.int (rs (ix ((if p1 = (0 : Int32) then (16 : Int32) else (24 : Int32)) + (6 : Int32))))]) 101 ?_ (fun k266 k267 => ?_)
              rotate_left
              · refine lv_if_eq (tgt := 100) hx hb d_Ref_resolve_93 (by decide) (fun (h265 : (f_Ref_bit (rs 1) (14 : Int32)) = (0 : Int32)) => ?_) (fun (h265 : ¬ (f_Ref_bit (rs 1) (14 : Int32)) = (0 : Int32)) => ?_)
                · refine lv_iconst (v := (1 : Int32)) hx hb d_Ref_resolve_100 (by decide) ?_
                  exact k266 h265
                · refine lv_iconst (v := (0 : Int32)) hx hb d_Ref_resolve_96 (by decide) ?_
                  refine lv_goto (tgt := 101) hx hb d_Ref_resolve_97 (by decide) ?_
                  exact k267 h265
              refine k_cSi (As := [.int (rs (ix ((if p1 = (0 : Int32) then (16 : Int32) else (24 : Int32)) + (6 : Int32)))), .int (if (f_Ref_bit (rs 1) (14 : Int32)) = (0 : Int32) then (1 : Int32) else (0 : Int32))]) (rest := []) (wr := [(aT, .inr (11, [.ref bG, .ref bS, .ref bM, .int rl, .int rk, .int (0 : Int32), .int (-1 : Int32), .int rc, .int rd, .int ra, .int rb, .int rn, .int rf, .int rw])), (bG, .inl (dG, 32, .inl rg)), (bS, .inl (dS, 48, .inl rs)), (bM, .inl (dM, 16384, .inl rm))]) (wj := [(aT, .inr (11, [.ref bG, .ref bS, .ref bM, .int rl, .int rk, .int (0 : Int32), .int (-1 : Int32), .int rc, .int rd, .int ra, .int rb, .int rn, .int rf, .int rw])), (bG, .inl (dG, 32, .inl rg)), (bS, .inl (dS, 48, .inl rs)), (bM, .inl (dM, 16384, .inl rm))]) ⟨hx, hb, hml, hown, hB⟩ (c_Ref_bit l D (rs (ix ((if p1 = (0 : Int32) then (16 : Int32) else (24 : Int32)) + (6 : Int32)))) (if (f_Ref_bit (rs 1) (14 : Int32)) = (0 : Int32) then (1 : Int32) else (0 : Int32))) yl_Ref_bit mw_725 hK hN hP hD hS hA [] [] [0, 1, 2, 3] [0, 1, 2, 3] rfl rfl rfl rfl (by decide +kernel) rfl hl.1 rfl (Nat.le_of_ble_eq_true rfl) ⟨Nat.le_of_ble_eq_true rfl, Nat.le_of_ble_eq_true rfl⟩ d_Ref_resolve_101 ⟨Nat.le_of_ble_eq_true rfl, Nat.le_of_ble_eq_true rfl⟩ (fun H locs hP hD hS => ?_)
              refine lv_if_eq (tgt := 153) hx hb d_Ref_resolve_104 (by decide) (fun (h270 : (f_Ref_bit (rs (ix ((if p1 = (0 : Int32) then (16 : Int32) else (24 : Int32)) + (6 : Int32)))) (if (f_Ref_bit (rs 1) (14 : Int32)) = (0 : Int32) then (1 : Int32) else (0 : Int32))) = (0 : Int32)) => ?_) (fun (h270 : ¬ (f_Ref_bit (rs (ix ((if p1 = (0 : Int32) then (16 : Int32) else (24 : Int32)) + (6 : Int32)))) (if (f_Ref_bit (rs 1) (14 : Int32)) = (0 : Int32) then (1 : Int32) else (0 : Int32))) = (0 : Int32)) => ?_)
              · refine lv_iinc (v := (4 : Int32)) (lv' := [(4, .int (4 : Int32)), (6, .int (shl ((shr (rs (ix ((if p1 = (0 : Int32) then (16 : Int32) else (24 : Int32)) + (6 : Int32)))) (2 : Int32)) &&& (2047 : Int32)) (13 : Int32))), (5, .int (rs (ix ((if p1 = (0 : Int32) then (16 : Int32) else (24 : Int32)) + (6 : Int32))))), (3, .int (f_Ref_bit (rs 1) (14 : Int32))), (0, .ref aT), (1, .int p0), (2, .int p1)]) hx hb d_Ref_resolve_153 hl (k := 2) rfl (by decide) (by decide) rfl (fun ls hl => ?_)
                refine lv_goto (tgt := 48) hx hb d_Ref_resolve_156 (by decide) ?_
                refine lv_iload hx hb d_Ref_resolve_48 (lv_at hl 0 rfl) ?_
                refine lv_iconst (v := (4 : Int32)) hx hb d_Ref_resolve_50 (by decide) ?_
                refine lv_icmp_ge (tgt := 159) hx hb d_Ref_resolve_51 (by decide) (fun h271 => ?_) (fun h271 => ?_)
                rotate_left
                · exact absurd (by decide) h271
                refine lv_aload_n hx hb d_Ref_resolve_159 rfl (lv_at hl 4 rfl) ?_
                refine lv_iload_n hx hb d_Ref_resolve_160 rfl (lv_at hl 5 rfl) ?_
                refine lv_iload_n hx hb d_Ref_resolve_161 rfl (lv_at hl 6 rfl) ?_
                refine lv_iload_n hx hb d_Ref_resolve_162 rfl (lv_at hl 3 rfl) ?_
                let t272 := (f_Ref_paged p0 p1 (f_Ref_bit (rs 1) (14 : Int32)) rs rm (0 : Int32) (-1 : Int32))
                refine k_cVi (As := [.int p0, .int p1, .int (f_Ref_bit (rs 1) (14 : Int32))]) (rest := []) (wr := []) (wj := [(aT, .inr (11, [.ref bG, .ref bS, .ref bM, .int rl, .int rk, .int t272.2.1, .int t272.2.2, .int rc, .int rd, .int ra, .int rb, .int rn, .int rf, .int rw])), (bG, .inl (dG, 32, .inl rg)), (bS, .inl (dS, 48, .inl rs)), (bM, .inl (dM, 16384, .inl rm))]) ⟨hx, hb, hml, hown, hB⟩ (c_Ref_paged l D aT bG bS bM dG dS dM rg rs rm rl rk (0 : Int32) (-1 : Int32) rc rd ra rb rn rf rw p0 p1 (f_Ref_bit (rs 1) (14 : Int32))) yl_Ref_paged mw_732 hK hN hP hD hS hA [0, 1, 2] [0, 1, 2, 3] [] [0, 1, 2, 3] rfl rfl rfl rfl (by decide +kernel) 0 rfl rfl rfl rfl hl.1 rfl (Nat.le_of_ble_eq_true rfl) ⟨Nat.le_of_ble_eq_true rfl, Nat.le_of_ble_eq_true rfl⟩ d_Ref_resolve_163 ⟨Nat.le_of_ble_eq_true rfl, Nat.le_of_ble_eq_true rfl⟩ (fun H locs hP hD hS => ?_)
                have ef : f_Ref_resolve p0 p1 rs rm = (t272.1, t272.2.1, t272.2.2) := by unfold f_Ref_resolve; try dsimp only; rw [if_neg h6, if_neg h18, if_neg h168, if_neg h180, if_neg h246, if_pos h258, if_pos h270]
                exact k_iret hx hb hr hlocks hK hP hD hS [0, 1, 2, 3] rfl (by rw [ef] <;> rfl) (by rw [ef] <;> rfl) d_Ref_resolve_166
              · refine lv_iload_n hx hb d_Ref_resolve_107 rfl (lv_at hl 5 rfl) ?_
                refine lv_iload hx hb d_Ref_resolve_108 (lv_at hl 1 rfl) ?_
                refine lv_ixor hx hb d_Ref_resolve_110 ?_
                refine lv_iload hx hb d_Ref_resolve_111 (lv_at hl 0 rfl) ?_
                refine lv_iconst (v := (-1 : Int32)) hx hb d_Ref_resolve_113 (by decide) ?_
                refine lv_ixor hx hb d_Ref_resolve_114 ?_
                refine lv_iand hx hb d_Ref_resolve_115 ?_
                refine lv_sipush (v := (-8192 : Int32)) hx hb d_Ref_resolve_116 (by decide) ?_
                refine lv_iand hx hb d_Ref_resolve_119 ?_
                refine lv_if_ne (tgt := 153) hx hb d_Ref_resolve_120 (by decide) (fun (h273 : ¬ (((p0 ^^^ (rs (ix ((if p1 = (0 : Int32) then (16 : Int32) else (24 : Int32)) + (6 : Int32))))) &&& ((shl ((shr (rs (ix ((if p1 = (0 : Int32) then (16 : Int32) else (24 : Int32)) + (6 : Int32)))) (2 : Int32)) &&& (2047 : Int32)) (13 : Int32)) ^^^ (-1 : Int32))) &&& (-8192 : Int32)) = (0 : Int32)) => ?_) (fun (h273 : (((p0 ^^^ (rs (ix ((if p1 = (0 : Int32) then (16 : Int32) else (24 : Int32)) + (6 : Int32))))) &&& ((shl ((shr (rs (ix ((if p1 = (0 : Int32) then (16 : Int32) else (24 : Int32)) + (6 : Int32)))) (2 : Int32)) &&& (2047 : Int32)) (13 : Int32)) ^^^ (-1 : Int32))) &&& (-8192 : Int32)) = (0 : Int32)) => ?_)
                · refine lv_iinc (v := (4 : Int32)) (lv' := [(4, .int (4 : Int32)), (6, .int (shl ((shr (rs (ix ((if p1 = (0 : Int32) then (16 : Int32) else (24 : Int32)) + (6 : Int32)))) (2 : Int32)) &&& (2047 : Int32)) (13 : Int32))), (5, .int (rs (ix ((if p1 = (0 : Int32) then (16 : Int32) else (24 : Int32)) + (6 : Int32))))), (3, .int (f_Ref_bit (rs 1) (14 : Int32))), (0, .ref aT), (1, .int p0), (2, .int p1)]) hx hb d_Ref_resolve_153 hl (k := 2) rfl (by decide) (by decide) rfl (fun ls hl => ?_)
                  refine lv_goto (tgt := 48) hx hb d_Ref_resolve_156 (by decide) ?_
                  refine lv_iload hx hb d_Ref_resolve_48 (lv_at hl 0 rfl) ?_
                  refine lv_iconst (v := (4 : Int32)) hx hb d_Ref_resolve_50 (by decide) ?_
                  refine lv_icmp_ge (tgt := 159) hx hb d_Ref_resolve_51 (by decide) (fun h274 => ?_) (fun h274 => ?_)
                  rotate_left
                  · exact absurd (by decide) h274
                  refine lv_aload_n hx hb d_Ref_resolve_159 rfl (lv_at hl 4 rfl) ?_
                  refine lv_iload_n hx hb d_Ref_resolve_160 rfl (lv_at hl 5 rfl) ?_
                  refine lv_iload_n hx hb d_Ref_resolve_161 rfl (lv_at hl 6 rfl) ?_
                  refine lv_iload_n hx hb d_Ref_resolve_162 rfl (lv_at hl 3 rfl) ?_
                  let t275 := (f_Ref_paged p0 p1 (f_Ref_bit (rs 1) (14 : Int32)) rs rm (0 : Int32) (-1 : Int32))
                  refine k_cVi (As := [.int p0, .int p1, .int (f_Ref_bit (rs 1) (14 : Int32))]) (rest := []) (wr := []) (wj := [(aT, .inr (11, [.ref bG, .ref bS, .ref bM, .int rl, .int rk, .int t275.2.1, .int t275.2.2, .int rc, .int rd, .int ra, .int rb, .int rn, .int rf, .int rw])), (bG, .inl (dG, 32, .inl rg)), (bS, .inl (dS, 48, .inl rs)), (bM, .inl (dM, 16384, .inl rm))]) ⟨hx, hb, hml, hown, hB⟩ (c_Ref_paged l D aT bG bS bM dG dS dM rg rs rm rl rk (0 : Int32) (-1 : Int32) rc rd ra rb rn rf rw p0 p1 (f_Ref_bit (rs 1) (14 : Int32))) yl_Ref_paged mw_732 hK hN hP hD hS hA [0, 1, 2] [0, 1, 2, 3] [] [0, 1, 2, 3] rfl rfl rfl rfl (by decide +kernel) 0 rfl rfl rfl rfl hl.1 rfl (Nat.le_of_ble_eq_true rfl) ⟨Nat.le_of_ble_eq_true rfl, Nat.le_of_ble_eq_true rfl⟩ d_Ref_resolve_163 ⟨Nat.le_of_ble_eq_true rfl, Nat.le_of_ble_eq_true rfl⟩ (fun H locs hP hD hS => ?_)
                  have ef : f_Ref_resolve p0 p1 rs rm = (t275.1, t275.2.1, t275.2.2) := by unfold f_Ref_resolve; try dsimp only; rw [if_neg h6, if_neg h18, if_neg h168, if_neg h180, if_neg h246, if_pos h258, if_neg h270, if_neg h273]
                  exact k_iret hx hb hr hlocks hK hP hD hS [0, 1, 2, 3] rfl (by rw [ef] <;> rfl) (by rw [ef] <;> rfl) d_Ref_resolve_166
                · refine lv_aload_n hx hb d_Ref_resolve_123 rfl (lv_at hl 4 rfl) ?_
                  refine lv_iload_n hx hb d_Ref_resolve_124 rfl (lv_at hl 5 rfl) ?_
                  refine lv_aload_n hx hb d_Ref_resolve_125 rfl (lv_at hl 4 rfl) ?_
                  refine va_get (D := D) (ci := 11) (v := .ref bS) (C := "MappedProcessorModel") (T := T_Ref) (N := 14) hx hb hB iw_Ref hown hK hP 0 rfl rfl 1 (by decide) (hB _ mw_644) (fun _ h9 => h9) rfl d_Ref_resolve_126 ?_
                  refine lv_iload_n hx hb d_Ref_resolve_129 rfl (lv_at hl 6 rfl) ?_
                  refine k_join2 (c0 := p1 = (0 : Int32)) (x1 := (17 : Int32)) (x2 := (25 : Int32)) (rest := [.ref bS, .int p0, .ref aT]) 140 ?_ (fun k277 k278 => ?_)
                  rotate_left
                  · refine lv_if_ne (tgt := 138) hx hb d_Ref_resolve_130 (by decide) (fun (h276 : ¬ p1 = (0 : Int32)) => ?_) (fun (h276 : p1 = (0 : Int32)) => ?_)
                    · refine lv_bipush (v := (25 : Int32)) hx hb d_Ref_resolve_138 (by decide) ?_
                      exact k278 h276
                    · refine lv_bipush (v := (17 : Int32)) hx hb d_Ref_resolve_133 (by decide) ?_
                      refine lv_goto (tgt := 140) hx hb d_Ref_resolve_135 (by decide) ?_
                      exact k277 h276
                  refine lv_iconst (v := (2 : Int32)) hx hb d_Ref_resolve_140 (by decide) ?_
                  refine lv_iload hx hb d_Ref_resolve_141 (lv_at hl 2 rfl) ?_
                  refine lv_imul hx hb d_Ref_resolve_143 ?_
                  refine k_fold (6 : Int32) (by decide) ?_
                  refine lv_iadd hx hb d_Ref_resolve_144 ?_
                  refine k_iald (j := (ix ((if p1 = (0 : Int32) then (17 : Int32) else (25 : Int32)) + (6 : Int32)))) hx hb hK hP 2 1 rfl rfl rfl (by split <;> (unfold vp_in; decide)) d_Ref_resolve_145 ?_
                  refine lv_iload hx hb d_Ref_resolve_146 (lv_at hl 0 rfl) ?_
                  refine lv_iload_n hx hb d_Ref_resolve_148 rfl (lv_at hl 6 rfl) ?_
                  let t281 := (f_Ref_block p0 (rs (ix ((if p1 = (0 : Int32) then (17 : Int32) else (25 : Int32)) + (6 : Int32)))) (shl ((shr (rs (ix ((if p1 = (0 : Int32) then (16 : Int32) else (24 : Int32)) + (6 : Int32)))) (2 : Int32)) &&& (2047 : Int32)) (13 : Int32)) p1 (0 : Int32))
                  refine k_cVi (As := [.int p0, .int (rs (ix ((if p1 = (0 : Int32) then (17 : Int32) else (25 : Int32)) + (6 : Int32)))), .int (shl ((shr (rs (ix ((if p1 = (0 : Int32) then (16 : Int32) else (24 : Int32)) + (6 : Int32)))) (2 : Int32)) &&& (2047 : Int32)) (13 : Int32)), .int p1]) (rest := []) (wr := []) (wj := [(aT, .inr (11, [.ref bG, .ref bS, .ref bM, .int rl, .int rk, .int t281.2, .int (-1 : Int32), .int rc, .int rd, .int ra, .int rb, .int rn, .int rf, .int rw])), (bG, .inl (dG, 32, .inl rg)), (bS, .inl (dS, 48, .inl rs)), (bM, .inl (dM, 16384, .inl rm))]) ⟨hx, hb, hml, hown, hB⟩ (c_Ref_block l D aT bG bS bM dG dS dM rg rs rm rl rk (0 : Int32) (-1 : Int32) rc rd ra rb rn rf rw p0 (rs (ix ((if p1 = (0 : Int32) then (17 : Int32) else (25 : Int32)) + (6 : Int32)))) (shl ((shr (rs (ix ((if p1 = (0 : Int32) then (16 : Int32) else (24 : Int32)) + (6 : Int32)))) (2 : Int32)) &&& (2047 : Int32)) (13 : Int32)) p1) yl_Ref_block mw_728 hK hN hP hD hS hA [0, 1, 2] [0, 1, 2, 3] [] [0, 1, 2, 3] rfl rfl rfl rfl (by decide +kernel) 0 rfl rfl rfl rfl hl.1 rfl (Nat.le_of_ble_eq_true rfl) ⟨Nat.le_of_ble_eq_true rfl, Nat.le_of_ble_eq_true rfl⟩ d_Ref_resolve_149 ⟨Nat.le_of_ble_eq_true rfl, Nat.le_of_ble_eq_true rfl⟩ (fun H locs hP hD hS => ?_)
                  have ef : f_Ref_resolve p0 p1 rs rm = (t281.1, t281.2, (-1 : Int32)) := by unfold f_Ref_resolve; try dsimp only; rw [if_neg h6, if_neg h18, if_neg h168, if_neg h180, if_neg h246, if_pos h258, if_neg h270, if_pos h273]
                  exact k_iret hx hb hr hlocks hK hP hD hS [0, 1, 2, 3] rfl (by rw [ef] <;> rfl) (by rw [ef] <;> rfl) d_Ref_resolve_152
            · refine lv_iload_n hx hb d_Ref_resolve_107 rfl (lv_at hl 5 rfl) ?_
              refine lv_iload hx hb d_Ref_resolve_108 (lv_at hl 1 rfl) ?_
              refine lv_ixor hx hb d_Ref_resolve_110 ?_
              refine lv_iload hx hb d_Ref_resolve_111 (lv_at hl 0 rfl) ?_
              refine lv_iconst (v := (-1 : Int32)) hx hb d_Ref_resolve_113 (by decide) ?_
              refine lv_ixor hx hb d_Ref_resolve_114 ?_
              refine lv_iand hx hb d_Ref_resolve_115 ?_
              refine lv_sipush (v := (-8192 : Int32)) hx hb d_Ref_resolve_116 (by decide) ?_
              refine lv_iand hx hb d_Ref_resolve_119 ?_
              refine lv_if_ne (tgt := 153) hx hb d_Ref_resolve_120 (by decide) (fun (h282 : ¬ (((p0 ^^^ (rs (ix ((if p1 = (0 : Int32) then (16 : Int32) else (24 : Int32)) + (4 : Int32))))) &&& ((shl ((shr (rs (ix ((if p1 = (0 : Int32) then (16 : Int32) else (24 : Int32)) + (4 : Int32)))) (2 : Int32)) &&& (2047 : Int32)) (13 : Int32)) ^^^ (-1 : Int32))) &&& (-8192 : Int32)) = (0 : Int32)) => ?_) (fun (h282 : (((p0 ^^^ (rs (ix ((if p1 = (0 : Int32) then (16 : Int32) else (24 : Int32)) + (4 : Int32))))) &&& ((shl ((shr (rs (ix ((if p1 = (0 : Int32) then (16 : Int32) else (24 : Int32)) + (4 : Int32)))) (2 : Int32)) &&& (2047 : Int32)) (13 : Int32)) ^^^ (-1 : Int32))) &&& (-8192 : Int32)) = (0 : Int32)) => ?_)
              · refine lv_iinc (v := (3 : Int32)) (lv' := [(4, .int (3 : Int32)), (6, .int (shl ((shr (rs (ix ((if p1 = (0 : Int32) then (16 : Int32) else (24 : Int32)) + (4 : Int32)))) (2 : Int32)) &&& (2047 : Int32)) (13 : Int32))), (5, .int (rs (ix ((if p1 = (0 : Int32) then (16 : Int32) else (24 : Int32)) + (4 : Int32))))), (3, .int (f_Ref_bit (rs 1) (14 : Int32))), (0, .ref aT), (1, .int p0), (2, .int p1)]) hx hb d_Ref_resolve_153 hl (k := 2) rfl (by decide) (by decide) rfl (fun ls hl => ?_)
                refine lv_goto (tgt := 48) hx hb d_Ref_resolve_156 (by decide) ?_
                refine lv_iload hx hb d_Ref_resolve_48 (lv_at hl 0 rfl) ?_
                refine lv_iconst (v := (4 : Int32)) hx hb d_Ref_resolve_50 (by decide) ?_
                refine lv_icmp_ge (tgt := 159) hx hb d_Ref_resolve_51 (by decide) (fun h283 => ?_) (fun h283 => ?_)
                · exact absurd h283 (by decide)
                refine lv_aload_n hx hb d_Ref_resolve_54 rfl (lv_at hl 4 rfl) ?_
                refine va_get (D := D) (ci := 11) (v := .ref bS) (C := "MappedProcessorModel") (T := T_Ref) (N := 14) hx hb hB iw_Ref hown hK hP 0 rfl rfl 1 (by decide) (hB _ mw_644) (fun _ h9 => h9) rfl d_Ref_resolve_55 ?_
                refine lv_iload_n hx hb d_Ref_resolve_58 rfl (lv_at hl 6 rfl) ?_
                refine k_join2 (c0 := p1 = (0 : Int32)) (x1 := (16 : Int32)) (x2 := (24 : Int32)) (rest := [.ref bS]) 69 ?_ (fun k285 k286 => ?_)
                rotate_left
                · refine lv_if_ne (tgt := 67) hx hb d_Ref_resolve_59 (by decide) (fun (h284 : ¬ p1 = (0 : Int32)) => ?_) (fun (h284 : p1 = (0 : Int32)) => ?_)
                  · refine lv_bipush (v := (24 : Int32)) hx hb d_Ref_resolve_67 (by decide) ?_
                    exact k286 h284
                  · refine lv_bipush (v := (16 : Int32)) hx hb d_Ref_resolve_62 (by decide) ?_
                    refine lv_goto (tgt := 69) hx hb d_Ref_resolve_64 (by decide) ?_
                    exact k285 h284
                refine lv_iconst (v := (2 : Int32)) hx hb d_Ref_resolve_69 (by decide) ?_
                refine lv_iload hx hb d_Ref_resolve_70 (lv_at hl 0 rfl) ?_
                refine lv_imul hx hb d_Ref_resolve_72 ?_
                refine k_fold (6 : Int32) (by decide) ?_
                refine lv_iadd hx hb d_Ref_resolve_73 ?_
                refine k_iald (j := (ix ((if p1 = (0 : Int32) then (16 : Int32) else (24 : Int32)) + (6 : Int32)))) hx hb hK hP 2 1 rfl rfl rfl (by split <;> (unfold vp_in; decide)) d_Ref_resolve_74 ?_
                refine lv_istore (lv' := [(5, .int (rs (ix ((if p1 = (0 : Int32) then (16 : Int32) else (24 : Int32)) + (6 : Int32))))), (4, .int (3 : Int32)), (6, .int (shl ((shr (rs (ix ((if p1 = (0 : Int32) then (16 : Int32) else (24 : Int32)) + (4 : Int32)))) (2 : Int32)) &&& (2047 : Int32)) (13 : Int32))), (3, .int (f_Ref_bit (rs 1) (14 : Int32))), (0, .ref aT), (1, .int p0), (2, .int p1)]) hx hb d_Ref_resolve_75 hl (by decide) rfl (fun ls hl => ?_)
                refine lv_iload hx hb d_Ref_resolve_77 (lv_at hl 0 rfl) ?_
                refine lv_iconst (v := (2 : Int32)) hx hb d_Ref_resolve_79 (by decide) ?_
                refine lv_ishr hx hb d_Ref_resolve_80 ?_
                refine lv_sipush (v := (2047 : Int32)) hx hb d_Ref_resolve_81 (by decide) ?_
                refine lv_iand hx hb d_Ref_resolve_84 ?_
                refine lv_bipush (v := (13 : Int32)) hx hb d_Ref_resolve_85 (by decide) ?_
                refine lv_ishl hx hb d_Ref_resolve_87 ?_
                refine lv_istore (lv' := [(6, .int (shl ((shr (rs (ix ((if p1 = (0 : Int32) then (16 : Int32) else (24 : Int32)) + (6 : Int32)))) (2 : Int32)) &&& (2047 : Int32)) (13 : Int32))), (5, .int (rs (ix ((if p1 = (0 : Int32) then (16 : Int32) else (24 : Int32)) + (6 : Int32))))), (4, .int (3 : Int32)), (3, .int (f_Ref_bit (rs 1) (14 : Int32))), (0, .ref aT), (1, .int p0), (2, .int p1)]) hx hb d_Ref_resolve_88 hl (by decide) rfl (fun ls hl => ?_)
                refine lv_iload hx hb d_Ref_resolve_90 (lv_at hl 1 rfl) ?_
                refine lv_iload_n hx hb d_Ref_resolve_92 rfl (lv_at hl 3 rfl) ?_
                refine k_join2 (c0 := (f_Ref_bit (rs 1) (14 : Int32)) = (0 : Int32)) (x1 := (1 : Int32)) (x2 := (0 : Int32)) (rest := [.int (rs (ix ((if p1 = (0 : Int32) then (16 : Int32) else (24 : Int32)) + (6 : Int32))))]) 101 ?_ (fun k290 k291 => ?_)
                rotate_left
                · refine lv_if_eq (tgt := 100) hx hb d_Ref_resolve_93 (by decide) (fun (h289 : (f_Ref_bit (rs 1) (14 : Int32)) = (0 : Int32)) => ?_) (fun (h289 : ¬ (f_Ref_bit (rs 1) (14 : Int32)) = (0 : Int32)) => ?_)
                  · refine lv_iconst (v := (1 : Int32)) hx hb d_Ref_resolve_100 (by decide) ?_
                    exact k290 h289
                  · refine lv_iconst (v := (0 : Int32)) hx hb d_Ref_resolve_96 (by decide) ?_
                    refine lv_goto (tgt := 101) hx hb d_Ref_resolve_97 (by decide) ?_
                    exact k291 h289
                refine k_cSi (As := [.int (rs (ix ((if p1 = (0 : Int32) then (16 : Int32) else (24 : Int32)) + (6 : Int32)))), .int (if (f_Ref_bit (rs 1) (14 : Int32)) = (0 : Int32) then (1 : Int32) else (0 : Int32))]) (rest := []) (wr := [(aT, .inr (11, [.ref bG, .ref bS, .ref bM, .int rl, .int rk, .int (0 : Int32), .int (-1 : Int32), .int rc, .int rd, .int ra, .int rb, .int rn, .int rf, .int rw])), (bG, .inl (dG, 32, .inl rg)), (bS, .inl (dS, 48, .inl rs)), (bM, .inl (dM, 16384, .inl rm))]) (wj := [(aT, .inr (11, [.ref bG, .ref bS, .ref bM, .int rl, .int rk, .int (0 : Int32), .int (-1 : Int32), .int rc, .int rd, .int ra, .int rb, .int rn, .int rf, .int rw])), (bG, .inl (dG, 32, .inl rg)), (bS, .inl (dS, 48, .inl rs)), (bM, .inl (dM, 16384, .inl rm))]) ⟨hx, hb, hml, hown, hB⟩ (c_Ref_bit l D (rs (ix ((if p1 = (0 : Int32) then (16 : Int32) else (24 : Int32)) + (6 : Int32)))) (if (f_Ref_bit (rs 1) (14 : Int32)) = (0 : Int32) then (1 : Int32) else (0 : Int32))) yl_Ref_bit mw_725 hK hN hP hD hS hA [] [] [0, 1, 2, 3] [0, 1, 2, 3] rfl rfl rfl rfl (by decide +kernel) rfl hl.1 rfl (Nat.le_of_ble_eq_true rfl) ⟨Nat.le_of_ble_eq_true rfl, Nat.le_of_ble_eq_true rfl⟩ d_Ref_resolve_101 ⟨Nat.le_of_ble_eq_true rfl, Nat.le_of_ble_eq_true rfl⟩ (fun H locs hP hD hS => ?_)
                refine lv_if_eq (tgt := 153) hx hb d_Ref_resolve_104 (by decide) (fun (h294 : (f_Ref_bit (rs (ix ((if p1 = (0 : Int32) then (16 : Int32) else (24 : Int32)) + (6 : Int32)))) (if (f_Ref_bit (rs 1) (14 : Int32)) = (0 : Int32) then (1 : Int32) else (0 : Int32))) = (0 : Int32)) => ?_) (fun (h294 : ¬ (f_Ref_bit (rs (ix ((if p1 = (0 : Int32) then (16 : Int32) else (24 : Int32)) + (6 : Int32)))) (if (f_Ref_bit (rs 1) (14 : Int32)) = (0 : Int32) then (1 : Int32) else (0 : Int32))) = (0 : Int32)) => ?_)
                · refine lv_iinc (v := (4 : Int32)) (lv' := [(4, .int (4 : Int32)), (6, .int (shl ((shr (rs (ix ((if p1 = (0 : Int32) then (16 : Int32) else (24 : Int32)) + (6 : Int32)))) (2 : Int32)) &&& (2047 : Int32)) (13 : Int32))), (5, .int (rs (ix ((if p1 = (0 : Int32) then (16 : Int32) else (24 : Int32)) + (6 : Int32))))), (3, .int (f_Ref_bit (rs 1) (14 : Int32))), (0, .ref aT), (1, .int p0), (2, .int p1)]) hx hb d_Ref_resolve_153 hl (k := 2) rfl (by decide) (by decide) rfl (fun ls hl => ?_)
                  refine lv_goto (tgt := 48) hx hb d_Ref_resolve_156 (by decide) ?_
                  refine lv_iload hx hb d_Ref_resolve_48 (lv_at hl 0 rfl) ?_
                  refine lv_iconst (v := (4 : Int32)) hx hb d_Ref_resolve_50 (by decide) ?_
                  refine lv_icmp_ge (tgt := 159) hx hb d_Ref_resolve_51 (by decide) (fun h295 => ?_) (fun h295 => ?_)
                  rotate_left
                  · exact absurd (by decide) h295
                  refine lv_aload_n hx hb d_Ref_resolve_159 rfl (lv_at hl 4 rfl) ?_
                  refine lv_iload_n hx hb d_Ref_resolve_160 rfl (lv_at hl 5 rfl) ?_
                  refine lv_iload_n hx hb d_Ref_resolve_161 rfl (lv_at hl 6 rfl) ?_
                  refine lv_iload_n hx hb d_Ref_resolve_162 rfl (lv_at hl 3 rfl) ?_
                  let t296 := (f_Ref_paged p0 p1 (f_Ref_bit (rs 1) (14 : Int32)) rs rm (0 : Int32) (-1 : Int32))
                  refine k_cVi (As := [.int p0, .int p1, .int (f_Ref_bit (rs 1) (14 : Int32))]) (rest := []) (wr := []) (wj := [(aT, .inr (11, [.ref bG, .ref bS, .ref bM, .int rl, .int rk, .int t296.2.1, .int t296.2.2, .int rc, .int rd, .int ra, .int rb, .int rn, .int rf, .int rw])), (bG, .inl (dG, 32, .inl rg)), (bS, .inl (dS, 48, .inl rs)), (bM, .inl (dM, 16384, .inl rm))]) ⟨hx, hb, hml, hown, hB⟩ (c_Ref_paged l D aT bG bS bM dG dS dM rg rs rm rl rk (0 : Int32) (-1 : Int32) rc rd ra rb rn rf rw p0 p1 (f_Ref_bit (rs 1) (14 : Int32))) yl_Ref_paged mw_732 hK hN hP hD hS hA [0, 1, 2] [0, 1, 2, 3] [] [0, 1, 2, 3] rfl rfl rfl rfl (by decide +kernel) 0 rfl rfl rfl rfl hl.1 rfl (Nat.le_of_ble_eq_true rfl) ⟨Nat.le_of_ble_eq_true rfl, Nat.le_of_ble_eq_true rfl⟩ d_Ref_resolve_163 ⟨Nat.le_of_ble_eq_true rfl, Nat.le_of_ble_eq_true rfl⟩ (fun H locs hP hD hS => ?_)
                  have ef : f_Ref_resolve p0 p1 rs rm = (t296.1, t296.2.1, t296.2.2) := by unfold f_Ref_resolve; try dsimp only; rw [if_neg h6, if_neg h18, if_neg h168, if_neg h180, if_neg h246, if_neg h258, if_neg h282, if_pos h294]
                  exact k_iret hx hb hr hlocks hK hP hD hS [0, 1, 2, 3] rfl (by rw [ef] <;> rfl) (by rw [ef] <;> rfl) d_Ref_resolve_166
                · refine lv_iload_n hx hb d_Ref_resolve_107 rfl (lv_at hl 5 rfl) ?_
                  refine lv_iload hx hb d_Ref_resolve_108 (lv_at hl 1 rfl) ?_
                  refine lv_ixor hx hb d_Ref_resolve_110 ?_
                  refine lv_iload hx hb d_Ref_resolve_111 (lv_at hl 0 rfl) ?_
                  refine lv_iconst (v := (-1 : Int32)) hx hb d_Ref_resolve_113 (by decide) ?_
                  refine lv_ixor hx hb d_Ref_resolve_114 ?_
                  refine lv_iand hx hb d_Ref_resolve_115 ?_
                  refine lv_sipush (v := (-8192 : Int32)) hx hb d_Ref_resolve_116 (by decide) ?_
                  refine lv_iand hx hb d_Ref_resolve_119 ?_
                  refine lv_if_ne (tgt := 153) hx hb d_Ref_resolve_120 (by decide) (fun (h297 : ¬ (((p0 ^^^ (rs (ix ((if p1 = (0 : Int32) then (16 : Int32) else (24 : Int32)) + (6 : Int32))))) &&& ((shl ((shr (rs (ix ((if p1 = (0 : Int32) then (16 : Int32) else (24 : Int32)) + (6 : Int32)))) (2 : Int32)) &&& (2047 : Int32)) (13 : Int32)) ^^^ (-1 : Int32))) &&& (-8192 : Int32)) = (0 : Int32)) => ?_) (fun (h297 : (((p0 ^^^ (rs (ix ((if p1 = (0 : Int32) then (16 : Int32) else (24 : Int32)) + (6 : Int32))))) &&& ((shl ((shr (rs (ix ((if p1 = (0 : Int32) then (16 : Int32) else (24 : Int32)) + (6 : Int32)))) (2 : Int32)) &&& (2047 : Int32)) (13 : Int32)) ^^^ (-1 : Int32))) &&& (-8192 : Int32)) = (0 : Int32)) => ?_)
                  · refine lv_iinc (v := (4 : Int32)) (lv' := [(4, .int (4 : Int32)), (6, .int (shl ((shr (rs (ix ((if p1 = (0 : Int32) then (16 : Int32) else (24 : Int32)) + (6 : Int32)))) (2 : Int32)) &&& (2047 : Int32)) (13 : Int32))), (5, .int (rs (ix ((if p1 = (0 : Int32) then (16 : Int32) else (24 : Int32)) + (6 : Int32))))), (3, .int (f_Ref_bit (rs 1) (14 : Int32))), (0, .ref aT), (1, .int p0), (2, .int p1)]) hx hb d_Ref_resolve_153 hl (k := 2) rfl (by decide) (by decide) rfl (fun ls hl => ?_)
                    refine lv_goto (tgt := 48) hx hb d_Ref_resolve_156 (by decide) ?_
                    refine lv_iload hx hb d_Ref_resolve_48 (lv_at hl 0 rfl) ?_
                    refine lv_iconst (v := (4 : Int32)) hx hb d_Ref_resolve_50 (by decide) ?_
                    refine lv_icmp_ge (tgt := 159) hx hb d_Ref_resolve_51 (by decide) (fun h298 => ?_) (fun h298 => ?_)
                    rotate_left
                    · exact absurd (by decide) h298
                    refine lv_aload_n hx hb d_Ref_resolve_159 rfl (lv_at hl 4 rfl) ?_
                    refine lv_iload_n hx hb d_Ref_resolve_160 rfl (lv_at hl 5 rfl) ?_
                    refine lv_iload_n hx hb d_Ref_resolve_161 rfl (lv_at hl 6 rfl) ?_
                    refine lv_iload_n hx hb d_Ref_resolve_162 rfl (lv_at hl 3 rfl) ?_
                    let t299 := (f_Ref_paged p0 p1 (f_Ref_bit (rs 1) (14 : Int32)) rs rm (0 : Int32) (-1 : Int32))
                    refine k_cVi (As := [.int p0, .int p1, .int (f_Ref_bit (rs 1) (14 : Int32))]) (rest := []) (wr := []) (wj := [(aT, .inr (11, [.ref bG, .ref bS, .ref bM, .int rl, .int rk, .int t299.2.1, .int t299.2.2, .int rc, .int rd, .int ra, .int rb, .int rn, .int rf, .int rw])), (bG, .inl (dG, 32, .inl rg)), (bS, .inl (dS, 48, .inl rs)), (bM, .inl (dM, 16384, .inl rm))]) ⟨hx, hb, hml, hown, hB⟩ (c_Ref_paged l D aT bG bS bM dG dS dM rg rs rm rl rk (0 : Int32) (-1 : Int32) rc rd ra rb rn rf rw p0 p1 (f_Ref_bit (rs 1) (14 : Int32))) yl_Ref_paged mw_732 hK hN hP hD hS hA [0, 1, 2] [0, 1, 2, 3] [] [0, 1, 2, 3] rfl rfl rfl rfl (by decide +kernel) 0 rfl rfl rfl rfl hl.1 rfl (Nat.le_of_ble_eq_true rfl) ⟨Nat.le_of_ble_eq_true rfl, Nat.le_of_ble_eq_true rfl⟩ d_Ref_resolve_163 ⟨Nat.le_of_ble_eq_true rfl, Nat.le_of_ble_eq_true rfl⟩ (fun H locs hP hD hS => ?_)
                    have ef : f_Ref_resolve p0 p1 rs rm = (t299.1, t299.2.1, t299.2.2) := by unfold f_Ref_resolve; try dsimp only; rw [if_neg h6, if_neg h18, if_neg h168, if_neg h180, if_neg h246, if_neg h258, if_neg h282, if_neg h294, if_neg h297]
                    exact k_iret hx hb hr hlocks hK hP hD hS [0, 1, 2, 3] rfl (by rw [ef] <;> rfl) (by rw [ef] <;> rfl) d_Ref_resolve_166
                  · refine lv_aload_n hx hb d_Ref_resolve_123 rfl (lv_at hl 4 rfl) ?_
                    refine lv_iload_n hx hb d_Ref_resolve_124 rfl (lv_at hl 5 rfl) ?_
                    refine lv_aload_n hx hb d_Ref_resolve_125 rfl (lv_at hl 4 rfl) ?_
                    refine va_get (D := D) (ci := 11) (v := .ref bS) (C := "MappedProcessorModel") (T := T_Ref) (N := 14) hx hb hB iw_Ref hown hK hP 0 rfl rfl 1 (by decide) (hB _ mw_644) (fun _ h9 => h9) rfl d_Ref_resolve_126 ?_
                    refine lv_iload_n hx hb d_Ref_resolve_129 rfl (lv_at hl 6 rfl) ?_
                    refine k_join2 (c0 := p1 = (0 : Int32)) (x1 := (17 : Int32)) (x2 := (25 : Int32)) (rest := [.ref bS, .int p0, .ref aT]) 140 ?_ (fun k301 k302 => ?_)
                    rotate_left
                    · refine lv_if_ne (tgt := 138) hx hb d_Ref_resolve_130 (by decide) (fun (h300 : ¬ p1 = (0 : Int32)) => ?_) (fun (h300 : p1 = (0 : Int32)) => ?_)
                      · refine lv_bipush (v := (25 : Int32)) hx hb d_Ref_resolve_138 (by decide) ?_
                        exact k302 h300
                      · refine lv_bipush (v := (17 : Int32)) hx hb d_Ref_resolve_133 (by decide) ?_
                        refine lv_goto (tgt := 140) hx hb d_Ref_resolve_135 (by decide) ?_
                        exact k301 h300
                    refine lv_iconst (v := (2 : Int32)) hx hb d_Ref_resolve_140 (by decide) ?_
                    refine lv_iload hx hb d_Ref_resolve_141 (lv_at hl 2 rfl) ?_
                    refine lv_imul hx hb d_Ref_resolve_143 ?_
                    refine k_fold (6 : Int32) (by decide) ?_
                    refine lv_iadd hx hb d_Ref_resolve_144 ?_
                    refine k_iald (j := (ix ((if p1 = (0 : Int32) then (17 : Int32) else (25 : Int32)) + (6 : Int32)))) hx hb hK hP 2 1 rfl rfl rfl (by split <;> (unfold vp_in; decide)) d_Ref_resolve_145 ?_
                    refine lv_iload hx hb d_Ref_resolve_146 (lv_at hl 0 rfl) ?_
                    refine lv_iload_n hx hb d_Ref_resolve_148 rfl (lv_at hl 6 rfl) ?_
                    let t305 := (f_Ref_block p0 (rs (ix ((if p1 = (0 : Int32) then (17 : Int32) else (25 : Int32)) + (6 : Int32)))) (shl ((shr (rs (ix ((if p1 = (0 : Int32) then (16 : Int32) else (24 : Int32)) + (6 : Int32)))) (2 : Int32)) &&& (2047 : Int32)) (13 : Int32)) p1 (0 : Int32))
                    refine k_cVi (As := [.int p0, .int (rs (ix ((if p1 = (0 : Int32) then (17 : Int32) else (25 : Int32)) + (6 : Int32)))), .int (shl ((shr (rs (ix ((if p1 = (0 : Int32) then (16 : Int32) else (24 : Int32)) + (6 : Int32)))) (2 : Int32)) &&& (2047 : Int32)) (13 : Int32)), .int p1]) (rest := []) (wr := []) (wj := [(aT, .inr (11, [.ref bG, .ref bS, .ref bM, .int rl, .int rk, .int t305.2, .int (-1 : Int32), .int rc, .int rd, .int ra, .int rb, .int rn, .int rf, .int rw])), (bG, .inl (dG, 32, .inl rg)), (bS, .inl (dS, 48, .inl rs)), (bM, .inl (dM, 16384, .inl rm))]) ⟨hx, hb, hml, hown, hB⟩ (c_Ref_block l D aT bG bS bM dG dS dM rg rs rm rl rk (0 : Int32) (-1 : Int32) rc rd ra rb rn rf rw p0 (rs (ix ((if p1 = (0 : Int32) then (17 : Int32) else (25 : Int32)) + (6 : Int32)))) (shl ((shr (rs (ix ((if p1 = (0 : Int32) then (16 : Int32) else (24 : Int32)) + (6 : Int32)))) (2 : Int32)) &&& (2047 : Int32)) (13 : Int32)) p1) yl_Ref_block mw_728 hK hN hP hD hS hA [0, 1, 2] [0, 1, 2, 3] [] [0, 1, 2, 3] rfl rfl rfl rfl (by decide +kernel) 0 rfl rfl rfl rfl hl.1 rfl (Nat.le_of_ble_eq_true rfl) ⟨Nat.le_of_ble_eq_true rfl, Nat.le_of_ble_eq_true rfl⟩ d_Ref_resolve_149 ⟨Nat.le_of_ble_eq_true rfl, Nat.le_of_ble_eq_true rfl⟩ (fun H locs hP hD hS => ?_)
                    have ef : f_Ref_resolve p0 p1 rs rm = (t305.1, t305.2, (-1 : Int32)) := by unfold f_Ref_resolve; try dsimp only; rw [if_neg h6, if_neg h18, if_neg h168, if_neg h180, if_neg h246, if_neg h258, if_neg h282, if_neg h294, if_pos h297]
                    exact k_iret hx hb hr hlocks hK hP hD hS [0, 1, 2, 3] rfl (by rw [ef] <;> rfl) (by rw [ef] <;> rfl) d_Ref_resolve_152
              · refine lv_aload_n hx hb d_Ref_resolve_123 rfl (lv_at hl 4 rfl) ?_
                refine lv_iload_n hx hb d_Ref_resolve_124 rfl (lv_at hl 5 rfl) ?_
                refine lv_aload_n hx hb d_Ref_resolve_125 rfl (lv_at hl 4 rfl) ?_
                refine va_get (D := D) (ci := 11) (v := .ref bS) (C := "MappedProcessorModel") (T := T_Ref) (N := 14) hx hb hB iw_Ref hown hK hP 0 rfl rfl 1 (by decide) (hB _ mw_644) (fun _ h9 => h9) rfl d_Ref_resolve_126 ?_
                refine lv_iload_n hx hb d_Ref_resolve_129 rfl (lv_at hl 6 rfl) ?_
                refine k_join2 (c0 := p1 = (0 : Int32)) (x1 := (17 : Int32)) (x2 := (25 : Int32)) (rest := [.ref bS, .int p0, .ref aT]) 140 ?_ (fun k307 k308 => ?_)
                rotate_left
                · refine lv_if_ne (tgt := 138) hx hb d_Ref_resolve_130 (by decide) (fun (h306 : ¬ p1 = (0 : Int32)) => ?_) (fun (h306 : p1 = (0 : Int32)) => ?_)
                  · refine lv_bipush (v := (25 : Int32)) hx hb d_Ref_resolve_138 (by decide) ?_
                    exact k308 h306
                  · refine lv_bipush (v := (17 : Int32)) hx hb d_Ref_resolve_133 (by decide) ?_
                    refine lv_goto (tgt := 140) hx hb d_Ref_resolve_135 (by decide) ?_
                    exact k307 h306
                refine lv_iconst (v := (2 : Int32)) hx hb d_Ref_resolve_140 (by decide) ?_
                refine lv_iload hx hb d_Ref_resolve_141 (lv_at hl 2 rfl) ?_
                refine lv_imul hx hb d_Ref_resolve_143 ?_
                refine k_fold (4 : Int32) (by decide) ?_
                refine lv_iadd hx hb d_Ref_resolve_144 ?_
                refine k_iald (j := (ix ((if p1 = (0 : Int32) then (17 : Int32) else (25 : Int32)) + (4 : Int32)))) hx hb hK hP 2 1 rfl rfl rfl (by split <;> (unfold vp_in; decide)) d_Ref_resolve_145 ?_
                refine lv_iload hx hb d_Ref_resolve_146 (lv_at hl 0 rfl) ?_
                refine lv_iload_n hx hb d_Ref_resolve_148 rfl (lv_at hl 6 rfl) ?_
                let t311 := (f_Ref_block p0 (rs (ix ((if p1 = (0 : Int32) then (17 : Int32) else (25 : Int32)) + (4 : Int32)))) (shl ((shr (rs (ix ((if p1 = (0 : Int32) then (16 : Int32) else (24 : Int32)) + (4 : Int32)))) (2 : Int32)) &&& (2047 : Int32)) (13 : Int32)) p1 (0 : Int32))
                refine k_cVi (As := [.int p0, .int (rs (ix ((if p1 = (0 : Int32) then (17 : Int32) else (25 : Int32)) + (4 : Int32)))), .int (shl ((shr (rs (ix ((if p1 = (0 : Int32) then (16 : Int32) else (24 : Int32)) + (4 : Int32)))) (2 : Int32)) &&& (2047 : Int32)) (13 : Int32)), .int p1]) (rest := []) (wr := []) (wj := [(aT, .inr (11, [.ref bG, .ref bS, .ref bM, .int rl, .int rk, .int t311.2, .int (-1 : Int32), .int rc, .int rd, .int ra, .int rb, .int rn, .int rf, .int rw])), (bG, .inl (dG, 32, .inl rg)), (bS, .inl (dS, 48, .inl rs)), (bM, .inl (dM, 16384, .inl rm))]) ⟨hx, hb, hml, hown, hB⟩ (c_Ref_block l D aT bG bS bM dG dS dM rg rs rm rl rk (0 : Int32) (-1 : Int32) rc rd ra rb rn rf rw p0 (rs (ix ((if p1 = (0 : Int32) then (17 : Int32) else (25 : Int32)) + (4 : Int32)))) (shl ((shr (rs (ix ((if p1 = (0 : Int32) then (16 : Int32) else (24 : Int32)) + (4 : Int32)))) (2 : Int32)) &&& (2047 : Int32)) (13 : Int32)) p1) yl_Ref_block mw_728 hK hN hP hD hS hA [0, 1, 2] [0, 1, 2, 3] [] [0, 1, 2, 3] rfl rfl rfl rfl (by decide +kernel) 0 rfl rfl rfl rfl hl.1 rfl (Nat.le_of_ble_eq_true rfl) ⟨Nat.le_of_ble_eq_true rfl, Nat.le_of_ble_eq_true rfl⟩ d_Ref_resolve_149 ⟨Nat.le_of_ble_eq_true rfl, Nat.le_of_ble_eq_true rfl⟩ (fun H locs hP hD hS => ?_)
                have ef : f_Ref_resolve p0 p1 rs rm = (t311.1, t311.2, (-1 : Int32)) := by unfold f_Ref_resolve; try dsimp only; rw [if_neg h6, if_neg h18, if_neg h168, if_neg h180, if_neg h246, if_neg h258, if_pos h282]
                exact k_iret hx hb hr hlocks hK hP hD hS [0, 1, 2, 3] rfl (by rw [ef] <;> rfl) (by rw [ef] <;> rfl) d_Ref_resolve_152
          · refine lv_aload_n hx hb d_Ref_resolve_123 rfl (lv_at hl 4 rfl) ?_
            refine lv_iload_n hx hb d_Ref_resolve_124 rfl (lv_at hl 5 rfl) ?_
            refine lv_aload_n hx hb d_Ref_resolve_125 rfl (lv_at hl 4 rfl) ?_
            refine va_get (D := D) (ci := 11) (v := .ref bS) (C := "MappedProcessorModel") (T := T_Ref) (N := 14) hx hb hB iw_Ref hown hK hP 0 rfl rfl 1 (by decide) (hB _ mw_644) (fun _ h9 => h9) rfl d_Ref_resolve_126 ?_
            refine lv_iload_n hx hb d_Ref_resolve_129 rfl (lv_at hl 6 rfl) ?_
            refine k_join2 (c0 := p1 = (0 : Int32)) (x1 := (17 : Int32)) (x2 := (25 : Int32)) (rest := [.ref bS, .int p0, .ref aT]) 140 ?_ (fun k313 k314 => ?_)
            rotate_left
            · refine lv_if_ne (tgt := 138) hx hb d_Ref_resolve_130 (by decide) (fun (h312 : ¬ p1 = (0 : Int32)) => ?_) (fun (h312 : p1 = (0 : Int32)) => ?_)
              · refine lv_bipush (v := (25 : Int32)) hx hb d_Ref_resolve_138 (by decide) ?_
                exact k314 h312
              · refine lv_bipush (v := (17 : Int32)) hx hb d_Ref_resolve_133 (by decide) ?_
                refine lv_goto (tgt := 140) hx hb d_Ref_resolve_135 (by decide) ?_
                exact k313 h312
            refine lv_iconst (v := (2 : Int32)) hx hb d_Ref_resolve_140 (by decide) ?_
            refine lv_iload hx hb d_Ref_resolve_141 (lv_at hl 2 rfl) ?_
            refine lv_imul hx hb d_Ref_resolve_143 ?_
            refine k_fold (2 : Int32) (by decide) ?_
            refine lv_iadd hx hb d_Ref_resolve_144 ?_
            refine k_iald (j := (ix ((if p1 = (0 : Int32) then (17 : Int32) else (25 : Int32)) + (2 : Int32)))) hx hb hK hP 2 1 rfl rfl rfl (by split <;> (unfold vp_in; decide)) d_Ref_resolve_145 ?_
            refine lv_iload hx hb d_Ref_resolve_146 (lv_at hl 0 rfl) ?_
            refine lv_iload_n hx hb d_Ref_resolve_148 rfl (lv_at hl 6 rfl) ?_
            let t317 := (f_Ref_block p0 (rs (ix ((if p1 = (0 : Int32) then (17 : Int32) else (25 : Int32)) + (2 : Int32)))) (shl ((shr (rs (ix ((if p1 = (0 : Int32) then (16 : Int32) else (24 : Int32)) + (2 : Int32)))) (2 : Int32)) &&& (2047 : Int32)) (13 : Int32)) p1 (0 : Int32))
            refine k_cVi (As := [.int p0, .int (rs (ix ((if p1 = (0 : Int32) then (17 : Int32) else (25 : Int32)) + (2 : Int32)))), .int (shl ((shr (rs (ix ((if p1 = (0 : Int32) then (16 : Int32) else (24 : Int32)) + (2 : Int32)))) (2 : Int32)) &&& (2047 : Int32)) (13 : Int32)), .int p1]) (rest := []) (wr := []) (wj := [(aT, .inr (11, [.ref bG, .ref bS, .ref bM, .int rl, .int rk, .int t317.2, .int (-1 : Int32), .int rc, .int rd, .int ra, .int rb, .int rn, .int rf, .int rw])), (bG, .inl (dG, 32, .inl rg)), (bS, .inl (dS, 48, .inl rs)), (bM, .inl (dM, 16384, .inl rm))]) ⟨hx, hb, hml, hown, hB⟩ (c_Ref_block l D aT bG bS bM dG dS dM rg rs rm rl rk (0 : Int32) (-1 : Int32) rc rd ra rb rn rf rw p0 (rs (ix ((if p1 = (0 : Int32) then (17 : Int32) else (25 : Int32)) + (2 : Int32)))) (shl ((shr (rs (ix ((if p1 = (0 : Int32) then (16 : Int32) else (24 : Int32)) + (2 : Int32)))) (2 : Int32)) &&& (2047 : Int32)) (13 : Int32)) p1) yl_Ref_block mw_728 hK hN hP hD hS hA [0, 1, 2] [0, 1, 2, 3] [] [0, 1, 2, 3] rfl rfl rfl rfl (by decide +kernel) 0 rfl rfl rfl rfl hl.1 rfl (Nat.le_of_ble_eq_true rfl) ⟨Nat.le_of_ble_eq_true rfl, Nat.le_of_ble_eq_true rfl⟩ d_Ref_resolve_149 ⟨Nat.le_of_ble_eq_true rfl, Nat.le_of_ble_eq_true rfl⟩ (fun H locs hP hD hS => ?_)
            have ef : f_Ref_resolve p0 p1 rs rm = (t317.1, t317.2, (-1 : Int32)) := by unfold f_Ref_resolve; try dsimp only; rw [if_neg h6, if_neg h18, if_neg h168, if_neg h180, if_pos h246]
            exact k_iret hx hb hr hlocks hK hP hD hS [0, 1, 2, 3] rfl (by rw [ef] <;> rfl) (by rw [ef] <;> rfl) d_Ref_resolve_152
      · refine lv_aload_n hx hb d_Ref_resolve_123 rfl (lv_at hl 4 rfl) ?_
        refine lv_iload_n hx hb d_Ref_resolve_124 rfl (lv_at hl 5 rfl) ?_
        refine lv_aload_n hx hb d_Ref_resolve_125 rfl (lv_at hl 4 rfl) ?_
        refine va_get (D := D) (ci := 11) (v := .ref bS) (C := "MappedProcessorModel") (T := T_Ref) (N := 14) hx hb hB iw_Ref hown hK hP 0 rfl rfl 1 (by decide) (hB _ mw_644) (fun _ h9 => h9) rfl d_Ref_resolve_126 ?_
        refine lv_iload_n hx hb d_Ref_resolve_129 rfl (lv_at hl 6 rfl) ?_
        refine k_join2 (c0 := p1 = (0 : Int32)) (x1 := (17 : Int32)) (x2 := (25 : Int32)) (rest := [.ref bS, .int p0, .ref aT]) 140 ?_ (fun k319 k320 => ?_)
        rotate_left
        · refine lv_if_ne (tgt := 138) hx hb d_Ref_resolve_130 (by decide) (fun (h318 : ¬ p1 = (0 : Int32)) => ?_) (fun (h318 : p1 = (0 : Int32)) => ?_)
          · refine lv_bipush (v := (25 : Int32)) hx hb d_Ref_resolve_138 (by decide) ?_
            exact k320 h318
          · refine lv_bipush (v := (17 : Int32)) hx hb d_Ref_resolve_133 (by decide) ?_
            refine lv_goto (tgt := 140) hx hb d_Ref_resolve_135 (by decide) ?_
            exact k319 h318
        refine lv_iconst (v := (2 : Int32)) hx hb d_Ref_resolve_140 (by decide) ?_
        refine lv_iload hx hb d_Ref_resolve_141 (lv_at hl 2 rfl) ?_
        refine lv_imul hx hb d_Ref_resolve_143 ?_
        refine k_fold (0 : Int32) (by decide) ?_
        refine lv_iadd hx hb d_Ref_resolve_144 ?_
        refine k_iald (j := (ix ((if p1 = (0 : Int32) then (17 : Int32) else (25 : Int32)) + (0 : Int32)))) hx hb hK hP 2 1 rfl rfl rfl (by split <;> (unfold vp_in; decide)) d_Ref_resolve_145 ?_
        refine lv_iload hx hb d_Ref_resolve_146 (lv_at hl 0 rfl) ?_
        refine lv_iload_n hx hb d_Ref_resolve_148 rfl (lv_at hl 6 rfl) ?_
        let t323 := (f_Ref_block p0 (rs (ix ((if p1 = (0 : Int32) then (17 : Int32) else (25 : Int32)) + (0 : Int32)))) (shl ((shr (rs (ix ((if p1 = (0 : Int32) then (16 : Int32) else (24 : Int32)) + (0 : Int32)))) (2 : Int32)) &&& (2047 : Int32)) (13 : Int32)) p1 (0 : Int32))
        refine k_cVi (As := [.int p0, .int (rs (ix ((if p1 = (0 : Int32) then (17 : Int32) else (25 : Int32)) + (0 : Int32)))), .int (shl ((shr (rs (ix ((if p1 = (0 : Int32) then (16 : Int32) else (24 : Int32)) + (0 : Int32)))) (2 : Int32)) &&& (2047 : Int32)) (13 : Int32)), .int p1]) (rest := []) (wr := []) (wj := [(aT, .inr (11, [.ref bG, .ref bS, .ref bM, .int rl, .int rk, .int t323.2, .int (-1 : Int32), .int rc, .int rd, .int ra, .int rb, .int rn, .int rf, .int rw])), (bG, .inl (dG, 32, .inl rg)), (bS, .inl (dS, 48, .inl rs)), (bM, .inl (dM, 16384, .inl rm))]) ⟨hx, hb, hml, hown, hB⟩ (c_Ref_block l D aT bG bS bM dG dS dM rg rs rm rl rk (0 : Int32) (-1 : Int32) rc rd ra rb rn rf rw p0 (rs (ix ((if p1 = (0 : Int32) then (17 : Int32) else (25 : Int32)) + (0 : Int32)))) (shl ((shr (rs (ix ((if p1 = (0 : Int32) then (16 : Int32) else (24 : Int32)) + (0 : Int32)))) (2 : Int32)) &&& (2047 : Int32)) (13 : Int32)) p1) yl_Ref_block mw_728 hK hN hP hD hS hA [0, 1, 2] [0, 1, 2, 3] [] [0, 1, 2, 3] rfl rfl rfl rfl (by decide +kernel) 0 rfl rfl rfl rfl hl.1 rfl (Nat.le_of_ble_eq_true rfl) ⟨Nat.le_of_ble_eq_true rfl, Nat.le_of_ble_eq_true rfl⟩ d_Ref_resolve_149 ⟨Nat.le_of_ble_eq_true rfl, Nat.le_of_ble_eq_true rfl⟩ (fun H locs hP hD hS => ?_)
        have ef : f_Ref_resolve p0 p1 rs rm = (t323.1, t323.2, (-1 : Int32)) := by unfold f_Ref_resolve; try dsimp only; rw [if_neg h6, if_neg h18, if_pos h168]
        exact k_iret hx hb hr hlocks hK hP hD hS [0, 1, 2, 3] rfl (by rw [ef] <;> rfl) (by rw [ef] <;> rfl) d_Ref_resolve_152
  · refine lv_iload_n hx hb d_Ref_resolve_31 rfl (lv_at hl 1 rfl) ?_
    have ef : f_Ref_resolve p0 p1 rs rm = (p0, (0 : Int32), (-1 : Int32)) := by unfold f_Ref_resolve; try dsimp only; rw [if_pos h6]
    exact k_iret hx hb hr hlocks hK hP hD hS [0, 1, 2, 3] rfl (by rw [ef] <;> rfl) (by rw [ef] <;> rfl) d_Ref_resolve_32
/-! MappedProcessorModel.touch(I)V -/
theorem d_Ref_touch_0 : decode b_Ref_touch 0 = .ok (.aload_n 0, 1) := by decide +kernel
theorem d_Ref_touch_1 : decode b_Ref_touch 1 = .ok (.getfield 25, 3) := by decide +kernel
theorem d_Ref_touch_4 : decode b_Ref_touch 4 = .ok (.ifCond .lt 36, 3) := by decide +kernel
theorem d_Ref_touch_7 : decode b_Ref_touch 7 = .ok (.aload_n 0, 1) := by decide +kernel
theorem d_Ref_touch_8 : decode b_Ref_touch 8 = .ok (.getfield 16, 3) := by decide +kernel
theorem d_Ref_touch_11 : decode b_Ref_touch 11 = .ok (.aload_n 0, 1) := by decide +kernel
theorem d_Ref_touch_12 : decode b_Ref_touch 12 = .ok (.getfield 25, 3) := by decide +kernel
theorem d_Ref_touch_15 : decode b_Ref_touch 15 = .ok (.aload_n 0, 1) := by decide +kernel
theorem d_Ref_touch_16 : decode b_Ref_touch 16 = .ok (.getfield 16, 3) := by decide +kernel
theorem d_Ref_touch_19 : decode b_Ref_touch 19 = .ok (.aload_n 0, 1) := by decide +kernel
theorem d_Ref_touch_20 : decode b_Ref_touch 20 = .ok (.getfield 25, 3) := by decide +kernel
theorem d_Ref_touch_23 : decode b_Ref_touch 23 = .ok (.iaload, 1) := by decide +kernel
theorem d_Ref_touch_24 : decode b_Ref_touch 24 = .ok (.iload_n 1, 1) := by decide +kernel
theorem d_Ref_touch_25 : decode b_Ref_touch 25 = .ok (.iconst 2, 1) := by decide +kernel
theorem d_Ref_touch_26 : decode b_Ref_touch 26 = .ok (.if_icmp .ne 9, 3) := by decide +kernel
theorem d_Ref_touch_29 : decode b_Ref_touch 29 = .ok (.sipush 384, 3) := by decide +kernel
theorem d_Ref_touch_32 : decode b_Ref_touch 32 = .ok (.goto 6, 3) := by decide +kernel
theorem d_Ref_touch_35 : decode b_Ref_touch 35 = .ok (.sipush 256, 3) := by decide +kernel
theorem d_Ref_touch_38 : decode b_Ref_touch 38 = .ok (.ior, 1) := by decide +kernel
theorem d_Ref_touch_39 : decode b_Ref_touch 39 = .ok (.iastore, 1) := by decide +kernel
theorem d_Ref_touch_40 : decode b_Ref_touch 40 = .ok (.return_, 1) := by decide +kernel
def f_Ref_touch (p0 : Int32) (rm : Nat → Int32) (re : Int32) : (Nat → Int32) :=
  if re < (0 : Int32) then
    rm
  else
    (upd rm (ix re) ((rm (ix re)) ||| (if p0 = (2 : Int32) then (384 : Int32) else (256 : Int32))))
set_option maxHeartbeats 4000000 in
set_option maxRecDepth 100000 in
theorem en_resolve0 (p0 p1 : Int32) (rs rm : Nat → Int32) : en_ok (f_Ref_resolve p0 p1 rs rm) := by
  unfold f_Ref_resolve
  try dsimp only
  repeat' (with_reducible refine pred_ite ?_ ?_)
  all_goals (unfold en_ok)
  all_goals (try dsimp only)
  all_goals first | with_reducible exact en_pg _ _ _ _ _ | decide
theorem en_resolve (p0 p1 : Int32) (rs rm : Nat → Int32) : (f_Ref_resolve p0 p1 rs rm).2.2 < 16384 := en_resolve0 p0 p1 rs rm
set_option maxHeartbeats 4000000 in
set_option maxRecDepth 100000 in
theorem c_Ref_touch (l : Launch) (D : va_G) (aT bG bS bM : Nat) (dG dS dM : ClassId) (rg : Nat → Int32) (rs : Nat → Int32) (rm : Nat → Int32) (rl : Int32) (rk : Int32) (rr : Int32) (re : Int32) (rc : Int32) (rd : Int32) (ra : Int32) (rb : Int32) (rn : Int32) (rf : Int32) (rw : Int32) (p0 : Int32) (hre : re < 16384) : kMv l y_Ref_touch b_Ref_touch 2 none 0 0 D kCl [(dG, .int), (dS, .int), (dM, .int)] [.ref aT, .int p0] [(aT, .inr (11, [.ref bG, .ref bS, .ref bM, .int rl, .int rk, .int rr, .int re, .int rc, .int rd, .int ra, .int rb, .int rn, .int rf, .int rw])), (bG, .inl (dG, 32, .inl rg)), (bS, .inl (dS, 48, .inl rs)), (bM, .inl (dM, 16384, .inl rm))] [(aT, .inr (11, [.ref bG, .ref bS, .ref bM, .int rl, .int rk, .int rr, .int re, .int rc, .int rd, .int ra, .int rb, .int rn, .int rf, .int rw])), (bG, .inl (dG, 32, .inl rg)), (bS, .inl (dS, 48, .inl rs)), (bM, .inl (dM, 16384, .inl (f_Ref_touch p0 rm re)))] := by
  refine k_entry (Qc := fun A => kQv D kCl [(dG, .int), (dS, .int), (dM, .int)] [(aT, .inr (11, [.ref bG, .ref bS, .ref bM, .int rl, .int rk, .int rr, .int re, .int rc, .int rd, .int ra, .int rb, .int rn, .int rf, .int rw])), (bG, .inl (dG, 32, .inl rg)), (bS, .inl (dS, 48, .inl rs)), (bM, .inl (dM, 16384, .inl (f_Ref_touch p0 rm re)))] A) (lv := [(0, .ref aT), (1, .int p0)]) (by decide) (Nat.le_of_ble_eq_true rfl) rfl ?_
  intro p e s m below meth c A ls hx hb hr hml hB hown hlocks hin hA hK hN hP hD hS hl
  have hown : s.vm.findClass "MappedProcessorModel" = some m.cls := hown
  refine lv_aload_n hx hb d_Ref_touch_0 rfl (lv_at hl 0 rfl) ?_
  refine va_get (D := D) (ci := 11) (v := .int re) (C := "MappedProcessorModel") (T := T_Ref) (N := 14) hx hb hB iw_Ref hown hK hP 0 rfl rfl 6 (by decide) (hB _ mw_649) (fun _ h9 => h9) rfl d_Ref_touch_1 ?_
  refine lv_if_lt (tgt := 40) hx hb d_Ref_touch_4 (by decide) (fun (h9 : re < (0 : Int32)) => ?_) (fun (h9 : ¬ re < (0 : Int32)) => ?_)
  · have ef : f_Ref_touch p0 rm re = rm := by unfold f_Ref_touch; rw [if_pos h9]
    exact k_vret hx hb hr hlocks hK hP hD hS [0, 1, 2, 3] rfl (by rw [ef] <;> rfl) d_Ref_touch_40
  · refine lv_aload_n hx hb d_Ref_touch_7 rfl (lv_at hl 0 rfl) ?_
    refine va_get (D := D) (ci := 11) (v := .ref bM) (C := "MappedProcessorModel") (T := T_Ref) (N := 14) hx hb hB iw_Ref hown hK hP 0 rfl rfl 2 (by decide) (hB _ mw_645) (fun _ h9 => h9) rfl d_Ref_touch_8 ?_
    refine lv_aload_n hx hb d_Ref_touch_11 rfl (lv_at hl 0 rfl) ?_
    refine va_get (D := D) (ci := 11) (v := .int re) (C := "MappedProcessorModel") (T := T_Ref) (N := 14) hx hb hB iw_Ref hown hK hP 0 rfl rfl 6 (by decide) (hB _ mw_649) (fun _ h9 => h9) rfl d_Ref_touch_12 ?_
    refine lv_aload_n hx hb d_Ref_touch_15 rfl (lv_at hl 0 rfl) ?_
    refine va_get (D := D) (ci := 11) (v := .ref bM) (C := "MappedProcessorModel") (T := T_Ref) (N := 14) hx hb hB iw_Ref hown hK hP 0 rfl rfl 2 (by decide) (hB _ mw_645) (fun _ h9 => h9) rfl d_Ref_touch_16 ?_
    refine lv_aload_n hx hb d_Ref_touch_19 rfl (lv_at hl 0 rfl) ?_
    refine va_get (D := D) (ci := 11) (v := .int re) (C := "MappedProcessorModel") (T := T_Ref) (N := 14) hx hb hB iw_Ref hown hK hP 0 rfl rfl 6 (by decide) (hB _ mw_649) (fun _ h9 => h9) rfl d_Ref_touch_20 ?_
    refine k_iald (j := (ix re)) hx hb hK hP 3 2 rfl rfl rfl (ix_rng h9 hre) d_Ref_touch_23 ?_
    refine lv_iload_n hx hb d_Ref_touch_24 rfl (lv_at hl 1 rfl) ?_
    refine lv_iconst (v := (2 : Int32)) hx hb d_Ref_touch_25 (by decide) ?_
    refine k_join2 (c0 := p0 = (2 : Int32)) (x1 := (384 : Int32)) (x2 := (256 : Int32)) (rest := [.int (rm (ix re)), .int re, .ref bM]) 38 ?_ (fun k11 k12 => ?_)
    rotate_left
    · refine lv_icmp_ne (tgt := 35) hx hb d_Ref_touch_26 (by decide) (fun (h10 : ¬ p0 = (2 : Int32)) => ?_) (fun (h10 : p0 = (2 : Int32)) => ?_)
      · refine lv_sipush (v := (256 : Int32)) hx hb d_Ref_touch_35 (by decide) ?_
        exact k12 h10
      · refine lv_sipush (v := (384 : Int32)) hx hb d_Ref_touch_29 (by decide) ?_
        refine lv_goto (tgt := 38) hx hb d_Ref_touch_32 (by decide) ?_
        exact k11 h10
    refine lv_ior hx hb d_Ref_touch_38 ?_
    refine k_iast (j := (ix re)) hx hb hK hP hD hS 3 2 rfl rfl rfl (ix_rng h9 hre) d_Ref_touch_39 (fun H locs hP hD hS => ?_)
    have hP : va_P D kCl [(aT, .inr (11, [.ref bG, .ref bS, .ref bM, .int rl, .int rk, .int rr, .int re, .int rc, .int rd, .int ra, .int rb, .int rn, .int rf, .int rw])), (bG, .inl (dG, 32, .inl rg)), (bS, .inl (dS, 48, .inl rs)), (bM, .inl (dM, 16384, .inl (upd rm (ix re) ((rm (ix re)) ||| (if p0 = (2 : Int32) then (384 : Int32) else (256 : Int32))))))] H := hP
    have hD : va_D A [(aT, .inr (11, [.ref bG, .ref bS, .ref bM, .int rl, .int rk, .int rr, .int re, .int rc, .int rd, .int ra, .int rb, .int rn, .int rf, .int rw])), (bG, .inl (dG, 32, .inl rg)), (bS, .inl (dS, 48, .inl rs)), (bM, .inl (dM, 16384, .inl (upd rm (ix re) ((rm (ix re)) ||| (if p0 = (2 : Int32) then (384 : Int32) else (256 : Int32))))))] := hD
    have ef : f_Ref_touch p0 rm re = (upd rm (ix re) ((rm (ix re)) ||| (if p0 = (2 : Int32) then (384 : Int32) else (256 : Int32)))) := by unfold f_Ref_touch; rw [if_neg h9]
    exact k_vret hx hb hr hlocks hK hP hD hS [0, 1, 2, 3] rfl (by rw [ef] <;> rfl) d_Ref_touch_40
/-! MappedProcessorModel.exception(II)V -/
theorem d_Ref_exception_0 : decode b_Ref_exception 0 = .ok (.aload_n 0, 1) := by decide +kernel
theorem d_Ref_exception_1 : decode b_Ref_exception 1 = .ok (.getfield 13, 3) := by decide +kernel
theorem d_Ref_exception_4 : decode b_Ref_exception 4 = .ok (.bipush 6, 2) := by decide +kernel
theorem d_Ref_exception_6 : decode b_Ref_exception 6 = .ok (.aload_n 0, 1) := by decide +kernel
theorem d_Ref_exception_7 : decode b_Ref_exception 7 = .ok (.getfield 13, 3) := by decide +kernel
theorem d_Ref_exception_10 : decode b_Ref_exception 10 = .ok (.iconst 0, 1) := by decide +kernel
theorem d_Ref_exception_11 : decode b_Ref_exception 11 = .ok (.iaload, 1) := by decide +kernel
theorem d_Ref_exception_12 : decode b_Ref_exception 12 = .ok (.iastore, 1) := by decide +kernel
theorem d_Ref_exception_13 : decode b_Ref_exception 13 = .ok (.aload_n 0, 1) := by decide +kernel
theorem d_Ref_exception_14 : decode b_Ref_exception 14 = .ok (.getfield 13, 3) := by decide +kernel
theorem d_Ref_exception_17 : decode b_Ref_exception 17 = .ok (.bipush 7, 2) := by decide +kernel
theorem d_Ref_exception_19 : decode b_Ref_exception 19 = .ok (.aload_n 0, 1) := by decide +kernel
theorem d_Ref_exception_20 : decode b_Ref_exception 20 = .ok (.getfield 13, 3) := by decide +kernel
theorem d_Ref_exception_23 : decode b_Ref_exception 23 = .ok (.iconst 1, 1) := by decide +kernel
theorem d_Ref_exception_24 : decode b_Ref_exception 24 = .ok (.iaload, 1) := by decide +kernel
theorem d_Ref_exception_25 : decode b_Ref_exception 25 = .ok (.ldc 42, 2) := by decide +kernel
theorem d_Ref_exception_27 : decode b_Ref_exception 27 = .ok (.iand, 1) := by decide +kernel
theorem d_Ref_exception_28 : decode b_Ref_exception 28 = .ok (.iload_n 2, 1) := by decide +kernel
theorem d_Ref_exception_29 : decode b_Ref_exception 29 = .ok (.iadd, 1) := by decide +kernel
theorem d_Ref_exception_30 : decode b_Ref_exception 30 = .ok (.iastore, 1) := by decide +kernel
theorem d_Ref_exception_31 : decode b_Ref_exception 31 = .ok (.aload_n 0, 1) := by decide +kernel
theorem d_Ref_exception_32 : decode b_Ref_exception 32 = .ok (.getfield 13, 3) := by decide +kernel
theorem d_Ref_exception_35 : decode b_Ref_exception 35 = .ok (.iconst 1, 1) := by decide +kernel
theorem d_Ref_exception_36 : decode b_Ref_exception 36 = .ok (.aload_n 0, 1) := by decide +kernel
theorem d_Ref_exception_37 : decode b_Ref_exception 37 = .ok (.getfield 13, 3) := by decide +kernel
theorem d_Ref_exception_40 : decode b_Ref_exception 40 = .ok (.iconst 1, 1) := by decide +kernel
theorem d_Ref_exception_41 : decode b_Ref_exception 41 = .ok (.iaload, 1) := by decide +kernel
theorem d_Ref_exception_42 : decode b_Ref_exception 42 = .ok (.ldc 49, 2) := by decide +kernel
theorem d_Ref_exception_44 : decode b_Ref_exception 44 = .ok (.iand, 1) := by decide +kernel
theorem d_Ref_exception_45 : decode b_Ref_exception 45 = .ok (.iastore, 1) := by decide +kernel
theorem d_Ref_exception_46 : decode b_Ref_exception 46 = .ok (.aload_n 0, 1) := by decide +kernel
theorem d_Ref_exception_47 : decode b_Ref_exception 47 = .ok (.iload_n 1, 1) := by decide +kernel
theorem d_Ref_exception_48 : decode b_Ref_exception 48 = .ok (.putfield 50, 3) := by decide +kernel
theorem d_Ref_exception_51 : decode b_Ref_exception 51 = .ok (.aload_n 0, 1) := by decide +kernel
theorem d_Ref_exception_52 : decode b_Ref_exception 52 = .ok (.iload_n 1, 1) := by decide +kernel
theorem d_Ref_exception_53 : decode b_Ref_exception 53 = .ok (.putfield 53, 3) := by decide +kernel
theorem d_Ref_exception_56 : decode b_Ref_exception 56 = .ok (.aload_n 0, 1) := by decide +kernel
theorem d_Ref_exception_57 : decode b_Ref_exception 57 = .ok (.iconst 1, 1) := by decide +kernel
theorem d_Ref_exception_58 : decode b_Ref_exception 58 = .ok (.putfield 56, 3) := by decide +kernel
theorem d_Ref_exception_61 : decode b_Ref_exception 61 = .ok (.return_, 1) := by decide +kernel
def f_Ref_exception (p0 : Int32) (p1 : Int32) (rs : Nat → Int32) : (Nat → Int32) × Int32 × Int32 × Int32 :=
  ((upd (upd (upd rs 6 (rs 0)) 7 ((((upd rs 6 (rs 0)) 1) &&& (65535 : Int32)) + p1)) 1 (((upd (upd rs 6 (rs 0)) 7 ((((upd rs 6 (rs 0)) 1) &&& (65535 : Int32)) + p1)) 1) &&& (-49201 : Int32))), p0, p0, (1 : Int32))
def rq_Ref_exception (z : (Nat → Int32) × Int32 × Int32 × Int32) : Prop := isB z.2.2.2
set_option maxHeartbeats 4000000 in
set_option maxRecDepth 100000 in
theorem rq0_Ref_exception (p0 : Int32) (p1 : Int32) (rs : Nat → Int32) : rq_Ref_exception (f_Ref_exception p0 p1 rs) := by
  unfold f_Ref_exception
  try dsimp only
  repeat' (with_reducible refine pred_ite ?_ ?_)
  all_goals (unfold rq_Ref_exception)
  all_goals (try dsimp only)
  all_goals first | with_reducible exact ib0 | with_reducible exact ib1
theorem rb_Ref_exception (p0 : Int32) (p1 : Int32) (rs : Nat → Int32) : isB (f_Ref_exception p0 p1 rs).2.2.2 := rq0_Ref_exception p0 p1 rs
set_option maxHeartbeats 4000000 in
set_option maxRecDepth 100000 in
theorem c_Ref_exception (l : Launch) (D : va_G) (aT bG bS bM : Nat) (dG dS dM : ClassId) (rg : Nat → Int32) (rs : Nat → Int32) (rm : Nat → Int32) (rl : Int32) (rk : Int32) (rr : Int32) (re : Int32) (rc : Int32) (rd : Int32) (ra : Int32) (rb : Int32) (rn : Int32) (rf : Int32) (rw : Int32) (p0 : Int32) (p1 : Int32) : kMv l y_Ref_exception b_Ref_exception 3 none 0 0 D kCl [(dG, .int), (dS, .int), (dM, .int)] [.ref aT, .int p0, .int p1] [(aT, .inr (11, [.ref bG, .ref bS, .ref bM, .int rl, .int rk, .int rr, .int re, .int rc, .int rd, .int ra, .int rb, .int rn, .int rf, .int rw])), (bG, .inl (dG, 32, .inl rg)), (bS, .inl (dS, 48, .inl rs)), (bM, .inl (dM, 16384, .inl rm))] [(aT, .inr (11, [.ref bG, .ref bS, .ref bM, .int (f_Ref_exception p0 p1 rs).2.1, .int rk, .int rr, .int re, .int rc, .int rd, .int ra, .int rb, .int (f_Ref_exception p0 p1 rs).2.2.1, .int (f_Ref_exception p0 p1 rs).2.2.2, .int rw])), (bG, .inl (dG, 32, .inl rg)), (bS, .inl (dS, 48, .inl (f_Ref_exception p0 p1 rs).1)), (bM, .inl (dM, 16384, .inl rm))] := by
  refine k_entry (Qc := fun A => kQv D kCl [(dG, .int), (dS, .int), (dM, .int)] [(aT, .inr (11, [.ref bG, .ref bS, .ref bM, .int (f_Ref_exception p0 p1 rs).2.1, .int rk, .int rr, .int re, .int rc, .int rd, .int ra, .int rb, .int (f_Ref_exception p0 p1 rs).2.2.1, .int (f_Ref_exception p0 p1 rs).2.2.2, .int rw])), (bG, .inl (dG, 32, .inl rg)), (bS, .inl (dS, 48, .inl (f_Ref_exception p0 p1 rs).1)), (bM, .inl (dM, 16384, .inl rm))] A) (lv := [(0, .ref aT), (1, .int p0), (2, .int p1)]) (by decide) (Nat.le_of_ble_eq_true rfl) rfl ?_
  intro p e s m below meth c A ls hx hb hr hml hB hown hlocks hin hA hK hN hP hD hS hl
  have hown : s.vm.findClass "MappedProcessorModel" = some m.cls := hown
  refine lv_aload_n hx hb d_Ref_exception_0 rfl (lv_at hl 0 rfl) ?_
  refine va_get (D := D) (ci := 11) (v := .ref bS) (C := "MappedProcessorModel") (T := T_Ref) (N := 14) hx hb hB iw_Ref hown hK hP 0 rfl rfl 1 (by decide) (hB _ mw_644) (fun _ h9 => h9) rfl d_Ref_exception_1 ?_
  refine lv_bipush (v := (6 : Int32)) hx hb d_Ref_exception_4 (by decide) ?_
  refine lv_aload_n hx hb d_Ref_exception_6 rfl (lv_at hl 0 rfl) ?_
  refine va_get (D := D) (ci := 11) (v := .ref bS) (C := "MappedProcessorModel") (T := T_Ref) (N := 14) hx hb hB iw_Ref hown hK hP 0 rfl rfl 1 (by decide) (hB _ mw_644) (fun _ h9 => h9) rfl d_Ref_exception_7 ?_
  refine lv_iconst (v := (0 : Int32)) hx hb d_Ref_exception_10 (by decide) ?_
  refine k_iald (j := 0) hx hb hK hP 2 1 rfl rfl (by decide) (by unfold vp_in; decide) d_Ref_exception_11 ?_
  refine k_iast (j := 6) hx hb hK hP hD hS 2 1 rfl rfl (by decide) (by unfold vp_in; decide) d_Ref_exception_12 (fun H locs hP hD hS => ?_)
  have hP : va_P D kCl [(aT, .inr (11, [.ref bG, .ref bS, .ref bM, .int rl, .int rk, .int rr, .int re, .int rc, .int rd, .int ra, .int rb, .int rn, .int rf, .int rw])), (bG, .inl (dG, 32, .inl rg)), (bS, .inl (dS, 48, .inl (upd rs 6 (rs 0)))), (bM, .inl (dM, 16384, .inl rm))] H := hP
  have hD : va_D A [(aT, .inr (11, [.ref bG, .ref bS, .ref bM, .int rl, .int rk, .int rr, .int re, .int rc, .int rd, .int ra, .int rb, .int rn, .int rf, .int rw])), (bG, .inl (dG, 32, .inl rg)), (bS, .inl (dS, 48, .inl (upd rs 6 (rs 0)))), (bM, .inl (dM, 16384, .inl rm))] := hD
  refine lv_aload_n hx hb d_Ref_exception_13 rfl (lv_at hl 0 rfl) ?_
  refine va_get (D := D) (ci := 11) (v := .ref bS) (C := "MappedProcessorModel") (T := T_Ref) (N := 14) hx hb hB iw_Ref hown hK hP 0 rfl rfl 1 (by decide) (hB _ mw_644) (fun _ h9 => h9) rfl d_Ref_exception_14 ?_
  refine lv_bipush (v := (7 : Int32)) hx hb d_Ref_exception_17 (by decide) ?_
  refine lv_aload_n hx hb d_Ref_exception_19 rfl (lv_at hl 0 rfl) ?_
  refine va_get (D := D) (ci := 11) (v := .ref bS) (C := "MappedProcessorModel") (T := T_Ref) (N := 14) hx hb hB iw_Ref hown hK hP 0 rfl rfl 1 (by decide) (hB _ mw_644) (fun _ h9 => h9) rfl d_Ref_exception_20 ?_
  refine lv_iconst (v := (1 : Int32)) hx hb d_Ref_exception_23 (by decide) ?_
  refine k_iald (j := 1) hx hb hK hP 2 1 rfl rfl (by decide) (by unfold vp_in; decide) d_Ref_exception_24 ?_
  refine lv_ldc (v := (65535 : Int32)) hx hb hown (hB _ mw_737) d_Ref_exception_25 ?_
  refine lv_iand hx hb d_Ref_exception_27 ?_
  refine lv_iload_n hx hb d_Ref_exception_28 rfl (lv_at hl 2 rfl) ?_
  refine lv_iadd hx hb d_Ref_exception_29 ?_
  refine k_iast (j := 7) hx hb hK hP hD hS 2 1 rfl rfl (by decide) (by unfold vp_in; decide) d_Ref_exception_30 (fun H locs hP hD hS => ?_)
  have hP : va_P D kCl [(aT, .inr (11, [.ref bG, .ref bS, .ref bM, .int rl, .int rk, .int rr, .int re, .int rc, .int rd, .int ra, .int rb, .int rn, .int rf, .int rw])), (bG, .inl (dG, 32, .inl rg)), (bS, .inl (dS, 48, .inl (upd (upd rs 6 (rs 0)) 7 ((((upd rs 6 (rs 0)) 1) &&& (65535 : Int32)) + p1)))), (bM, .inl (dM, 16384, .inl rm))] H := hP
  have hD : va_D A [(aT, .inr (11, [.ref bG, .ref bS, .ref bM, .int rl, .int rk, .int rr, .int re, .int rc, .int rd, .int ra, .int rb, .int rn, .int rf, .int rw])), (bG, .inl (dG, 32, .inl rg)), (bS, .inl (dS, 48, .inl (upd (upd rs 6 (rs 0)) 7 ((((upd rs 6 (rs 0)) 1) &&& (65535 : Int32)) + p1)))), (bM, .inl (dM, 16384, .inl rm))] := hD
  refine lv_aload_n hx hb d_Ref_exception_31 rfl (lv_at hl 0 rfl) ?_
  refine va_get (D := D) (ci := 11) (v := .ref bS) (C := "MappedProcessorModel") (T := T_Ref) (N := 14) hx hb hB iw_Ref hown hK hP 0 rfl rfl 1 (by decide) (hB _ mw_644) (fun _ h9 => h9) rfl d_Ref_exception_32 ?_
  refine lv_iconst (v := (1 : Int32)) hx hb d_Ref_exception_35 (by decide) ?_
  refine lv_aload_n hx hb d_Ref_exception_36 rfl (lv_at hl 0 rfl) ?_
  refine va_get (D := D) (ci := 11) (v := .ref bS) (C := "MappedProcessorModel") (T := T_Ref) (N := 14) hx hb hB iw_Ref hown hK hP 0 rfl rfl 1 (by decide) (hB _ mw_644) (fun _ h9 => h9) rfl d_Ref_exception_37 ?_
  refine lv_iconst (v := (1 : Int32)) hx hb d_Ref_exception_40 (by decide) ?_
  refine k_iald (j := 1) hx hb hK hP 2 1 rfl rfl (by decide) (by unfold vp_in; decide) d_Ref_exception_41 ?_
  refine lv_ldc (v := (-49201 : Int32)) hx hb hown (hB _ mw_752) d_Ref_exception_42 ?_
  refine lv_iand hx hb d_Ref_exception_44 ?_
  refine k_iast (j := 1) hx hb hK hP hD hS 2 1 rfl rfl (by decide) (by unfold vp_in; decide) d_Ref_exception_45 (fun H locs hP hD hS => ?_)
  have hP : va_P D kCl [(aT, .inr (11, [.ref bG, .ref bS, .ref bM, .int rl, .int rk, .int rr, .int re, .int rc, .int rd, .int ra, .int rb, .int rn, .int rf, .int rw])), (bG, .inl (dG, 32, .inl rg)), (bS, .inl (dS, 48, .inl (upd (upd (upd rs 6 (rs 0)) 7 ((((upd rs 6 (rs 0)) 1) &&& (65535 : Int32)) + p1)) 1 (((upd (upd rs 6 (rs 0)) 7 ((((upd rs 6 (rs 0)) 1) &&& (65535 : Int32)) + p1)) 1) &&& (-49201 : Int32))))), (bM, .inl (dM, 16384, .inl rm))] H := hP
  have hD : va_D A [(aT, .inr (11, [.ref bG, .ref bS, .ref bM, .int rl, .int rk, .int rr, .int re, .int rc, .int rd, .int ra, .int rb, .int rn, .int rf, .int rw])), (bG, .inl (dG, 32, .inl rg)), (bS, .inl (dS, 48, .inl (upd (upd (upd rs 6 (rs 0)) 7 ((((upd rs 6 (rs 0)) 1) &&& (65535 : Int32)) + p1)) 1 (((upd (upd rs 6 (rs 0)) 7 ((((upd rs 6 (rs 0)) 1) &&& (65535 : Int32)) + p1)) 1) &&& (-49201 : Int32))))), (bM, .inl (dM, 16384, .inl rm))] := hD
  refine lv_aload_n hx hb d_Ref_exception_46 rfl (lv_at hl 0 rfl) ?_
  refine lv_iload_n hx hb d_Ref_exception_47 rfl (lv_at hl 1 rfl) ?_
  refine va_put (D := D) (ci := 11) (v := .int p0) (ty := .int) (C := "MappedProcessorModel") (T := T_Ref) (N := 14) hx hb hB iw_Ref ty_Ref ty_Ref_ok nm_Ref hown hK hP hD hS 0 rfl rfl 11 (by decide) (hB _ mw_654) (fun _ h9 => h9) rfl (by decide +kernel) rfl rfl (Nat.le_of_ble_eq_true rfl) d_Ref_exception_48 (fun H locs hP hD hS => ?_)
  have hP : va_P D kCl [(aT, .inr (11, [.ref bG, .ref bS, .ref bM, .int rl, .int rk, .int rr, .int re, .int rc, .int rd, .int ra, .int rb, .int p0, .int rf, .int rw])), (bG, .inl (dG, 32, .inl rg)), (bS, .inl (dS, 48, .inl (upd (upd (upd rs 6 (rs 0)) 7 ((((upd rs 6 (rs 0)) 1) &&& (65535 : Int32)) + p1)) 1 (((upd (upd rs 6 (rs 0)) 7 ((((upd rs 6 (rs 0)) 1) &&& (65535 : Int32)) + p1)) 1) &&& (-49201 : Int32))))), (bM, .inl (dM, 16384, .inl rm))] H := hP
  have hD : va_D A [(aT, .inr (11, [.ref bG, .ref bS, .ref bM, .int rl, .int rk, .int rr, .int re, .int rc, .int rd, .int ra, .int rb, .int p0, .int rf, .int rw])), (bG, .inl (dG, 32, .inl rg)), (bS, .inl (dS, 48, .inl (upd (upd (upd rs 6 (rs 0)) 7 ((((upd rs 6 (rs 0)) 1) &&& (65535 : Int32)) + p1)) 1 (((upd (upd rs 6 (rs 0)) 7 ((((upd rs 6 (rs 0)) 1) &&& (65535 : Int32)) + p1)) 1) &&& (-49201 : Int32))))), (bM, .inl (dM, 16384, .inl rm))] := hD
  refine lv_aload_n hx hb d_Ref_exception_51 rfl (lv_at hl 0 rfl) ?_
  refine lv_iload_n hx hb d_Ref_exception_52 rfl (lv_at hl 1 rfl) ?_
  refine va_put (D := D) (ci := 11) (v := .int p0) (ty := .int) (C := "MappedProcessorModel") (T := T_Ref) (N := 14) hx hb hB iw_Ref ty_Ref ty_Ref_ok nm_Ref hown hK hP hD hS 0 rfl rfl 3 (by decide) (hB _ mw_646) (fun _ h9 => h9) rfl (by decide +kernel) rfl rfl (Nat.le_of_ble_eq_true rfl) d_Ref_exception_53 (fun H locs hP hD hS => ?_)
  have hP : va_P D kCl [(aT, .inr (11, [.ref bG, .ref bS, .ref bM, .int p0, .int rk, .int rr, .int re, .int rc, .int rd, .int ra, .int rb, .int p0, .int rf, .int rw])), (bG, .inl (dG, 32, .inl rg)), (bS, .inl (dS, 48, .inl (upd (upd (upd rs 6 (rs 0)) 7 ((((upd rs 6 (rs 0)) 1) &&& (65535 : Int32)) + p1)) 1 (((upd (upd rs 6 (rs 0)) 7 ((((upd rs 6 (rs 0)) 1) &&& (65535 : Int32)) + p1)) 1) &&& (-49201 : Int32))))), (bM, .inl (dM, 16384, .inl rm))] H := hP
  have hD : va_D A [(aT, .inr (11, [.ref bG, .ref bS, .ref bM, .int p0, .int rk, .int rr, .int re, .int rc, .int rd, .int ra, .int rb, .int p0, .int rf, .int rw])), (bG, .inl (dG, 32, .inl rg)), (bS, .inl (dS, 48, .inl (upd (upd (upd rs 6 (rs 0)) 7 ((((upd rs 6 (rs 0)) 1) &&& (65535 : Int32)) + p1)) 1 (((upd (upd rs 6 (rs 0)) 7 ((((upd rs 6 (rs 0)) 1) &&& (65535 : Int32)) + p1)) 1) &&& (-49201 : Int32))))), (bM, .inl (dM, 16384, .inl rm))] := hD
  refine lv_aload_n hx hb d_Ref_exception_56 rfl (lv_at hl 0 rfl) ?_
  refine lv_iconst (v := (1 : Int32)) hx hb d_Ref_exception_57 (by decide) ?_
  refine va_put (D := D) (ci := 11) (v := .int (1 : Int32)) (ty := .boolean) (C := "MappedProcessorModel") (T := T_Ref) (N := 14) hx hb hB iw_Ref ty_Ref ty_Ref_ok nm_Ref hown hK hP hD hS 0 rfl rfl 12 (by decide) (hB _ mw_655) (fun _ h9 => h9) rfl (by decide +kernel) nb1 (by first | rfl | exact fits_bool nb1) (Nat.le_of_ble_eq_true rfl) d_Ref_exception_58 (fun H locs hP hD hS => ?_)
  have hP : va_P D kCl [(aT, .inr (11, [.ref bG, .ref bS, .ref bM, .int p0, .int rk, .int rr, .int re, .int rc, .int rd, .int ra, .int rb, .int p0, .int (1 : Int32), .int rw])), (bG, .inl (dG, 32, .inl rg)), (bS, .inl (dS, 48, .inl (upd (upd (upd rs 6 (rs 0)) 7 ((((upd rs 6 (rs 0)) 1) &&& (65535 : Int32)) + p1)) 1 (((upd (upd rs 6 (rs 0)) 7 ((((upd rs 6 (rs 0)) 1) &&& (65535 : Int32)) + p1)) 1) &&& (-49201 : Int32))))), (bM, .inl (dM, 16384, .inl rm))] H := hP
  have hD : va_D A [(aT, .inr (11, [.ref bG, .ref bS, .ref bM, .int p0, .int rk, .int rr, .int re, .int rc, .int rd, .int ra, .int rb, .int p0, .int (1 : Int32), .int rw])), (bG, .inl (dG, 32, .inl rg)), (bS, .inl (dS, 48, .inl (upd (upd (upd rs 6 (rs 0)) 7 ((((upd rs 6 (rs 0)) 1) &&& (65535 : Int32)) + p1)) 1 (((upd (upd rs 6 (rs 0)) 7 ((((upd rs 6 (rs 0)) 1) &&& (65535 : Int32)) + p1)) 1) &&& (-49201 : Int32))))), (bM, .inl (dM, 16384, .inl rm))] := hD
  have ef : f_Ref_exception p0 p1 rs = ((upd (upd (upd rs 6 (rs 0)) 7 ((((upd rs 6 (rs 0)) 1) &&& (65535 : Int32)) + p1)) 1 (((upd (upd rs 6 (rs 0)) 7 ((((upd rs 6 (rs 0)) 1) &&& (65535 : Int32)) + p1)) 1) &&& (-49201 : Int32))), p0, p0, (1 : Int32)) := rfl
  exact k_vret hx hb hr hlocks hK hP hD hS [0, 1, 2, 3] rfl (by rw [ef] <;> rfl) d_Ref_exception_61
/-! MappedProcessorModel.unlisted()V -/
theorem d_Ref_unlisted_0 : decode b_Ref_unlisted 0 = .ok (.aload_n 0, 1) := by decide +kernel
theorem d_Ref_unlisted_1 : decode b_Ref_unlisted 1 = .ok (.sipush 1792, 3) := by decide +kernel
theorem d_Ref_unlisted_4 : decode b_Ref_unlisted 4 = .ok (.ldc 60, 2) := by decide +kernel
theorem d_Ref_unlisted_6 : decode b_Ref_unlisted 6 = .ok (.invokevirtual 61, 3) := by decide +kernel
theorem d_Ref_unlisted_9 : decode b_Ref_unlisted 9 = .ok (.return_, 1) := by decide +kernel
def f_Ref_unlisted (rs : Nat → Int32) : (Nat → Int32) × Int32 × Int32 × Int32 :=
  let t1 := (f_Ref_exception (1792 : Int32) (524288 : Int32) rs)
  (t1.1, t1.2.1, t1.2.2.1, t1.2.2.2)
def rq_Ref_unlisted (z : (Nat → Int32) × Int32 × Int32 × Int32) : Prop := isB z.2.2.2
set_option maxHeartbeats 4000000 in
set_option maxRecDepth 100000 in
theorem rq0_Ref_unlisted (rs : Nat → Int32) : rq_Ref_unlisted (f_Ref_unlisted rs) := by
  unfold f_Ref_unlisted
  try dsimp only
  repeat' (with_reducible refine pred_ite ?_ ?_)
  all_goals (unfold rq_Ref_unlisted)
  all_goals (try dsimp only)
  all_goals first | with_reducible exact ib0 | with_reducible exact ib1 | with_reducible exact rb_Ref_exception _ _ _
theorem rb_Ref_unlisted (rs : Nat → Int32) : isB (f_Ref_unlisted rs).2.2.2 := rq0_Ref_unlisted rs
set_option maxHeartbeats 4000000 in
set_option maxRecDepth 100000 in
theorem c_Ref_unlisted (l : Launch) (D : va_G) (aT bG bS bM : Nat) (dG dS dM : ClassId) (rg : Nat → Int32) (rs : Nat → Int32) (rm : Nat → Int32) (rl : Int32) (rk : Int32) (rr : Int32) (re : Int32) (rc : Int32) (rd : Int32) (ra : Int32) (rb : Int32) (rn : Int32) (rf : Int32) (rw : Int32) : kMv l y_Ref_unlisted b_Ref_unlisted 1 none 1 22 D kCl [(dG, .int), (dS, .int), (dM, .int)] [.ref aT] [(aT, .inr (11, [.ref bG, .ref bS, .ref bM, .int rl, .int rk, .int rr, .int re, .int rc, .int rd, .int ra, .int rb, .int rn, .int rf, .int rw])), (bG, .inl (dG, 32, .inl rg)), (bS, .inl (dS, 48, .inl rs)), (bM, .inl (dM, 16384, .inl rm))] [(aT, .inr (11, [.ref bG, .ref bS, .ref bM, .int (f_Ref_unlisted rs).2.1, .int rk, .int rr, .int re, .int rc, .int rd, .int ra, .int rb, .int (f_Ref_unlisted rs).2.2.1, .int (f_Ref_unlisted rs).2.2.2, .int rw])), (bG, .inl (dG, 32, .inl rg)), (bS, .inl (dS, 48, .inl (f_Ref_unlisted rs).1)), (bM, .inl (dM, 16384, .inl rm))] := by
  refine k_entry (Qc := fun A => kQv D kCl [(dG, .int), (dS, .int), (dM, .int)] [(aT, .inr (11, [.ref bG, .ref bS, .ref bM, .int (f_Ref_unlisted rs).2.1, .int rk, .int rr, .int re, .int rc, .int rd, .int ra, .int rb, .int (f_Ref_unlisted rs).2.2.1, .int (f_Ref_unlisted rs).2.2.2, .int rw])), (bG, .inl (dG, 32, .inl rg)), (bS, .inl (dS, 48, .inl (f_Ref_unlisted rs).1)), (bM, .inl (dM, 16384, .inl rm))] A) (lv := [(0, .ref aT)]) (by decide) (Nat.le_of_ble_eq_true rfl) rfl ?_
  intro p e s m below meth c A ls hx hb hr hml hB hown hlocks hin hA hK hN hP hD hS hl
  have hown : s.vm.findClass "MappedProcessorModel" = some m.cls := hown
  refine lv_aload_n hx hb d_Ref_unlisted_0 rfl (lv_at hl 0 rfl) ?_
  refine lv_sipush (v := (1792 : Int32)) hx hb d_Ref_unlisted_1 (by decide) ?_
  refine lv_ldc (v := (524288 : Int32)) hx hb hown (hB _ mw_831) d_Ref_unlisted_4 ?_
  let t1 := (f_Ref_exception (1792 : Int32) (524288 : Int32) rs)
  refine k_cVv (As := [.int (1792 : Int32), .int (524288 : Int32)]) (rest := []) (wr := []) (wj := [(aT, .inr (11, [.ref bG, .ref bS, .ref bM, .int t1.2.1, .int rk, .int rr, .int re, .int rc, .int rd, .int ra, .int rb, .int t1.2.2.1, .int t1.2.2.2, .int rw])), (bG, .inl (dG, 32, .inl rg)), (bS, .inl (dS, 48, .inl t1.1)), (bM, .inl (dM, 16384, .inl rm))]) ⟨hx, hb, hml, hown, hB⟩ (c_Ref_exception l D aT bG bS bM dG dS dM rg rs rm rl rk rr re rc rd ra rb rn rf rw (1792 : Int32) (524288 : Int32)) yl_Ref_exception mw_748 hK hN hP hD hS hA [0, 1, 2] [0, 1, 2, 3] [] [0, 1, 2, 3] rfl rfl rfl rfl (by decide +kernel) 0 rfl rfl rfl rfl hl.1 rfl (Nat.le_of_ble_eq_true rfl) ⟨Nat.le_of_ble_eq_true rfl, Nat.le_of_ble_eq_true rfl⟩ d_Ref_unlisted_6 ⟨Nat.le_of_ble_eq_true rfl, Nat.le_of_ble_eq_true rfl⟩ (fun H locs hP hD hS => ?_)
  have ef : f_Ref_unlisted rs = (t1.1, t1.2.1, t1.2.2.1, t1.2.2.2) := by unfold f_Ref_unlisted; try dsimp only
  exact k_vret hx hb hr hlocks hK hP hD hS [0, 1, 2, 3] rfl (by rw [ef] <;> rfl) d_Ref_unlisted_9
/-! MappedProcessorModel.barred()Z -/
theorem d_Ref_barred_0 : decode b_Ref_barred 0 = .ok (.aload_n 0, 1) := by decide +kernel
theorem d_Ref_barred_1 : decode b_Ref_barred 1 = .ok (.getfield 13, 3) := by decide +kernel
theorem d_Ref_barred_4 : decode b_Ref_barred 4 = .ok (.iconst 1, 1) := by decide +kernel
theorem d_Ref_barred_5 : decode b_Ref_barred 5 = .ok (.iaload, 1) := by decide +kernel
theorem d_Ref_barred_6 : decode b_Ref_barred 6 = .ok (.bipush 14, 2) := by decide +kernel
theorem d_Ref_barred_8 : decode b_Ref_barred 8 = .ok (.invokestatic 28, 3) := by decide +kernel
theorem d_Ref_barred_11 : decode b_Ref_barred 11 = .ok (.ifCond .ne 5, 3) := by decide +kernel
theorem d_Ref_barred_14 : decode b_Ref_barred 14 = .ok (.iconst 0, 1) := by decide +kernel
theorem d_Ref_barred_15 : decode b_Ref_barred 15 = .ok (.ireturn, 1) := by decide +kernel
theorem d_Ref_barred_16 : decode b_Ref_barred 16 = .ok (.aload_n 0, 1) := by decide +kernel
theorem d_Ref_barred_17 : decode b_Ref_barred 17 = .ok (.sipush 1792, 3) := by decide +kernel
theorem d_Ref_barred_20 : decode b_Ref_barred 20 = .ok (.ldc 65, 2) := by decide +kernel
theorem d_Ref_barred_22 : decode b_Ref_barred 22 = .ok (.invokevirtual 61, 3) := by decide +kernel
theorem d_Ref_barred_25 : decode b_Ref_barred 25 = .ok (.iconst 1, 1) := by decide +kernel
theorem d_Ref_barred_26 : decode b_Ref_barred 26 = .ok (.ireturn, 1) := by decide +kernel
def f_Ref_barred (rs : Nat → Int32) (rl : Int32) (rn : Int32) (rf : Int32) : Int32 × (Nat → Int32) × Int32 × Int32 × Int32 :=
  if (f_Ref_bit (rs 1) (14 : Int32)) = (0 : Int32) then
    ((0 : Int32), rs, rl, rn, rf)
  else
    let t2 := (f_Ref_exception (1792 : Int32) (262144 : Int32) rs)
    ((1 : Int32), t2.1, t2.2.1, t2.2.2.1, t2.2.2.2)
set_option maxHeartbeats 4000000 in
set_option maxRecDepth 100000 in
theorem ib_Ref_barred (rs : Nat → Int32) (rl : Int32) (rn : Int32) (rf : Int32) : isB (f_Ref_barred rs rl rn rf).1 := by
  unfold f_Ref_barred
  try dsimp only
  repeat' (first | refine ib_ite ?_ ?_ | refine ib_ite0 ?_ ?_ | with_reducible exact ib0 | with_reducible exact ib1 | with_reducible exact ib_Ref_bit _ _ | (dsimp only; first | exact ib0 | exact ib1))
theorem nb_Ref_barred (rs : Nat → Int32) (rl : Int32) (rn : Int32) (rf : Int32) : narrow .boolean (.int (f_Ref_barred rs rl rn rf).1) = .int (f_Ref_barred rs rl rn rf).1 := nb_of (ib_Ref_barred rs rl rn rf)
def rq_Ref_barred (z : Int32 × (Nat → Int32) × Int32 × Int32 × Int32) : Prop := isB z.2.2.2.2
set_option maxHeartbeats 4000000 in
set_option maxRecDepth 100000 in
theorem rq0_Ref_barred (rs : Nat → Int32) (rl : Int32) (rn : Int32) (rf : Int32) (h : isB rf) : rq_Ref_barred (f_Ref_barred rs rl rn rf) := by
  unfold f_Ref_barred
  try dsimp only
  repeat' (with_reducible refine pred_ite ?_ ?_)
  all_goals (unfold rq_Ref_barred)
  all_goals (try dsimp only)
  all_goals first | with_reducible exact h | with_reducible exact ib0 | with_reducible exact ib1 | with_reducible exact rb_Ref_exception _ _ _
theorem rb_Ref_barred (rs : Nat → Int32) (rl : Int32) (rn : Int32) (rf : Int32) (h : isB rf) : isB (f_Ref_barred rs rl rn rf).2.2.2.2 := rq0_Ref_barred rs rl rn rf h
set_option maxHeartbeats 4000000 in
set_option maxRecDepth 100000 in
theorem c_Ref_barred (l : Launch) (D : va_G) (aT bG bS bM : Nat) (dG dS dM : ClassId) (rg : Nat → Int32) (rs : Nat → Int32) (rm : Nat → Int32) (rl : Int32) (rk : Int32) (rr : Int32) (re : Int32) (rc : Int32) (rd : Int32) (ra : Int32) (rb : Int32) (rn : Int32) (rf : Int32) (rw : Int32) : kMi l y_Ref_barred b_Ref_barred 1 (some .boolean) 1 22 D kCl [(dG, .int), (dS, .int), (dM, .int)] [.ref aT] [(aT, .inr (11, [.ref bG, .ref bS, .ref bM, .int rl, .int rk, .int rr, .int re, .int rc, .int rd, .int ra, .int rb, .int rn, .int rf, .int rw])), (bG, .inl (dG, 32, .inl rg)), (bS, .inl (dS, 48, .inl rs)), (bM, .inl (dM, 16384, .inl rm))] (f_Ref_barred rs rl rn rf).1 [(aT, .inr (11, [.ref bG, .ref bS, .ref bM, .int (f_Ref_barred rs rl rn rf).2.2.1, .int rk, .int rr, .int re, .int rc, .int rd, .int ra, .int rb, .int (f_Ref_barred rs rl rn rf).2.2.2.1, .int (f_Ref_barred rs rl rn rf).2.2.2.2, .int rw])), (bG, .inl (dG, 32, .inl rg)), (bS, .inl (dS, 48, .inl (f_Ref_barred rs rl rn rf).2.1)), (bM, .inl (dM, 16384, .inl rm))] := by
  refine k_entry (Qc := fun A => kQi D kCl [(dG, .int), (dS, .int), (dM, .int)] (f_Ref_barred rs rl rn rf).1 [(aT, .inr (11, [.ref bG, .ref bS, .ref bM, .int (f_Ref_barred rs rl rn rf).2.2.1, .int rk, .int rr, .int re, .int rc, .int rd, .int ra, .int rb, .int (f_Ref_barred rs rl rn rf).2.2.2.1, .int (f_Ref_barred rs rl rn rf).2.2.2.2, .int rw])), (bG, .inl (dG, 32, .inl rg)), (bS, .inl (dS, 48, .inl (f_Ref_barred rs rl rn rf).2.1)), (bM, .inl (dM, 16384, .inl rm))] A) (lv := [(0, .ref aT)]) (by decide) (Nat.le_of_ble_eq_true rfl) rfl ?_
  intro p e s m below meth c A ls hx hb hr hml hB hown hlocks hin hA hK hN hP hD hS hl
  have hown : s.vm.findClass "MappedProcessorModel" = some m.cls := hown
  refine lv_aload_n hx hb d_Ref_barred_0 rfl (lv_at hl 0 rfl) ?_
  refine va_get (D := D) (ci := 11) (v := .ref bS) (C := "MappedProcessorModel") (T := T_Ref) (N := 14) hx hb hB iw_Ref hown hK hP 0 rfl rfl 1 (by decide) (hB _ mw_644) (fun _ h9 => h9) rfl d_Ref_barred_1 ?_
  refine lv_iconst (v := (1 : Int32)) hx hb d_Ref_barred_4 (by decide) ?_
  refine k_iald (j := 1) hx hb hK hP 2 1 rfl rfl (by decide) (by unfold vp_in; decide) d_Ref_barred_5 ?_
  refine lv_bipush (v := (14 : Int32)) hx hb d_Ref_barred_6 (by decide) ?_
  refine k_cSi (As := [.int (rs 1), .int (14 : Int32)]) (rest := []) (wr := [(aT, .inr (11, [.ref bG, .ref bS, .ref bM, .int rl, .int rk, .int rr, .int re, .int rc, .int rd, .int ra, .int rb, .int rn, .int rf, .int rw])), (bG, .inl (dG, 32, .inl rg)), (bS, .inl (dS, 48, .inl rs)), (bM, .inl (dM, 16384, .inl rm))]) (wj := [(aT, .inr (11, [.ref bG, .ref bS, .ref bM, .int rl, .int rk, .int rr, .int re, .int rc, .int rd, .int ra, .int rb, .int rn, .int rf, .int rw])), (bG, .inl (dG, 32, .inl rg)), (bS, .inl (dS, 48, .inl rs)), (bM, .inl (dM, 16384, .inl rm))]) ⟨hx, hb, hml, hown, hB⟩ (c_Ref_bit l D (rs 1) (14 : Int32)) yl_Ref_bit mw_725 hK hN hP hD hS hA [] [] [0, 1, 2, 3] [0, 1, 2, 3] rfl rfl rfl rfl (by decide +kernel) rfl hl.1 rfl (Nat.le_of_ble_eq_true rfl) ⟨Nat.le_of_ble_eq_true rfl, Nat.le_of_ble_eq_true rfl⟩ d_Ref_barred_8 ⟨Nat.le_of_ble_eq_true rfl, Nat.le_of_ble_eq_true rfl⟩ (fun H locs hP hD hS => ?_)
  refine lv_if_ne (tgt := 16) hx hb d_Ref_barred_11 (by decide) (fun (h1 : ¬ (f_Ref_bit (rs 1) (14 : Int32)) = (0 : Int32)) => ?_) (fun (h1 : (f_Ref_bit (rs 1) (14 : Int32)) = (0 : Int32)) => ?_)
  · refine lv_aload_n hx hb d_Ref_barred_16 rfl (lv_at hl 0 rfl) ?_
    refine lv_sipush (v := (1792 : Int32)) hx hb d_Ref_barred_17 (by decide) ?_
    refine lv_ldc (v := (262144 : Int32)) hx hb hown (hB _ mw_826) d_Ref_barred_20 ?_
    let t2 := (f_Ref_exception (1792 : Int32) (262144 : Int32) rs)
    refine k_cVv (As := [.int (1792 : Int32), .int (262144 : Int32)]) (rest := []) (wr := []) (wj := [(aT, .inr (11, [.ref bG, .ref bS, .ref bM, .int t2.2.1, .int rk, .int rr, .int re, .int rc, .int rd, .int ra, .int rb, .int t2.2.2.1, .int t2.2.2.2, .int rw])), (bG, .inl (dG, 32, .inl rg)), (bS, .inl (dS, 48, .inl t2.1)), (bM, .inl (dM, 16384, .inl rm))]) ⟨hx, hb, hml, hown, hB⟩ (c_Ref_exception l D aT bG bS bM dG dS dM rg rs rm rl rk rr re rc rd ra rb rn rf rw (1792 : Int32) (262144 : Int32)) yl_Ref_exception mw_748 hK hN hP hD hS hA [0, 1, 2] [0, 1, 2, 3] [] [0, 1, 2, 3] rfl rfl rfl rfl (by decide +kernel) 0 rfl rfl rfl rfl hl.1 rfl (Nat.le_of_ble_eq_true rfl) ⟨Nat.le_of_ble_eq_true rfl, Nat.le_of_ble_eq_true rfl⟩ d_Ref_barred_22 ⟨Nat.le_of_ble_eq_true rfl, Nat.le_of_ble_eq_true rfl⟩ (fun H locs hP hD hS => ?_)
    refine lv_iconst (v := (1 : Int32)) hx hb d_Ref_barred_25 (by decide) ?_
    have ef : f_Ref_barred rs rl rn rf = ((1 : Int32), t2.1, t2.2.1, t2.2.2.1, t2.2.2.2) := by unfold f_Ref_barred; try dsimp only; rw [if_neg h1]
    exact k_zret hx hb hr hlocks hK hP hD hS [0, 1, 2, 3] rfl (by rw [ef] <;> rfl) (by rw [ef] <;> rfl) nb1 d_Ref_barred_26
  · refine lv_iconst (v := (0 : Int32)) hx hb d_Ref_barred_14 (by decide) ?_
    have ef : f_Ref_barred rs rl rn rf = ((0 : Int32), rs, rl, rn, rf) := by unfold f_Ref_barred; try dsimp only; rw [if_pos h1]
    exact k_zret hx hb hr hlocks hK hP hD hS [0, 1, 2, 3] rfl (by rw [ef] <;> rfl) (by rw [ef] <;> rfl) nb0 d_Ref_barred_15
/-! MappedProcessorModel.signed16()I -/
theorem d_Ref_signed16_0 : decode b_Ref_signed16 0 = .ok (.aload_n 0, 1) := by decide +kernel
theorem d_Ref_signed16_1 : decode b_Ref_signed16 1 = .ok (.getfield 79, 3) := by decide +kernel
theorem d_Ref_signed16_4 : decode b_Ref_signed16 4 = .ok (.bipush 16, 2) := by decide +kernel
theorem d_Ref_signed16_6 : decode b_Ref_signed16 6 = .ok (.ishl, 1) := by decide +kernel
theorem d_Ref_signed16_7 : decode b_Ref_signed16 7 = .ok (.bipush 16, 2) := by decide +kernel
theorem d_Ref_signed16_9 : decode b_Ref_signed16 9 = .ok (.ishr, 1) := by decide +kernel
theorem d_Ref_signed16_10 : decode b_Ref_signed16 10 = .ok (.ireturn, 1) := by decide +kernel
def f_Ref_signed16 (rc : Int32) : Int32 :=
  (shr (shl rc (16 : Int32)) (16 : Int32))
set_option maxHeartbeats 4000000 in
set_option maxRecDepth 100000 in
theorem c_Ref_signed16 (l : Launch) (D : va_G) (aT bG bS bM : Nat) (dG dS dM : ClassId) (rg : Nat → Int32) (rs : Nat → Int32) (rm : Nat → Int32) (rl : Int32) (rk : Int32) (rr : Int32) (re : Int32) (rc : Int32) (rd : Int32) (ra : Int32) (rb : Int32) (rn : Int32) (rf : Int32) (rw : Int32) : kMi l y_Ref_signed16 b_Ref_signed16 1 (some .int) 0 0 D kCl [(dG, .int), (dS, .int), (dM, .int)] [.ref aT] [(aT, .inr (11, [.ref bG, .ref bS, .ref bM, .int rl, .int rk, .int rr, .int re, .int rc, .int rd, .int ra, .int rb, .int rn, .int rf, .int rw])), (bG, .inl (dG, 32, .inl rg)), (bS, .inl (dS, 48, .inl rs)), (bM, .inl (dM, 16384, .inl rm))] (f_Ref_signed16 rc) [(aT, .inr (11, [.ref bG, .ref bS, .ref bM, .int rl, .int rk, .int rr, .int re, .int rc, .int rd, .int ra, .int rb, .int rn, .int rf, .int rw])), (bG, .inl (dG, 32, .inl rg)), (bS, .inl (dS, 48, .inl rs)), (bM, .inl (dM, 16384, .inl rm))] := by
  refine k_entry (Qc := fun A => kQi D kCl [(dG, .int), (dS, .int), (dM, .int)] (f_Ref_signed16 rc) [(aT, .inr (11, [.ref bG, .ref bS, .ref bM, .int rl, .int rk, .int rr, .int re, .int rc, .int rd, .int ra, .int rb, .int rn, .int rf, .int rw])), (bG, .inl (dG, 32, .inl rg)), (bS, .inl (dS, 48, .inl rs)), (bM, .inl (dM, 16384, .inl rm))] A) (lv := [(0, .ref aT)]) (by decide) (Nat.le_of_ble_eq_true rfl) rfl ?_
  intro p e s m below meth c A ls hx hb hr hml hB hown hlocks hin hA hK hN hP hD hS hl
  have hown : s.vm.findClass "MappedProcessorModel" = some m.cls := hown
  refine lv_aload_n hx hb d_Ref_signed16_0 rfl (lv_at hl 0 rfl) ?_
  refine va_get (D := D) (ci := 11) (v := .int rc) (C := "MappedProcessorModel") (T := T_Ref) (N := 14) hx hb hB iw_Ref hown hK hP 0 rfl rfl 7 (by decide) (hB _ mw_650) (fun _ h9 => h9) rfl d_Ref_signed16_1 ?_
  refine lv_bipush (v := (16 : Int32)) hx hb d_Ref_signed16_4 (by decide) ?_
  refine lv_ishl hx hb d_Ref_signed16_6 ?_
  refine lv_bipush (v := (16 : Int32)) hx hb d_Ref_signed16_7 (by decide) ?_
  refine lv_ishr hx hb d_Ref_signed16_9 ?_
  have ef : f_Ref_signed16 rc = (shr (shl rc (16 : Int32)) (16 : Int32)) := rfl
  exact k_iret hx hb hr hlocks hK hP hD hS [0, 1, 2, 3] rfl rfl (by rw [ef] <;> rfl) d_Ref_signed16_10
/-! MappedProcessorModel.trap(I)V -/
theorem d_Ref_trap_0 : decode b_Ref_trap 0 = .ok (.aload_n 0, 1) := by decide +kernel
theorem d_Ref_trap_1 : decode b_Ref_trap 1 = .ok (.getfield 7, 3) := by decide +kernel
theorem d_Ref_trap_4 : decode b_Ref_trap 4 = .ok (.aload_n 0, 1) := by decide +kernel
theorem d_Ref_trap_5 : decode b_Ref_trap 5 = .ok (.getfield 85, 3) := by decide +kernel
theorem d_Ref_trap_8 : decode b_Ref_trap 8 = .ok (.iaload, 1) := by decide +kernel
theorem d_Ref_trap_9 : decode b_Ref_trap 9 = .ok (.istore_n 2, 1) := by decide +kernel
theorem d_Ref_trap_10 : decode b_Ref_trap 10 = .ok (.iload_n 2, 1) := by decide +kernel
theorem d_Ref_trap_11 : decode b_Ref_trap 11 = .ok (.invokestatic 103, 3) := by decide +kernel
theorem d_Ref_trap_14 : decode b_Ref_trap 14 = .ok (.lstore_n 3, 1) := by decide +kernel
theorem d_Ref_trap_15 : decode b_Ref_trap 15 = .ok (.iload_n 1, 1) := by decide +kernel
theorem d_Ref_trap_16 : decode b_Ref_trap 16 = .ok (.invokestatic 103, 3) := by decide +kernel
theorem d_Ref_trap_19 : decode b_Ref_trap 19 = .ok (.lstore 5, 2) := by decide +kernel
theorem d_Ref_trap_21 : decode b_Ref_trap 21 = .ok (.aload_n 0, 1) := by decide +kernel
theorem d_Ref_trap_22 : decode b_Ref_trap 22 = .ok (.getfield 82, 3) := by decide +kernel
theorem d_Ref_trap_25 : decode b_Ref_trap 25 = .ok (.iconst 4, 1) := by decide +kernel
theorem d_Ref_trap_26 : decode b_Ref_trap 26 = .ok (.invokestatic 28, 3) := by decide +kernel
theorem d_Ref_trap_29 : decode b_Ref_trap 29 = .ok (.ifCond .eq 8, 3) := by decide +kernel
theorem d_Ref_trap_32 : decode b_Ref_trap 32 = .ok (.iload_n 2, 1) := by decide +kernel
theorem d_Ref_trap_33 : decode b_Ref_trap 33 = .ok (.iload_n 1, 1) := by decide +kernel
theorem d_Ref_trap_34 : decode b_Ref_trap 34 = .ok (.if_icmp .lt 71, 3) := by decide +kernel
theorem d_Ref_trap_37 : decode b_Ref_trap 37 = .ok (.aload_n 0, 1) := by decide +kernel
theorem d_Ref_trap_38 : decode b_Ref_trap 38 = .ok (.getfield 82, 3) := by decide +kernel
theorem d_Ref_trap_41 : decode b_Ref_trap 41 = .ok (.iconst 3, 1) := by decide +kernel
theorem d_Ref_trap_42 : decode b_Ref_trap 42 = .ok (.invokestatic 28, 3) := by decide +kernel
theorem d_Ref_trap_45 : decode b_Ref_trap 45 = .ok (.ifCond .eq 8, 3) := by decide +kernel
theorem d_Ref_trap_48 : decode b_Ref_trap 48 = .ok (.iload_n 2, 1) := by decide +kernel
theorem d_Ref_trap_49 : decode b_Ref_trap 49 = .ok (.iload_n 1, 1) := by decide +kernel
theorem d_Ref_trap_50 : decode b_Ref_trap 50 = .ok (.if_icmp .gt 55, 3) := by decide +kernel
theorem d_Ref_trap_53 : decode b_Ref_trap 53 = .ok (.aload_n 0, 1) := by decide +kernel
theorem d_Ref_trap_54 : decode b_Ref_trap 54 = .ok (.getfield 82, 3) := by decide +kernel
theorem d_Ref_trap_57 : decode b_Ref_trap 57 = .ok (.iconst 2, 1) := by decide +kernel
theorem d_Ref_trap_58 : decode b_Ref_trap 58 = .ok (.invokestatic 28, 3) := by decide +kernel
theorem d_Ref_trap_61 : decode b_Ref_trap 61 = .ok (.ifCond .eq 8, 3) := by decide +kernel
theorem d_Ref_trap_64 : decode b_Ref_trap 64 = .ok (.iload_n 2, 1) := by decide +kernel
theorem d_Ref_trap_65 : decode b_Ref_trap 65 = .ok (.iload_n 1, 1) := by decide +kernel
theorem d_Ref_trap_66 : decode b_Ref_trap 66 = .ok (.if_icmp .eq 39, 3) := by decide +kernel
theorem d_Ref_trap_69 : decode b_Ref_trap 69 = .ok (.aload_n 0, 1) := by decide +kernel
theorem d_Ref_trap_70 : decode b_Ref_trap 70 = .ok (.getfield 82, 3) := by decide +kernel
theorem d_Ref_trap_73 : decode b_Ref_trap 73 = .ok (.iconst 1, 1) := by decide +kernel
theorem d_Ref_trap_74 : decode b_Ref_trap 74 = .ok (.invokestatic 28, 3) := by decide +kernel
theorem d_Ref_trap_77 : decode b_Ref_trap 77 = .ok (.ifCond .eq 10, 3) := by decide +kernel
theorem d_Ref_trap_80 : decode b_Ref_trap 80 = .ok (.lload_n 3, 1) := by decide +kernel
theorem d_Ref_trap_81 : decode b_Ref_trap 81 = .ok (.lload 5, 2) := by decide +kernel
theorem d_Ref_trap_83 : decode b_Ref_trap 83 = .ok (.lcmp, 1) := by decide +kernel
theorem d_Ref_trap_84 : decode b_Ref_trap 84 = .ok (.ifCond .lt 21, 3) := by decide +kernel
theorem d_Ref_trap_87 : decode b_Ref_trap 87 = .ok (.aload_n 0, 1) := by decide +kernel
theorem d_Ref_trap_88 : decode b_Ref_trap 88 = .ok (.getfield 82, 3) := by decide +kernel
theorem d_Ref_trap_91 : decode b_Ref_trap 91 = .ok (.iconst 0, 1) := by decide +kernel
theorem d_Ref_trap_92 : decode b_Ref_trap 92 = .ok (.invokestatic 28, 3) := by decide +kernel
theorem d_Ref_trap_95 : decode b_Ref_trap 95 = .ok (.ifCond .eq 14, 3) := by decide +kernel
theorem d_Ref_trap_98 : decode b_Ref_trap 98 = .ok (.lload_n 3, 1) := by decide +kernel
theorem d_Ref_trap_99 : decode b_Ref_trap 99 = .ok (.lload 5, 2) := by decide +kernel
theorem d_Ref_trap_101 : decode b_Ref_trap 101 = .ok (.lcmp, 1) := by decide +kernel
theorem d_Ref_trap_102 : decode b_Ref_trap 102 = .ok (.ifCond .le 7, 3) := by decide +kernel
theorem d_Ref_trap_105 : decode b_Ref_trap 105 = .ok (.iconst 1, 1) := by decide +kernel
theorem d_Ref_trap_106 : decode b_Ref_trap 106 = .ok (.goto 4, 3) := by decide +kernel
theorem d_Ref_trap_109 : decode b_Ref_trap 109 = .ok (.iconst 0, 1) := by decide +kernel
theorem d_Ref_trap_110 : decode b_Ref_trap 110 = .ok (.istore 7, 2) := by decide +kernel
theorem d_Ref_trap_112 : decode b_Ref_trap 112 = .ok (.iload 7, 2) := by decide +kernel
theorem d_Ref_trap_114 : decode b_Ref_trap 114 = .ok (.ifCond .eq 12, 3) := by decide +kernel
theorem d_Ref_trap_117 : decode b_Ref_trap 117 = .ok (.aload_n 0, 1) := by decide +kernel
theorem d_Ref_trap_118 : decode b_Ref_trap 118 = .ok (.sipush 1792, 3) := by decide +kernel
theorem d_Ref_trap_121 : decode b_Ref_trap 121 = .ok (.ldc 148, 2) := by decide +kernel
theorem d_Ref_trap_123 : decode b_Ref_trap 123 = .ok (.invokevirtual 61, 3) := by decide +kernel
theorem d_Ref_trap_126 : decode b_Ref_trap 126 = .ok (.return_, 1) := by decide +kernel
def f_Ref_trap (p0 : Int32) (rg : Nat → Int32) (rs : Nat → Int32) (rl : Int32) (rd : Int32) (ra : Int32) (rn : Int32) (rf : Int32) : (Nat → Int32) × Int32 × Int32 × Int32 :=
  if (f_Ref_bit rd (4 : Int32)) = (0 : Int32) then
    if (f_Ref_bit rd (3 : Int32)) = (0 : Int32) then
      if (f_Ref_bit rd (2 : Int32)) = (0 : Int32) then
        if (f_Ref_bit rd (1 : Int32)) = (0 : Int32) then
          if (if (f_Ref_bit rd (0 : Int32)) = (0 : Int32) then (0 : Int32) else (if (lg_cmp (f_Ref_unsigned (rg (ix ra))) (f_Ref_unsigned p0)) ≤ (0 : Int32) then (0 : Int32) else (1 : Int32))) = (0 : Int32) then
            (rs, rl, rn, rf)
          else
            let t31 := (f_Ref_exception (1792 : Int32) (131072 : Int32) rs)
            (t31.1, t31.2.1, t31.2.2.1, t31.2.2.2)
        else
          if (lg_cmp (f_Ref_unsigned (rg (ix ra))) (f_Ref_unsigned p0)) < (0 : Int32) then
            let t37 := (f_Ref_exception (1792 : Int32) (131072 : Int32) rs)
            (t37.1, t37.2.1, t37.2.2.1, t37.2.2.2)
          else
            if (if (f_Ref_bit rd (0 : Int32)) = (0 : Int32) then (0 : Int32) else (if (lg_cmp (f_Ref_unsigned (rg (ix ra))) (f_Ref_unsigned p0)) ≤ (0 : Int32) then (0 : Int32) else (1 : Int32))) = (0 : Int32) then
              (rs, rl, rn, rf)
            else
              let t52 := (f_Ref_exception (1792 : Int32) (131072 : Int32) rs)
              (t52.1, t52.2.1, t52.2.2.1, t52.2.2.2)
      else
        if (rg (ix ra)) = p0 then
          let t58 := (f_Ref_exception (1792 : Int32) (131072 : Int32) rs)
          (t58.1, t58.2.1, t58.2.2.1, t58.2.2.2)
        else
          if (f_Ref_bit rd (1 : Int32)) = (0 : Int32) then
            if (if (f_Ref_bit rd (0 : Int32)) = (0 : Int32) then (0 : Int32) else (if (lg_cmp (f_Ref_unsigned (rg (ix ra))) (f_Ref_unsigned p0)) ≤ (0 : Int32) then (0 : Int32) else (1 : Int32))) = (0 : Int32) then
              (rs, rl, rn, rf)
            else
              let t77 := (f_Ref_exception (1792 : Int32) (131072 : Int32) rs)
              (t77.1, t77.2.1, t77.2.2.1, t77.2.2.2)
          else
            if (lg_cmp (f_Ref_unsigned (rg (ix ra))) (f_Ref_unsigned p0)) < (0 : Int32) then
              let t83 := (f_Ref_exception (1792 : Int32) (131072 : Int32) rs)
              (t83.1, t83.2.1, t83.2.2.1, t83.2.2.2)
            else
              if (if (f_Ref_bit rd (0 : Int32)) = (0 : Int32) then (0 : Int32) else (if (lg_cmp (f_Ref_unsigned (rg (ix ra))) (f_Ref_unsigned p0)) ≤ (0 : Int32) then (0 : Int32) else (1 : Int32))) = (0 : Int32) then
                (rs, rl, rn, rf)
              else
                let t98 := (f_Ref_exception (1792 : Int32) (131072 : Int32) rs)
                (t98.1, t98.2.1, t98.2.2.1, t98.2.2.2)
    else
      if p0 < (rg (ix ra)) then
        let t104 := (f_Ref_exception (1792 : Int32) (131072 : Int32) rs)
        (t104.1, t104.2.1, t104.2.2.1, t104.2.2.2)
      else
        if (f_Ref_bit rd (2 : Int32)) = (0 : Int32) then
          if (f_Ref_bit rd (1 : Int32)) = (0 : Int32) then
            if (if (f_Ref_bit rd (0 : Int32)) = (0 : Int32) then (0 : Int32) else (if (lg_cmp (f_Ref_unsigned (rg (ix ra))) (f_Ref_unsigned p0)) ≤ (0 : Int32) then (0 : Int32) else (1 : Int32))) = (0 : Int32) then
              (rs, rl, rn, rf)
            else
              let t127 := (f_Ref_exception (1792 : Int32) (131072 : Int32) rs)
              (t127.1, t127.2.1, t127.2.2.1, t127.2.2.2)
          else
            if (lg_cmp (f_Ref_unsigned (rg (ix ra))) (f_Ref_unsigned p0)) < (0 : Int32) then
              let t133 := (f_Ref_exception (1792 : Int32) (131072 : Int32) rs)
              (t133.1, t133.2.1, t133.2.2.1, t133.2.2.2)
            else
              if (if (f_Ref_bit rd (0 : Int32)) = (0 : Int32) then (0 : Int32) else (if (lg_cmp (f_Ref_unsigned (rg (ix ra))) (f_Ref_unsigned p0)) ≤ (0 : Int32) then (0 : Int32) else (1 : Int32))) = (0 : Int32) then
                (rs, rl, rn, rf)
              else
                let t148 := (f_Ref_exception (1792 : Int32) (131072 : Int32) rs)
                (t148.1, t148.2.1, t148.2.2.1, t148.2.2.2)
        else
          if (rg (ix ra)) = p0 then
            let t154 := (f_Ref_exception (1792 : Int32) (131072 : Int32) rs)
            (t154.1, t154.2.1, t154.2.2.1, t154.2.2.2)
          else
            if (f_Ref_bit rd (1 : Int32)) = (0 : Int32) then
              if (if (f_Ref_bit rd (0 : Int32)) = (0 : Int32) then (0 : Int32) else (if (lg_cmp (f_Ref_unsigned (rg (ix ra))) (f_Ref_unsigned p0)) ≤ (0 : Int32) then (0 : Int32) else (1 : Int32))) = (0 : Int32) then
                (rs, rl, rn, rf)
              else
                let t173 := (f_Ref_exception (1792 : Int32) (131072 : Int32) rs)
                (t173.1, t173.2.1, t173.2.2.1, t173.2.2.2)
            else
              if (lg_cmp (f_Ref_unsigned (rg (ix ra))) (f_Ref_unsigned p0)) < (0 : Int32) then
                let t179 := (f_Ref_exception (1792 : Int32) (131072 : Int32) rs)
                (t179.1, t179.2.1, t179.2.2.1, t179.2.2.2)
              else
                if (if (f_Ref_bit rd (0 : Int32)) = (0 : Int32) then (0 : Int32) else (if (lg_cmp (f_Ref_unsigned (rg (ix ra))) (f_Ref_unsigned p0)) ≤ (0 : Int32) then (0 : Int32) else (1 : Int32))) = (0 : Int32) then
                  (rs, rl, rn, rf)
                else
                  let t194 := (f_Ref_exception (1792 : Int32) (131072 : Int32) rs)
                  (t194.1, t194.2.1, t194.2.2.1, t194.2.2.2)
  else
    if (rg (ix ra)) < p0 then
      let t200 := (f_Ref_exception (1792 : Int32) (131072 : Int32) rs)
      (t200.1, t200.2.1, t200.2.2.1, t200.2.2.2)
    else
      if (f_Ref_bit rd (3 : Int32)) = (0 : Int32) then
        if (f_Ref_bit rd (2 : Int32)) = (0 : Int32) then
          if (f_Ref_bit rd (1 : Int32)) = (0 : Int32) then
            if (if (f_Ref_bit rd (0 : Int32)) = (0 : Int32) then (0 : Int32) else (if (lg_cmp (f_Ref_unsigned (rg (ix ra))) (f_Ref_unsigned p0)) ≤ (0 : Int32) then (0 : Int32) else (1 : Int32))) = (0 : Int32) then
              (rs, rl, rn, rf)
            else
              let t227 := (f_Ref_exception (1792 : Int32) (131072 : Int32) rs)
              (t227.1, t227.2.1, t227.2.2.1, t227.2.2.2)
          else
            if (lg_cmp (f_Ref_unsigned (rg (ix ra))) (f_Ref_unsigned p0)) < (0 : Int32) then
              let t233 := (f_Ref_exception (1792 : Int32) (131072 : Int32) rs)
              (t233.1, t233.2.1, t233.2.2.1, t233.2.2.2)
            else
              if (if (f_Ref_bit rd (0 : Int32)) = (0 : Int32) then (0 : Int32) else (if (lg_cmp (f_Ref_unsigned (rg (ix ra))) (f_Ref_unsigned p0)) ≤ (0 : Int32) then (0 : Int32) else (1 : Int32))) = (0 : Int32) then
                (rs, rl, rn, rf)
              else
                let t248 := (f_Ref_exception (1792 : Int32) (131072 : Int32) rs)
                (t248.1, t248.2.1, t248.2.2.1, t248.2.2.2)
        else
          if (rg (ix ra)) = p0 then
            let t254 := (f_Ref_exception (1792 : Int32) (131072 : Int32) rs)
            (t254.1, t254.2.1, t254.2.2.1, t254.2.2.2)
          else
            if (f_Ref_bit rd (1 : Int32)) = (0 : Int32) then
              if (if (f_Ref_bit rd (0 : Int32)) = (0 : Int32) then (0 : Int32) else (if (lg_cmp (f_Ref_unsigned (rg (ix ra))) (f_Ref_unsigned p0)) ≤ (0 : Int32) then (0 : Int32) else (1 : Int32))) = (0 : Int32) then
                (rs, rl, rn, rf)
              else
                let t273 := (f_Ref_exception (1792 : Int32) (131072 : Int32) rs)
                (t273.1, t273.2.1, t273.2.2.1, t273.2.2.2)
            else
              if (lg_cmp (f_Ref_unsigned (rg (ix ra))) (f_Ref_unsigned p0)) < (0 : Int32) then
                let t279 := (f_Ref_exception (1792 : Int32) (131072 : Int32) rs)
                (t279.1, t279.2.1, t279.2.2.1, t279.2.2.2)
              else
                if (if (f_Ref_bit rd (0 : Int32)) = (0 : Int32) then (0 : Int32) else (if (lg_cmp (f_Ref_unsigned (rg (ix ra))) (f_Ref_unsigned p0)) ≤ (0 : Int32) then (0 : Int32) else (1 : Int32))) = (0 : Int32) then
                  (rs, rl, rn, rf)
                else
                  let t294 := (f_Ref_exception (1792 : Int32) (131072 : Int32) rs)
                  (t294.1, t294.2.1, t294.2.2.1, t294.2.2.2)
      else
        if p0 < (rg (ix ra)) then
          let t300 := (f_Ref_exception (1792 : Int32) (131072 : Int32) rs)
          (t300.1, t300.2.1, t300.2.2.1, t300.2.2.2)
        else
          if (f_Ref_bit rd (2 : Int32)) = (0 : Int32) then
            if (f_Ref_bit rd (1 : Int32)) = (0 : Int32) then
              if (if (f_Ref_bit rd (0 : Int32)) = (0 : Int32) then (0 : Int32) else (if (lg_cmp (f_Ref_unsigned (rg (ix ra))) (f_Ref_unsigned p0)) ≤ (0 : Int32) then (0 : Int32) else (1 : Int32))) = (0 : Int32) then
                (rs, rl, rn, rf)
              else
                let t323 := (f_Ref_exception (1792 : Int32) (131072 : Int32) rs)
                (t323.1, t323.2.1, t323.2.2.1, t323.2.2.2)
            else
              if (lg_cmp (f_Ref_unsigned (rg (ix ra))) (f_Ref_unsigned p0)) < (0 : Int32) then
                let t329 := (f_Ref_exception (1792 : Int32) (131072 : Int32) rs)
                (t329.1, t329.2.1, t329.2.2.1, t329.2.2.2)
              else
                if (if (f_Ref_bit rd (0 : Int32)) = (0 : Int32) then (0 : Int32) else (if (lg_cmp (f_Ref_unsigned (rg (ix ra))) (f_Ref_unsigned p0)) ≤ (0 : Int32) then (0 : Int32) else (1 : Int32))) = (0 : Int32) then
                  (rs, rl, rn, rf)
                else
                  let t344 := (f_Ref_exception (1792 : Int32) (131072 : Int32) rs)
                  (t344.1, t344.2.1, t344.2.2.1, t344.2.2.2)
          else
            if (rg (ix ra)) = p0 then
              let t350 := (f_Ref_exception (1792 : Int32) (131072 : Int32) rs)
              (t350.1, t350.2.1, t350.2.2.1, t350.2.2.2)
            else
              if (f_Ref_bit rd (1 : Int32)) = (0 : Int32) then
                if (if (f_Ref_bit rd (0 : Int32)) = (0 : Int32) then (0 : Int32) else (if (lg_cmp (f_Ref_unsigned (rg (ix ra))) (f_Ref_unsigned p0)) ≤ (0 : Int32) then (0 : Int32) else (1 : Int32))) = (0 : Int32) then
                  (rs, rl, rn, rf)
                else
                  let t369 := (f_Ref_exception (1792 : Int32) (131072 : Int32) rs)
                  (t369.1, t369.2.1, t369.2.2.1, t369.2.2.2)
              else
                if (lg_cmp (f_Ref_unsigned (rg (ix ra))) (f_Ref_unsigned p0)) < (0 : Int32) then
                  let t375 := (f_Ref_exception (1792 : Int32) (131072 : Int32) rs)
                  (t375.1, t375.2.1, t375.2.2.1, t375.2.2.2)
                else
                  if (if (f_Ref_bit rd (0 : Int32)) = (0 : Int32) then (0 : Int32) else (if (lg_cmp (f_Ref_unsigned (rg (ix ra))) (f_Ref_unsigned p0)) ≤ (0 : Int32) then (0 : Int32) else (1 : Int32))) = (0 : Int32) then
                    (rs, rl, rn, rf)
                  else
                    let t390 := (f_Ref_exception (1792 : Int32) (131072 : Int32) rs)
                    (t390.1, t390.2.1, t390.2.2.1, t390.2.2.2)
def rq_Ref_trap (z : (Nat → Int32) × Int32 × Int32 × Int32) : Prop := isB z.2.2.2
set_option maxHeartbeats 4000000 in
set_option maxRecDepth 100000 in
theorem rq0_Ref_trap (p0 : Int32) (rg : Nat → Int32) (rs : Nat → Int32) (rl : Int32) (rd : Int32) (ra : Int32) (rn : Int32) (rf : Int32) (h : isB rf) : rq_Ref_trap (f_Ref_trap p0 rg rs rl rd ra rn rf) := by
  unfold f_Ref_trap
  try dsimp only
  repeat' (with_reducible refine pred_ite ?_ ?_)
  all_goals (unfold rq_Ref_trap)
  all_goals (try dsimp only)
  all_goals first | with_reducible exact h | with_reducible exact ib0 | with_reducible exact ib1 | with_reducible exact rb_Ref_exception _ _ _
theorem rb_Ref_trap (p0 : Int32) (rg : Nat → Int32) (rs : Nat → Int32) (rl : Int32) (rd : Int32) (ra : Int32) (rn : Int32) (rf : Int32) (h : isB rf) : isB (f_Ref_trap p0 rg rs rl rd ra rn rf).2.2.2 := rq0_Ref_trap p0 rg rs rl rd ra rn rf h
set_option maxHeartbeats 4000000 in
set_option maxRecDepth 100000 in
theorem c_Ref_trap (l : Launch) (D : va_G) (aT bG bS bM : Nat) (dG dS dM : ClassId) (rg : Nat → Int32) (rs : Nat → Int32) (rm : Nat → Int32) (rl : Int32) (rk : Int32) (rr : Int32) (re : Int32) (rc : Int32) (rd : Int32) (ra : Int32) (rb : Int32) (rn : Int32) (rf : Int32) (rw : Int32) (p0 : Int32) (hra : vp_in ra 32) (hrd : vp_in rd 32) : kMv l y_Ref_trap b_Ref_trap 8 none 1 22 D kCl [(dG, .int), (dS, .int), (dM, .int)] [.ref aT, .int p0] [(aT, .inr (11, [.ref bG, .ref bS, .ref bM, .int rl, .int rk, .int rr, .int re, .int rc, .int rd, .int ra, .int rb, .int rn, .int rf, .int rw])), (bG, .inl (dG, 32, .inl rg)), (bS, .inl (dS, 48, .inl rs)), (bM, .inl (dM, 16384, .inl rm))] [(aT, .inr (11, [.ref bG, .ref bS, .ref bM, .int (f_Ref_trap p0 rg rs rl rd ra rn rf).2.1, .int rk, .int rr, .int re, .int rc, .int rd, .int ra, .int rb, .int (f_Ref_trap p0 rg rs rl rd ra rn rf).2.2.1, .int (f_Ref_trap p0 rg rs rl rd ra rn rf).2.2.2, .int rw])), (bG, .inl (dG, 32, .inl rg)), (bS, .inl (dS, 48, .inl (f_Ref_trap p0 rg rs rl rd ra rn rf).1)), (bM, .inl (dM, 16384, .inl rm))] := by
  refine k_entry (Qc := fun A => kQv D kCl [(dG, .int), (dS, .int), (dM, .int)] [(aT, .inr (11, [.ref bG, .ref bS, .ref bM, .int (f_Ref_trap p0 rg rs rl rd ra rn rf).2.1, .int rk, .int rr, .int re, .int rc, .int rd, .int ra, .int rb, .int (f_Ref_trap p0 rg rs rl rd ra rn rf).2.2.1, .int (f_Ref_trap p0 rg rs rl rd ra rn rf).2.2.2, .int rw])), (bG, .inl (dG, 32, .inl rg)), (bS, .inl (dS, 48, .inl (f_Ref_trap p0 rg rs rl rd ra rn rf).1)), (bM, .inl (dM, 16384, .inl rm))] A) (lv := [(0, .ref aT), (1, .int p0)]) (by decide) (Nat.le_of_ble_eq_true rfl) rfl ?_
  intro p e s m below meth c A ls hx hb hr hml hB hown hlocks hin hA hK hN hP hD hS hl
  have hown : s.vm.findClass "MappedProcessorModel" = some m.cls := hown
  refine lv_aload_n hx hb d_Ref_trap_0 rfl (lv_at hl 0 rfl) ?_
  refine va_get (D := D) (ci := 11) (v := .ref bG) (C := "MappedProcessorModel") (T := T_Ref) (N := 14) hx hb hB iw_Ref hown hK hP 0 rfl rfl 0 (by decide) (hB _ mw_643) (fun _ h9 => h9) rfl d_Ref_trap_1 ?_
  refine lv_aload_n hx hb d_Ref_trap_4 rfl (lv_at hl 0 rfl) ?_
  refine va_get (D := D) (ci := 11) (v := .int ra) (C := "MappedProcessorModel") (T := T_Ref) (N := 14) hx hb hB iw_Ref hown hK hP 0 rfl rfl 9 (by decide) (hB _ mw_652) (fun _ h9 => h9) rfl d_Ref_trap_5 ?_
  refine k_iald (j := (ix ra)) hx hb hK hP 1 0 rfl rfl rfl hra d_Ref_trap_8 ?_
  refine lv_istore_n (lv' := [(2, .int (rg (ix ra))), (0, .ref aT), (1, .int p0)]) hx hb d_Ref_trap_9 rfl hl (by decide) rfl (fun ls hl => ?_)
  refine lv_iload_n hx hb d_Ref_trap_10 rfl (lv_at hl 0 rfl) ?_
  refine k_cSl (As := [.int (rg (ix ra))]) (rest := []) (wr := [(aT, .inr (11, [.ref bG, .ref bS, .ref bM, .int rl, .int rk, .int rr, .int re, .int rc, .int rd, .int ra, .int rb, .int rn, .int rf, .int rw])), (bG, .inl (dG, 32, .inl rg)), (bS, .inl (dS, 48, .inl rs)), (bM, .inl (dM, 16384, .inl rm))]) (wj := [(aT, .inr (11, [.ref bG, .ref bS, .ref bM, .int rl, .int rk, .int rr, .int re, .int rc, .int rd, .int ra, .int rb, .int rn, .int rf, .int rw])), (bG, .inl (dG, 32, .inl rg)), (bS, .inl (dS, 48, .inl rs)), (bM, .inl (dM, 16384, .inl rm))]) ⟨hx, hb, hml, hown, hB⟩ (c_Ref_unsigned l D (rg (ix ra))) yl_Ref_unsigned mw_769 hK hN hP hD hS hA [] [] [0, 1, 2, 3] [0, 1, 2, 3] rfl rfl rfl rfl (by decide +kernel) rfl hl.1 rfl (Nat.le_of_ble_eq_true rfl) ⟨Nat.le_of_ble_eq_true rfl, Nat.le_of_ble_eq_true rfl⟩ d_Ref_trap_11 ⟨Nat.le_of_ble_eq_true rfl, Nat.le_of_ble_eq_true rfl⟩ (fun H locs hP hD hS => ?_)
  refine lv_lstore_n (lv' := [(3, .long (f_Ref_unsigned (rg (ix ra)))), (2, .int (rg (ix ra))), (0, .ref aT), (1, .int p0)]) hx hb d_Ref_trap_14 rfl hl (by decide) rfl (fun ls hl => ?_)
  refine lv_iload_n hx hb d_Ref_trap_15 rfl (lv_at hl 3 rfl) ?_
  refine k_cSl (As := [.int p0]) (rest := []) (wr := [(aT, .inr (11, [.ref bG, .ref bS, .ref bM, .int rl, .int rk, .int rr, .int re, .int rc, .int rd, .int ra, .int rb, .int rn, .int rf, .int rw])), (bG, .inl (dG, 32, .inl rg)), (bS, .inl (dS, 48, .inl rs)), (bM, .inl (dM, 16384, .inl rm))]) (wj := [(aT, .inr (11, [.ref bG, .ref bS, .ref bM, .int rl, .int rk, .int rr, .int re, .int rc, .int rd, .int ra, .int rb, .int rn, .int rf, .int rw])), (bG, .inl (dG, 32, .inl rg)), (bS, .inl (dS, 48, .inl rs)), (bM, .inl (dM, 16384, .inl rm))]) ⟨hx, hb, hml, hown, hB⟩ (c_Ref_unsigned l D p0) yl_Ref_unsigned mw_769 hK hN hP hD hS hA [] [] [0, 1, 2, 3] [0, 1, 2, 3] rfl rfl rfl rfl (by decide +kernel) rfl hl.1 rfl (Nat.le_of_ble_eq_true rfl) ⟨Nat.le_of_ble_eq_true rfl, Nat.le_of_ble_eq_true rfl⟩ d_Ref_trap_16 ⟨Nat.le_of_ble_eq_true rfl, Nat.le_of_ble_eq_true rfl⟩ (fun H locs hP hD hS => ?_)
  refine lv_lstore (lv' := [(5, .long (f_Ref_unsigned p0)), (3, .long (f_Ref_unsigned (rg (ix ra)))), (2, .int (rg (ix ra))), (0, .ref aT), (1, .int p0)]) hx hb d_Ref_trap_19 hl (by decide) rfl (fun ls hl => ?_)
  refine lv_aload_n hx hb d_Ref_trap_21 rfl (lv_at hl 3 rfl) ?_
  refine va_get (D := D) (ci := 11) (v := .int rd) (C := "MappedProcessorModel") (T := T_Ref) (N := 14) hx hb hB iw_Ref hown hK hP 0 rfl rfl 8 (by decide) (hB _ mw_651) (fun _ h9 => h9) rfl d_Ref_trap_22 ?_
  refine lv_iconst (v := (4 : Int32)) hx hb d_Ref_trap_25 (by decide) ?_
  refine k_cSi (As := [.int rd, .int (4 : Int32)]) (rest := []) (wr := [(aT, .inr (11, [.ref bG, .ref bS, .ref bM, .int rl, .int rk, .int rr, .int re, .int rc, .int rd, .int ra, .int rb, .int rn, .int rf, .int rw])), (bG, .inl (dG, 32, .inl rg)), (bS, .inl (dS, 48, .inl rs)), (bM, .inl (dM, 16384, .inl rm))]) (wj := [(aT, .inr (11, [.ref bG, .ref bS, .ref bM, .int rl, .int rk, .int rr, .int re, .int rc, .int rd, .int ra, .int rb, .int rn, .int rf, .int rw])), (bG, .inl (dG, 32, .inl rg)), (bS, .inl (dS, 48, .inl rs)), (bM, .inl (dM, 16384, .inl rm))]) ⟨hx, hb, hml, hown, hB⟩ (c_Ref_bit l D rd (4 : Int32)) yl_Ref_bit mw_725 hK hN hP hD hS hA [] [] [0, 1, 2, 3] [0, 1, 2, 3] rfl rfl rfl rfl (by decide +kernel) rfl hl.1 rfl (Nat.le_of_ble_eq_true rfl) ⟨Nat.le_of_ble_eq_true rfl, Nat.le_of_ble_eq_true rfl⟩ d_Ref_trap_26 ⟨Nat.le_of_ble_eq_true rfl, Nat.le_of_ble_eq_true rfl⟩ (fun H locs hP hD hS => ?_)
  refine lv_if_eq (tgt := 37) hx hb d_Ref_trap_29 (by decide) (fun (h4 : (f_Ref_bit rd (4 : Int32)) = (0 : Int32)) => ?_) (fun (h4 : ¬ (f_Ref_bit rd (4 : Int32)) = (0 : Int32)) => ?_)
  · refine lv_aload_n hx hb d_Ref_trap_37 rfl (lv_at hl 3 rfl) ?_
    refine va_get (D := D) (ci := 11) (v := .int rd) (C := "MappedProcessorModel") (T := T_Ref) (N := 14) hx hb hB iw_Ref hown hK hP 0 rfl rfl 8 (by decide) (hB _ mw_651) (fun _ h9 => h9) rfl d_Ref_trap_38 ?_
    refine lv_iconst (v := (3 : Int32)) hx hb d_Ref_trap_41 (by decide) ?_
    refine k_cSi (As := [.int rd, .int (3 : Int32)]) (rest := []) (wr := [(aT, .inr (11, [.ref bG, .ref bS, .ref bM, .int rl, .int rk, .int rr, .int re, .int rc, .int rd, .int ra, .int rb, .int rn, .int rf, .int rw])), (bG, .inl (dG, 32, .inl rg)), (bS, .inl (dS, 48, .inl rs)), (bM, .inl (dM, 16384, .inl rm))]) (wj := [(aT, .inr (11, [.ref bG, .ref bS, .ref bM, .int rl, .int rk, .int rr, .int re, .int rc, .int rd, .int ra, .int rb, .int rn, .int rf, .int rw])), (bG, .inl (dG, 32, .inl rg)), (bS, .inl (dS, 48, .inl rs)), (bM, .inl (dM, 16384, .inl rm))]) ⟨hx, hb, hml, hown, hB⟩ (c_Ref_bit l D rd (3 : Int32)) yl_Ref_bit mw_725 hK hN hP hD hS hA [] [] [0, 1, 2, 3] [0, 1, 2, 3] rfl rfl rfl rfl (by decide +kernel) rfl hl.1 rfl (Nat.le_of_ble_eq_true rfl) ⟨Nat.le_of_ble_eq_true rfl, Nat.le_of_ble_eq_true rfl⟩ d_Ref_trap_42 ⟨Nat.le_of_ble_eq_true rfl, Nat.le_of_ble_eq_true rfl⟩ (fun H locs hP hD hS => ?_)
    refine lv_if_eq (tgt := 53) hx hb d_Ref_trap_45 (by decide) (fun (h8 : (f_Ref_bit rd (3 : Int32)) = (0 : Int32)) => ?_) (fun (h8 : ¬ (f_Ref_bit rd (3 : Int32)) = (0 : Int32)) => ?_)
    · refine lv_aload_n hx hb d_Ref_trap_53 rfl (lv_at hl 3 rfl) ?_
      refine va_get (D := D) (ci := 11) (v := .int rd) (C := "MappedProcessorModel") (T := T_Ref) (N := 14) hx hb hB iw_Ref hown hK hP 0 rfl rfl 8 (by decide) (hB _ mw_651) (fun _ h9 => h9) rfl d_Ref_trap_54 ?_
      refine lv_iconst (v := (2 : Int32)) hx hb d_Ref_trap_57 (by decide) ?_
      refine k_cSi (As := [.int rd, .int (2 : Int32)]) (rest := []) (wr := [(aT, .inr (11, [.ref bG, .ref bS, .ref bM, .int rl, .int rk, .int rr, .int re, .int rc, .int rd, .int ra, .int rb, .int rn, .int rf, .int rw])), (bG, .inl (dG, 32, .inl rg)), (bS, .inl (dS, 48, .inl rs)), (bM, .inl (dM, 16384, .inl rm))]) (wj := [(aT, .inr (11, [.ref bG, .ref bS, .ref bM, .int rl, .int rk, .int rr, .int re, .int rc, .int rd, .int ra, .int rb, .int rn, .int rf, .int rw])), (bG, .inl (dG, 32, .inl rg)), (bS, .inl (dS, 48, .inl rs)), (bM, .inl (dM, 16384, .inl rm))]) ⟨hx, hb, hml, hown, hB⟩ (c_Ref_bit l D rd (2 : Int32)) yl_Ref_bit mw_725 hK hN hP hD hS hA [] [] [0, 1, 2, 3] [0, 1, 2, 3] rfl rfl rfl rfl (by decide +kernel) rfl hl.1 rfl (Nat.le_of_ble_eq_true rfl) ⟨Nat.le_of_ble_eq_true rfl, Nat.le_of_ble_eq_true rfl⟩ d_Ref_trap_58 ⟨Nat.le_of_ble_eq_true rfl, Nat.le_of_ble_eq_true rfl⟩ (fun H locs hP hD hS => ?_)
      refine lv_if_eq (tgt := 69) hx hb d_Ref_trap_61 (by decide) (fun (h12 : (f_Ref_bit rd (2 : Int32)) = (0 : Int32)) => ?_) (fun (h12 : ¬ (f_Ref_bit rd (2 : Int32)) = (0 : Int32)) => ?_)
      · refine lv_aload_n hx hb d_Ref_trap_69 rfl (lv_at hl 3 rfl) ?_
        refine va_get (D := D) (ci := 11) (v := .int rd) (C := "MappedProcessorModel") (T := T_Ref) (N := 14) hx hb hB iw_Ref hown hK hP 0 rfl rfl 8 (by decide) (hB _ mw_651) (fun _ h9 => h9) rfl d_Ref_trap_70 ?_
        refine lv_iconst (v := (1 : Int32)) hx hb d_Ref_trap_73 (by decide) ?_
        refine k_cSi (As := [.int rd, .int (1 : Int32)]) (rest := []) (wr := [(aT, .inr (11, [.ref bG, .ref bS, .ref bM, .int rl, .int rk, .int rr, .int re, .int rc, .int rd, .int ra, .int rb, .int rn, .int rf, .int rw])), (bG, .inl (dG, 32, .inl rg)), (bS, .inl (dS, 48, .inl rs)), (bM, .inl (dM, 16384, .inl rm))]) (wj := [(aT, .inr (11, [.ref bG, .ref bS, .ref bM, .int rl, .int rk, .int rr, .int re, .int rc, .int rd, .int ra, .int rb, .int rn, .int rf, .int rw])), (bG, .inl (dG, 32, .inl rg)), (bS, .inl (dS, 48, .inl rs)), (bM, .inl (dM, 16384, .inl rm))]) ⟨hx, hb, hml, hown, hB⟩ (c_Ref_bit l D rd (1 : Int32)) yl_Ref_bit mw_725 hK hN hP hD hS hA [] [] [0, 1, 2, 3] [0, 1, 2, 3] rfl rfl rfl rfl (by decide +kernel) rfl hl.1 rfl (Nat.le_of_ble_eq_true rfl) ⟨Nat.le_of_ble_eq_true rfl, Nat.le_of_ble_eq_true rfl⟩ d_Ref_trap_74 ⟨Nat.le_of_ble_eq_true rfl, Nat.le_of_ble_eq_true rfl⟩ (fun H locs hP hD hS => ?_)
        refine lv_if_eq (tgt := 87) hx hb d_Ref_trap_77 (by decide) (fun (h16 : (f_Ref_bit rd (1 : Int32)) = (0 : Int32)) => ?_) (fun (h16 : ¬ (f_Ref_bit rd (1 : Int32)) = (0 : Int32)) => ?_)
        · refine lv_aload_n hx hb d_Ref_trap_87 rfl (lv_at hl 3 rfl) ?_
          refine va_get (D := D) (ci := 11) (v := .int rd) (C := "MappedProcessorModel") (T := T_Ref) (N := 14) hx hb hB iw_Ref hown hK hP 0 rfl rfl 8 (by decide) (hB _ mw_651) (fun _ h9 => h9) rfl d_Ref_trap_88 ?_
          refine lv_iconst (v := (0 : Int32)) hx hb d_Ref_trap_91 (by decide) ?_
          refine k_cSi (As := [.int rd, .int (0 : Int32)]) (rest := []) (wr := [(aT, .inr (11, [.ref bG, .ref bS, .ref bM, .int rl, .int rk, .int rr, .int re, .int rc, .int rd, .int ra, .int rb, .int rn, .int rf, .int rw])), (bG, .inl (dG, 32, .inl rg)), (bS, .inl (dS, 48, .inl rs)), (bM, .inl (dM, 16384, .inl rm))]) (wj := [(aT, .inr (11, [.ref bG, .ref bS, .ref bM, .int rl, .int rk, .int rr, .int re, .int rc, .int rd, .int ra, .int rb, .int rn, .int rf, .int rw])), (bG, .inl (dG, 32, .inl rg)), (bS, .inl (dS, 48, .inl rs)), (bM, .inl (dM, 16384, .inl rm))]) ⟨hx, hb, hml, hown, hB⟩ (c_Ref_bit l D rd (0 : Int32)) yl_Ref_bit mw_725 hK hN hP hD hS hA [] [] [0, 1, 2, 3] [0, 1, 2, 3] rfl rfl rfl rfl (by decide +kernel) rfl hl.1 rfl (Nat.le_of_ble_eq_true rfl) ⟨Nat.le_of_ble_eq_true rfl, Nat.le_of_ble_eq_true rfl⟩ d_Ref_trap_92 ⟨Nat.le_of_ble_eq_true rfl, Nat.le_of_ble_eq_true rfl⟩ (fun H locs hP hD hS => ?_)
          refine k_join2 (c0 := (f_Ref_bit rd (0 : Int32)) = (0 : Int32)) (x1 := (0 : Int32)) (x2 := (if (lg_cmp (f_Ref_unsigned (rg (ix ra))) (f_Ref_unsigned p0)) ≤ (0 : Int32) then (0 : Int32) else (1 : Int32))) (rest := []) 110 ?_ (fun k18 k19 => ?_)
          rotate_left
          · refine lv_if_eq (tgt := 109) hx hb d_Ref_trap_95 (by decide) (fun (h17 : (f_Ref_bit rd (0 : Int32)) = (0 : Int32)) => ?_) (fun (h17 : ¬ (f_Ref_bit rd (0 : Int32)) = (0 : Int32)) => ?_)
            · refine lv_iconst (v := (0 : Int32)) hx hb d_Ref_trap_109 (by decide) ?_
              exact k18 h17
            · refine lv_lload_n hx hb d_Ref_trap_98 rfl (lv_at hl 1 rfl) ?_
              refine lv_lload hx hb d_Ref_trap_99 (lv_at hl 0 rfl) ?_
              refine W.lcmp hx hb d_Ref_trap_101 ?_
              refine k_join2 (c0 := (lg_cmp (f_Ref_unsigned (rg (ix ra))) (f_Ref_unsigned p0)) ≤ (0 : Int32)) (x1 := (0 : Int32)) (x2 := (1 : Int32)) (rest := []) 110 ?_ (fun k21 k22 => ?_)
              rotate_left
              · refine lv_if_le (tgt := 109) hx hb d_Ref_trap_102 (by decide) (fun (h20 : (lg_cmp (f_Ref_unsigned (rg (ix ra))) (f_Ref_unsigned p0)) ≤ (0 : Int32)) => ?_) (fun (h20 : ¬ (lg_cmp (f_Ref_unsigned (rg (ix ra))) (f_Ref_unsigned p0)) ≤ (0 : Int32)) => ?_)
                · refine lv_iconst (v := (0 : Int32)) hx hb d_Ref_trap_109 (by decide) ?_
                  exact k21 h20
                · refine lv_iconst (v := (1 : Int32)) hx hb d_Ref_trap_105 (by decide) ?_
                  refine lv_goto (tgt := 110) hx hb d_Ref_trap_106 (by decide) ?_
                  exact k22 h20
              exact k19 h17
          refine lv_istore (lv' := [(7, .int (if (f_Ref_bit rd (0 : Int32)) = (0 : Int32) then (0 : Int32) else (if (lg_cmp (f_Ref_unsigned (rg (ix ra))) (f_Ref_unsigned p0)) ≤ (0 : Int32) then (0 : Int32) else (1 : Int32)))), (5, .long (f_Ref_unsigned p0)), (3, .long (f_Ref_unsigned (rg (ix ra)))), (2, .int (rg (ix ra))), (0, .ref aT), (1, .int p0)]) hx hb d_Ref_trap_110 hl (by decide) rfl (fun ls hl => ?_)
          refine lv_iload hx hb d_Ref_trap_112 (lv_at hl 0 rfl) ?_
          refine lv_if_eq (tgt := 126) hx hb d_Ref_trap_114 (by decide) (fun (h30 : (if (f_Ref_bit rd (0 : Int32)) = (0 : Int32) then (0 : Int32) else (if (lg_cmp (f_Ref_unsigned (rg (ix ra))) (f_Ref_unsigned p0)) ≤ (0 : Int32) then (0 : Int32) else (1 : Int32))) = (0 : Int32)) => ?_) (fun (h30 : ¬ (if (f_Ref_bit rd (0 : Int32)) = (0 : Int32) then (0 : Int32) else (if (lg_cmp (f_Ref_unsigned (rg (ix ra))) (f_Ref_unsigned p0)) ≤ (0 : Int32) then (0 : Int32) else (1 : Int32))) = (0 : Int32)) => ?_)
          · have ef : f_Ref_trap p0 rg rs rl rd ra rn rf = (rs, rl, rn, rf) := by unfold f_Ref_trap; try dsimp only; rw [if_pos h4, if_pos h8, if_pos h12, if_pos h16, if_pos h30]
            exact k_vret hx hb hr hlocks hK hP hD hS [0, 1, 2, 3] rfl (by rw [ef] <;> rfl) d_Ref_trap_126
          · refine lv_aload_n hx hb d_Ref_trap_117 rfl (lv_at hl 4 rfl) ?_
            refine lv_sipush (v := (1792 : Int32)) hx hb d_Ref_trap_118 (by decide) ?_
            refine lv_ldc (v := (131072 : Int32)) hx hb hown (hB _ mw_773) d_Ref_trap_121 ?_
            let t31 := (f_Ref_exception (1792 : Int32) (131072 : Int32) rs)
            refine k_cVv (As := [.int (1792 : Int32), .int (131072 : Int32)]) (rest := []) (wr := []) (wj := [(aT, .inr (11, [.ref bG, .ref bS, .ref bM, .int t31.2.1, .int rk, .int rr, .int re, .int rc, .int rd, .int ra, .int rb, .int t31.2.2.1, .int t31.2.2.2, .int rw])), (bG, .inl (dG, 32, .inl rg)), (bS, .inl (dS, 48, .inl t31.1)), (bM, .inl (dM, 16384, .inl rm))]) ⟨hx, hb, hml, hown, hB⟩ (c_Ref_exception l D aT bG bS bM dG dS dM rg rs rm rl rk rr re rc rd ra rb rn rf rw (1792 : Int32) (131072 : Int32)) yl_Ref_exception mw_748 hK hN hP hD hS hA [0, 1, 2] [0, 1, 2, 3] [] [0, 1, 2, 3] rfl rfl rfl rfl (by decide +kernel) 0 rfl rfl rfl rfl hl.1 rfl (Nat.le_of_ble_eq_true rfl) ⟨Nat.le_of_ble_eq_true rfl, Nat.le_of_ble_eq_true rfl⟩ d_Ref_trap_123 ⟨Nat.le_of_ble_eq_true rfl, Nat.le_of_ble_eq_true rfl⟩ (fun H locs hP hD hS => ?_)
            have ef : f_Ref_trap p0 rg rs rl rd ra rn rf = (t31.1, t31.2.1, t31.2.2.1, t31.2.2.2) := by unfold f_Ref_trap; try dsimp only; rw [if_pos h4, if_pos h8, if_pos h12, if_pos h16, if_neg h30]
            exact k_vret hx hb hr hlocks hK hP hD hS [0, 1, 2, 3] rfl (by rw [ef] <;> rfl) d_Ref_trap_126
        · refine lv_lload_n hx hb d_Ref_trap_80 rfl (lv_at hl 1 rfl) ?_
          refine lv_lload hx hb d_Ref_trap_81 (lv_at hl 0 rfl) ?_
          refine W.lcmp hx hb d_Ref_trap_83 ?_
          refine lv_if_lt (tgt := 105) hx hb d_Ref_trap_84 (by decide) (fun (h35 : (lg_cmp (f_Ref_unsigned (rg (ix ra))) (f_Ref_unsigned p0)) < (0 : Int32)) => ?_) (fun (h35 : ¬ (lg_cmp (f_Ref_unsigned (rg (ix ra))) (f_Ref_unsigned p0)) < (0 : Int32)) => ?_)
          · refine lv_iconst (v := (1 : Int32)) hx hb d_Ref_trap_105 (by decide) ?_
            refine lv_goto (tgt := 110) hx hb d_Ref_trap_106 (by decide) ?_
            refine lv_istore (lv' := [(7, .int (1 : Int32)), (5, .long (f_Ref_unsigned p0)), (3, .long (f_Ref_unsigned (rg (ix ra)))), (2, .int (rg (ix ra))), (0, .ref aT), (1, .int p0)]) hx hb d_Ref_trap_110 hl (by decide) rfl (fun ls hl => ?_)
            refine lv_iload hx hb d_Ref_trap_112 (lv_at hl 0 rfl) ?_
            refine lv_if_eq (tgt := 126) hx hb d_Ref_trap_114 (by decide) (fun h36 => ?_) (fun h36 => ?_)
            · exact absurd h36 (by decide)
            refine lv_aload_n hx hb d_Ref_trap_117 rfl (lv_at hl 4 rfl) ?_
            refine lv_sipush (v := (1792 : Int32)) hx hb d_Ref_trap_118 (by decide) ?_
            refine lv_ldc (v := (131072 : Int32)) hx hb hown (hB _ mw_773) d_Ref_trap_121 ?_
            let t37 := (f_Ref_exception (1792 : Int32) (131072 : Int32) rs)
            refine k_cVv (As := [.int (1792 : Int32), .int (131072 : Int32)]) (rest := []) (wr := []) (wj := [(aT, .inr (11, [.ref bG, .ref bS, .ref bM, .int t37.2.1, .int rk, .int rr, .int re, .int rc, .int rd, .int ra, .int rb, .int t37.2.2.1, .int t37.2.2.2, .int rw])), (bG, .inl (dG, 32, .inl rg)), (bS, .inl (dS, 48, .inl t37.1)), (bM, .inl (dM, 16384, .inl rm))]) ⟨hx, hb, hml, hown, hB⟩ (c_Ref_exception l D aT bG bS bM dG dS dM rg rs rm rl rk rr re rc rd ra rb rn rf rw (1792 : Int32) (131072 : Int32)) yl_Ref_exception mw_748 hK hN hP hD hS hA [0, 1, 2] [0, 1, 2, 3] [] [0, 1, 2, 3] rfl rfl rfl rfl (by decide +kernel) 0 rfl rfl rfl rfl hl.1 rfl (Nat.le_of_ble_eq_true rfl) ⟨Nat.le_of_ble_eq_true rfl, Nat.le_of_ble_eq_true rfl⟩ d_Ref_trap_123 ⟨Nat.le_of_ble_eq_true rfl, Nat.le_of_ble_eq_true rfl⟩ (fun H locs hP hD hS => ?_)
            have ef : f_Ref_trap p0 rg rs rl rd ra rn rf = (t37.1, t37.2.1, t37.2.2.1, t37.2.2.2) := by unfold f_Ref_trap; try dsimp only; rw [if_pos h4, if_pos h8, if_pos h12, if_neg h16, if_pos h35]
            exact k_vret hx hb hr hlocks hK hP hD hS [0, 1, 2, 3] rfl (by rw [ef] <;> rfl) d_Ref_trap_126
          · refine lv_aload_n hx hb d_Ref_trap_87 rfl (lv_at hl 3 rfl) ?_
            refine va_get (D := D) (ci := 11) (v := .int rd) (C := "MappedProcessorModel") (T := T_Ref) (N := 14) hx hb hB iw_Ref hown hK hP 0 rfl rfl 8 (by decide) (hB _ mw_651) (fun _ h9 => h9) rfl d_Ref_trap_88 ?_
            refine lv_iconst (v := (0 : Int32)) hx hb d_Ref_trap_91 (by decide) ?_
            refine k_cSi (As := [.int rd, .int (0 : Int32)]) (rest := []) (wr := [(aT, .inr (11, [.ref bG, .ref bS, .ref bM, .int rl, .int rk, .int rr, .int re, .int rc, .int rd, .int ra, .int rb, .int rn, .int rf, .int rw])), (bG, .inl (dG, 32, .inl rg)), (bS, .inl (dS, 48, .inl rs)), (bM, .inl (dM, 16384, .inl rm))]) (wj := [(aT, .inr (11, [.ref bG, .ref bS, .ref bM, .int rl, .int rk, .int rr, .int re, .int rc, .int rd, .int ra, .int rb, .int rn, .int rf, .int rw])), (bG, .inl (dG, 32, .inl rg)), (bS, .inl (dS, 48, .inl rs)), (bM, .inl (dM, 16384, .inl rm))]) ⟨hx, hb, hml, hown, hB⟩ (c_Ref_bit l D rd (0 : Int32)) yl_Ref_bit mw_725 hK hN hP hD hS hA [] [] [0, 1, 2, 3] [0, 1, 2, 3] rfl rfl rfl rfl (by decide +kernel) rfl hl.1 rfl (Nat.le_of_ble_eq_true rfl) ⟨Nat.le_of_ble_eq_true rfl, Nat.le_of_ble_eq_true rfl⟩ d_Ref_trap_92 ⟨Nat.le_of_ble_eq_true rfl, Nat.le_of_ble_eq_true rfl⟩ (fun H locs hP hD hS => ?_)
            refine k_join2 (c0 := (f_Ref_bit rd (0 : Int32)) = (0 : Int32)) (x1 := (0 : Int32)) (x2 := (if (lg_cmp (f_Ref_unsigned (rg (ix ra))) (f_Ref_unsigned p0)) ≤ (0 : Int32) then (0 : Int32) else (1 : Int32))) (rest := []) 110 ?_ (fun k39 k40 => ?_)
            rotate_left
            · refine lv_if_eq (tgt := 109) hx hb d_Ref_trap_95 (by decide) (fun (h38 : (f_Ref_bit rd (0 : Int32)) = (0 : Int32)) => ?_) (fun (h38 : ¬ (f_Ref_bit rd (0 : Int32)) = (0 : Int32)) => ?_)
              · refine lv_iconst (v := (0 : Int32)) hx hb d_Ref_trap_109 (by decide) ?_
                exact k39 h38
              · refine lv_lload_n hx hb d_Ref_trap_98 rfl (lv_at hl 1 rfl) ?_
                refine lv_lload hx hb d_Ref_trap_99 (lv_at hl 0 rfl) ?_
                refine W.lcmp hx hb d_Ref_trap_101 ?_
                refine k_join2 (c0 := (lg_cmp (f_Ref_unsigned (rg (ix ra))) (f_Ref_unsigned p0)) ≤ (0 : Int32)) (x1 := (0 : Int32)) (x2 := (1 : Int32)) (rest := []) 110 ?_ (fun k42 k43 => ?_)
                rotate_left
                · refine lv_if_le (tgt := 109) hx hb d_Ref_trap_102 (by decide) (fun (h41 : (lg_cmp (f_Ref_unsigned (rg (ix ra))) (f_Ref_unsigned p0)) ≤ (0 : Int32)) => ?_) (fun (h41 : ¬ (lg_cmp (f_Ref_unsigned (rg (ix ra))) (f_Ref_unsigned p0)) ≤ (0 : Int32)) => ?_)
                  · refine lv_iconst (v := (0 : Int32)) hx hb d_Ref_trap_109 (by decide) ?_
                    exact k42 h41
                  · refine lv_iconst (v := (1 : Int32)) hx hb d_Ref_trap_105 (by decide) ?_
                    refine lv_goto (tgt := 110) hx hb d_Ref_trap_106 (by decide) ?_
                    exact k43 h41
                exact k40 h38
            refine lv_istore (lv' := [(7, .int (if (f_Ref_bit rd (0 : Int32)) = (0 : Int32) then (0 : Int32) else (if (lg_cmp (f_Ref_unsigned (rg (ix ra))) (f_Ref_unsigned p0)) ≤ (0 : Int32) then (0 : Int32) else (1 : Int32)))), (5, .long (f_Ref_unsigned p0)), (3, .long (f_Ref_unsigned (rg (ix ra)))), (2, .int (rg (ix ra))), (0, .ref aT), (1, .int p0)]) hx hb d_Ref_trap_110 hl (by decide) rfl (fun ls hl => ?_)
            refine lv_iload hx hb d_Ref_trap_112 (lv_at hl 0 rfl) ?_
            refine lv_if_eq (tgt := 126) hx hb d_Ref_trap_114 (by decide) (fun (h51 : (if (f_Ref_bit rd (0 : Int32)) = (0 : Int32) then (0 : Int32) else (if (lg_cmp (f_Ref_unsigned (rg (ix ra))) (f_Ref_unsigned p0)) ≤ (0 : Int32) then (0 : Int32) else (1 : Int32))) = (0 : Int32)) => ?_) (fun (h51 : ¬ (if (f_Ref_bit rd (0 : Int32)) = (0 : Int32) then (0 : Int32) else (if (lg_cmp (f_Ref_unsigned (rg (ix ra))) (f_Ref_unsigned p0)) ≤ (0 : Int32) then (0 : Int32) else (1 : Int32))) = (0 : Int32)) => ?_)
            · have ef : f_Ref_trap p0 rg rs rl rd ra rn rf = (rs, rl, rn, rf) := by unfold f_Ref_trap; try dsimp only; rw [if_pos h4, if_pos h8, if_pos h12, if_neg h16, if_neg h35, if_pos h51]
              exact k_vret hx hb hr hlocks hK hP hD hS [0, 1, 2, 3] rfl (by rw [ef] <;> rfl) d_Ref_trap_126
            · refine lv_aload_n hx hb d_Ref_trap_117 rfl (lv_at hl 4 rfl) ?_
              refine lv_sipush (v := (1792 : Int32)) hx hb d_Ref_trap_118 (by decide) ?_
              refine lv_ldc (v := (131072 : Int32)) hx hb hown (hB _ mw_773) d_Ref_trap_121 ?_
              let t52 := (f_Ref_exception (1792 : Int32) (131072 : Int32) rs)
              refine k_cVv (As := [.int (1792 : Int32), .int (131072 : Int32)]) (rest := []) (wr := []) (wj := [(aT, .inr (11, [.ref bG, .ref bS, .ref bM, .int t52.2.1, .int rk, .int rr, .int re, .int rc, .int rd, .int ra, .int rb, .int t52.2.2.1, .int t52.2.2.2, .int rw])), (bG, .inl (dG, 32, .inl rg)), (bS, .inl (dS, 48, .inl t52.1)), (bM, .inl (dM, 16384, .inl rm))]) ⟨hx, hb, hml, hown, hB⟩ (c_Ref_exception l D aT bG bS bM dG dS dM rg rs rm rl rk rr re rc rd ra rb rn rf rw (1792 : Int32) (131072 : Int32)) yl_Ref_exception mw_748 hK hN hP hD hS hA [0, 1, 2] [0, 1, 2, 3] [] [0, 1, 2, 3] rfl rfl rfl rfl (by decide +kernel) 0 rfl rfl rfl rfl hl.1 rfl (Nat.le_of_ble_eq_true rfl) ⟨Nat.le_of_ble_eq_true rfl, Nat.le_of_ble_eq_true rfl⟩ d_Ref_trap_123 ⟨Nat.le_of_ble_eq_true rfl, Nat.le_of_ble_eq_true rfl⟩ (fun H locs hP hD hS => ?_)
              have ef : f_Ref_trap p0 rg rs rl rd ra rn rf = (t52.1, t52.2.1, t52.2.2.1, t52.2.2.2) := by unfold f_Ref_trap; try dsimp only; rw [if_pos h4, if_pos h8, if_pos h12, if_neg h16, if_neg h35, if_neg h51]
              exact k_vret hx hb hr hlocks hK hP hD hS [0, 1, 2, 3] rfl (by rw [ef] <;> rfl) d_Ref_trap_126
      · refine lv_iload_n hx hb d_Ref_trap_64 rfl (lv_at hl 2 rfl) ?_
        refine lv_iload_n hx hb d_Ref_trap_65 rfl (lv_at hl 4 rfl) ?_
        refine lv_icmp_eq (tgt := 105) hx hb d_Ref_trap_66 (by decide) (fun (h56 : (rg (ix ra)) = p0) => ?_) (fun (h56 : ¬ (rg (ix ra)) = p0) => ?_)
        · refine lv_iconst (v := (1 : Int32)) hx hb d_Ref_trap_105 (by decide) ?_
          refine lv_goto (tgt := 110) hx hb d_Ref_trap_106 (by decide) ?_
          refine lv_istore (lv' := [(7, .int (1 : Int32)), (5, .long (f_Ref_unsigned p0)), (3, .long (f_Ref_unsigned (rg (ix ra)))), (2, .int (rg (ix ra))), (0, .ref aT), (1, .int p0)]) hx hb d_Ref_trap_110 hl (by decide) rfl (fun ls hl => ?_)
          refine lv_iload hx hb d_Ref_trap_112 (lv_at hl 0 rfl) ?_
          refine lv_if_eq (tgt := 126) hx hb d_Ref_trap_114 (by decide) (fun h57 => ?_) (fun h57 => ?_)
          · exact absurd h57 (by decide)
          refine lv_aload_n hx hb d_Ref_trap_117 rfl (lv_at hl 4 rfl) ?_
          refine lv_sipush (v := (1792 : Int32)) hx hb d_Ref_trap_118 (by decide) ?_
          refine lv_ldc (v := (131072 : Int32)) hx hb hown (hB _ mw_773) d_Ref_trap_121 ?_
          let t58 := (f_Ref_exception (1792 : Int32) (131072 : Int32) rs)
          refine k_cVv (As := [.int (1792 : Int32), .int (131072 : Int32)]) (rest := []) (wr := []) (wj := [(aT, .inr (11, [.ref bG, .ref bS, .ref bM, .int t58.2.1, .int rk, .int rr, .int re, .int rc, .int rd, .int ra, .int rb, .int t58.2.2.1, .int t58.2.2.2, .int rw])), (bG, .inl (dG, 32, .inl rg)), (bS, .inl (dS, 48, .inl t58.1)), (bM, .inl (dM, 16384, .inl rm))]) ⟨hx, hb, hml, hown, hB⟩ (c_Ref_exception l D aT bG bS bM dG dS dM rg rs rm rl rk rr re rc rd ra rb rn rf rw (1792 : Int32) (131072 : Int32)) yl_Ref_exception mw_748 hK hN hP hD hS hA [0, 1, 2] [0, 1, 2, 3] [] [0, 1, 2, 3] rfl rfl rfl rfl (by decide +kernel) 0 rfl rfl rfl rfl hl.1 rfl (Nat.le_of_ble_eq_true rfl) ⟨Nat.le_of_ble_eq_true rfl, Nat.le_of_ble_eq_true rfl⟩ d_Ref_trap_123 ⟨Nat.le_of_ble_eq_true rfl, Nat.le_of_ble_eq_true rfl⟩ (fun H locs hP hD hS => ?_)
          have ef : f_Ref_trap p0 rg rs rl rd ra rn rf = (t58.1, t58.2.1, t58.2.2.1, t58.2.2.2) := by unfold f_Ref_trap; try dsimp only; rw [if_pos h4, if_pos h8, if_neg h12, if_pos h56]
          exact k_vret hx hb hr hlocks hK hP hD hS [0, 1, 2, 3] rfl (by rw [ef] <;> rfl) d_Ref_trap_126
        · refine lv_aload_n hx hb d_Ref_trap_69 rfl (lv_at hl 3 rfl) ?_
          refine va_get (D := D) (ci := 11) (v := .int rd) (C := "MappedProcessorModel") (T := T_Ref) (N := 14) hx hb hB iw_Ref hown hK hP 0 rfl rfl 8 (by decide) (hB _ mw_651) (fun _ h9 => h9) rfl d_Ref_trap_70 ?_
          refine lv_iconst (v := (1 : Int32)) hx hb d_Ref_trap_73 (by decide) ?_
          refine k_cSi (As := [.int rd, .int (1 : Int32)]) (rest := []) (wr := [(aT, .inr (11, [.ref bG, .ref bS, .ref bM, .int rl, .int rk, .int rr, .int re, .int rc, .int rd, .int ra, .int rb, .int rn, .int rf, .int rw])), (bG, .inl (dG, 32, .inl rg)), (bS, .inl (dS, 48, .inl rs)), (bM, .inl (dM, 16384, .inl rm))]) (wj := [(aT, .inr (11, [.ref bG, .ref bS, .ref bM, .int rl, .int rk, .int rr, .int re, .int rc, .int rd, .int ra, .int rb, .int rn, .int rf, .int rw])), (bG, .inl (dG, 32, .inl rg)), (bS, .inl (dS, 48, .inl rs)), (bM, .inl (dM, 16384, .inl rm))]) ⟨hx, hb, hml, hown, hB⟩ (c_Ref_bit l D rd (1 : Int32)) yl_Ref_bit mw_725 hK hN hP hD hS hA [] [] [0, 1, 2, 3] [0, 1, 2, 3] rfl rfl rfl rfl (by decide +kernel) rfl hl.1 rfl (Nat.le_of_ble_eq_true rfl) ⟨Nat.le_of_ble_eq_true rfl, Nat.le_of_ble_eq_true rfl⟩ d_Ref_trap_74 ⟨Nat.le_of_ble_eq_true rfl, Nat.le_of_ble_eq_true rfl⟩ (fun H locs hP hD hS => ?_)
          refine lv_if_eq (tgt := 87) hx hb d_Ref_trap_77 (by decide) (fun (h62 : (f_Ref_bit rd (1 : Int32)) = (0 : Int32)) => ?_) (fun (h62 : ¬ (f_Ref_bit rd (1 : Int32)) = (0 : Int32)) => ?_)
          · refine lv_aload_n hx hb d_Ref_trap_87 rfl (lv_at hl 3 rfl) ?_
            refine va_get (D := D) (ci := 11) (v := .int rd) (C := "MappedProcessorModel") (T := T_Ref) (N := 14) hx hb hB iw_Ref hown hK hP 0 rfl rfl 8 (by decide) (hB _ mw_651) (fun _ h9 => h9) rfl d_Ref_trap_88 ?_
            refine lv_iconst (v := (0 : Int32)) hx hb d_Ref_trap_91 (by decide) ?_
            refine k_cSi (As := [.int rd, .int (0 : Int32)]) (rest := []) (wr := [(aT, .inr (11, [.ref bG, .ref bS, .ref bM, .int rl, .int rk, .int rr, .int re, .int rc, .int rd, .int ra, .int rb, .int rn, .int rf, .int rw])), (bG, .inl (dG, 32, .inl rg)), (bS, .inl (dS, 48, .inl rs)), (bM, .inl (dM, 16384, .inl rm))]) (wj := [(aT, .inr (11, [.ref bG, .ref bS, .ref bM, .int rl, .int rk, .int rr, .int re, .int rc, .int rd, .int ra, .int rb, .int rn, .int rf, .int rw])), (bG, .inl (dG, 32, .inl rg)), (bS, .inl (dS, 48, .inl rs)), (bM, .inl (dM, 16384, .inl rm))]) ⟨hx, hb, hml, hown, hB⟩ (c_Ref_bit l D rd (0 : Int32)) yl_Ref_bit mw_725 hK hN hP hD hS hA [] [] [0, 1, 2, 3] [0, 1, 2, 3] rfl rfl rfl rfl (by decide +kernel) rfl hl.1 rfl (Nat.le_of_ble_eq_true rfl) ⟨Nat.le_of_ble_eq_true rfl, Nat.le_of_ble_eq_true rfl⟩ d_Ref_trap_92 ⟨Nat.le_of_ble_eq_true rfl, Nat.le_of_ble_eq_true rfl⟩ (fun H locs hP hD hS => ?_)
            refine k_join2 (c0 := (f_Ref_bit rd (0 : Int32)) = (0 : Int32)) (x1 := (0 : Int32)) (x2 := (if (lg_cmp (f_Ref_unsigned (rg (ix ra))) (f_Ref_unsigned p0)) ≤ (0 : Int32) then (0 : Int32) else (1 : Int32))) (rest := []) 110 ?_ (fun k64 k65 => ?_)
            rotate_left
            · refine lv_if_eq (tgt := 109) hx hb d_Ref_trap_95 (by decide) (fun (h63 : (f_Ref_bit rd (0 : Int32)) = (0 : Int32)) => ?_) (fun (h63 : ¬ (f_Ref_bit rd (0 : Int32)) = (0 : Int32)) => ?_)
              · refine lv_iconst (v := (0 : Int32)) hx hb d_Ref_trap_109 (by decide) ?_
                exact k64 h63
              · refine lv_lload_n hx hb d_Ref_trap_98 rfl (lv_at hl 1 rfl) ?_
                refine lv_lload hx hb d_Ref_trap_99 (lv_at hl 0 rfl) ?_
                refine W.lcmp hx hb d_Ref_trap_101 ?_
                refine k_join2 (c0 := (lg_cmp (f_Ref_unsigned (rg (ix ra))) (f_Ref_unsigned p0)) ≤ (0 : Int32)) (x1 := (0 : Int32)) (x2 := (1 : Int32)) (rest := []) 110 ?_ (fun k67 k68 => ?_)
                rotate_left
                · refine lv_if_le (tgt := 109) hx hb d_Ref_trap_102 (by decide) (fun (h66 : (lg_cmp (f_Ref_unsigned (rg (ix ra))) (f_Ref_unsigned p0)) ≤ (0 : Int32)) => ?_) (fun (h66 : ¬ (lg_cmp (f_Ref_unsigned (rg (ix ra))) (f_Ref_unsigned p0)) ≤ (0 : Int32)) => ?_)
                  · refine lv_iconst (v := (0 : Int32)) hx hb d_Ref_trap_109 (by decide) ?_
                    exact k67 h66
                  · refine lv_iconst (v := (1 : Int32)) hx hb d_Ref_trap_105 (by decide) ?_
                    refine lv_goto (tgt := 110) hx hb d_Ref_trap_106 (by decide) ?_
                    exact k68 h66
                exact k65 h63
            refine lv_istore (lv' := [(7, .int (if (f_Ref_bit rd (0 : Int32)) = (0 : Int32) then (0 : Int32) else (if (lg_cmp (f_Ref_unsigned (rg (ix ra))) (f_Ref_unsigned p0)) ≤ (0 : Int32) then (0 : Int32) else (1 : Int32)))), (5, .long (f_Ref_unsigned p0)), (3, .long (f_Ref_unsigned (rg (ix ra)))), (2, .int (rg (ix ra))), (0, .ref aT), (1, .int p0)]) hx hb d_Ref_trap_110 hl (by decide) rfl (fun ls hl => ?_)
            refine lv_iload hx hb d_Ref_trap_112 (lv_at hl 0 rfl) ?_
            refine lv_if_eq (tgt := 126) hx hb d_Ref_trap_114 (by decide) (fun (h76 : (if (f_Ref_bit rd (0 : Int32)) = (0 : Int32) then (0 : Int32) else (if (lg_cmp (f_Ref_unsigned (rg (ix ra))) (f_Ref_unsigned p0)) ≤ (0 : Int32) then (0 : Int32) else (1 : Int32))) = (0 : Int32)) => ?_) (fun (h76 : ¬ (if (f_Ref_bit rd (0 : Int32)) = (0 : Int32) then (0 : Int32) else (if (lg_cmp (f_Ref_unsigned (rg (ix ra))) (f_Ref_unsigned p0)) ≤ (0 : Int32) then (0 : Int32) else (1 : Int32))) = (0 : Int32)) => ?_)
            · have ef : f_Ref_trap p0 rg rs rl rd ra rn rf = (rs, rl, rn, rf) := by unfold f_Ref_trap; try dsimp only; rw [if_pos h4, if_pos h8, if_neg h12, if_neg h56, if_pos h62, if_pos h76]
              exact k_vret hx hb hr hlocks hK hP hD hS [0, 1, 2, 3] rfl (by rw [ef] <;> rfl) d_Ref_trap_126
            · refine lv_aload_n hx hb d_Ref_trap_117 rfl (lv_at hl 4 rfl) ?_
              refine lv_sipush (v := (1792 : Int32)) hx hb d_Ref_trap_118 (by decide) ?_
              refine lv_ldc (v := (131072 : Int32)) hx hb hown (hB _ mw_773) d_Ref_trap_121 ?_
              let t77 := (f_Ref_exception (1792 : Int32) (131072 : Int32) rs)
              refine k_cVv (As := [.int (1792 : Int32), .int (131072 : Int32)]) (rest := []) (wr := []) (wj := [(aT, .inr (11, [.ref bG, .ref bS, .ref bM, .int t77.2.1, .int rk, .int rr, .int re, .int rc, .int rd, .int ra, .int rb, .int t77.2.2.1, .int t77.2.2.2, .int rw])), (bG, .inl (dG, 32, .inl rg)), (bS, .inl (dS, 48, .inl t77.1)), (bM, .inl (dM, 16384, .inl rm))]) ⟨hx, hb, hml, hown, hB⟩ (c_Ref_exception l D aT bG bS bM dG dS dM rg rs rm rl rk rr re rc rd ra rb rn rf rw (1792 : Int32) (131072 : Int32)) yl_Ref_exception mw_748 hK hN hP hD hS hA [0, 1, 2] [0, 1, 2, 3] [] [0, 1, 2, 3] rfl rfl rfl rfl (by decide +kernel) 0 rfl rfl rfl rfl hl.1 rfl (Nat.le_of_ble_eq_true rfl) ⟨Nat.le_of_ble_eq_true rfl, Nat.le_of_ble_eq_true rfl⟩ d_Ref_trap_123 ⟨Nat.le_of_ble_eq_true rfl, Nat.le_of_ble_eq_true rfl⟩ (fun H locs hP hD hS => ?_)
              have ef : f_Ref_trap p0 rg rs rl rd ra rn rf = (t77.1, t77.2.1, t77.2.2.1, t77.2.2.2) := by unfold f_Ref_trap; try dsimp only; rw [if_pos h4, if_pos h8, if_neg h12, if_neg h56, if_pos h62, if_neg h76]
              exact k_vret hx hb hr hlocks hK hP hD hS [0, 1, 2, 3] rfl (by rw [ef] <;> rfl) d_Ref_trap_126
          · refine lv_lload_n hx hb d_Ref_trap_80 rfl (lv_at hl 1 rfl) ?_
            refine lv_lload hx hb d_Ref_trap_81 (lv_at hl 0 rfl) ?_
            refine W.lcmp hx hb d_Ref_trap_83 ?_
            refine lv_if_lt (tgt := 105) hx hb d_Ref_trap_84 (by decide) (fun (h81 : (lg_cmp (f_Ref_unsigned (rg (ix ra))) (f_Ref_unsigned p0)) < (0 : Int32)) => ?_) (fun (h81 : ¬ (lg_cmp (f_Ref_unsigned (rg (ix ra))) (f_Ref_unsigned p0)) < (0 : Int32)) => ?_)
            · refine lv_iconst (v := (1 : Int32)) hx hb d_Ref_trap_105 (by decide) ?_
              refine lv_goto (tgt := 110) hx hb d_Ref_trap_106 (by decide) ?_
              refine lv_istore (lv' := [(7, .int (1 : Int32)), (5, .long (f_Ref_unsigned p0)), (3, .long (f_Ref_unsigned (rg (ix ra)))), (2, .int (rg (ix ra))), (0, .ref aT), (1, .int p0)]) hx hb d_Ref_trap_110 hl (by decide) rfl (fun ls hl => ?_)
              refine lv_iload hx hb d_Ref_trap_112 (lv_at hl 0 rfl) ?_
              refine lv_if_eq (tgt := 126) hx hb d_Ref_trap_114 (by decide) (fun h82 => ?_) (fun h82 => ?_)
              · exact absurd h82 (by decide)
              refine lv_aload_n hx hb d_Ref_trap_117 rfl (lv_at hl 4 rfl) ?_
              refine lv_sipush (v := (1792 : Int32)) hx hb d_Ref_trap_118 (by decide) ?_
              refine lv_ldc (v := (131072 : Int32)) hx hb hown (hB _ mw_773) d_Ref_trap_121 ?_
              let t83 := (f_Ref_exception (1792 : Int32) (131072 : Int32) rs)
              refine k_cVv (As := [.int (1792 : Int32), .int (131072 : Int32)]) (rest := []) (wr := []) (wj := [(aT, .inr (11, [.ref bG, .ref bS, .ref bM, .int t83.2.1, .int rk, .int rr, .int re, .int rc, .int rd, .int ra, .int rb, .int t83.2.2.1, .int t83.2.2.2, .int rw])), (bG, .inl (dG, 32, .inl rg)), (bS, .inl (dS, 48, .inl t83.1)), (bM, .inl (dM, 16384, .inl rm))]) ⟨hx, hb, hml, hown, hB⟩ (c_Ref_exception l D aT bG bS bM dG dS dM rg rs rm rl rk rr re rc rd ra rb rn rf rw (1792 : Int32) (131072 : Int32)) yl_Ref_exception mw_748 hK hN hP hD hS hA [0, 1, 2] [0, 1, 2, 3] [] [0, 1, 2, 3] rfl rfl rfl rfl (by decide +kernel) 0 rfl rfl rfl rfl hl.1 rfl (Nat.le_of_ble_eq_true rfl) ⟨Nat.le_of_ble_eq_true rfl, Nat.le_of_ble_eq_true rfl⟩ d_Ref_trap_123 ⟨Nat.le_of_ble_eq_true rfl, Nat.le_of_ble_eq_true rfl⟩ (fun H locs hP hD hS => ?_)
              have ef : f_Ref_trap p0 rg rs rl rd ra rn rf = (t83.1, t83.2.1, t83.2.2.1, t83.2.2.2) := by unfold f_Ref_trap; try dsimp only; rw [if_pos h4, if_pos h8, if_neg h12, if_neg h56, if_neg h62, if_pos h81]
              exact k_vret hx hb hr hlocks hK hP hD hS [0, 1, 2, 3] rfl (by rw [ef] <;> rfl) d_Ref_trap_126
            · refine lv_aload_n hx hb d_Ref_trap_87 rfl (lv_at hl 3 rfl) ?_
              refine va_get (D := D) (ci := 11) (v := .int rd) (C := "MappedProcessorModel") (T := T_Ref) (N := 14) hx hb hB iw_Ref hown hK hP 0 rfl rfl 8 (by decide) (hB _ mw_651) (fun _ h9 => h9) rfl d_Ref_trap_88 ?_
              refine lv_iconst (v := (0 : Int32)) hx hb d_Ref_trap_91 (by decide) ?_
              refine k_cSi (As := [.int rd, .int (0 : Int32)]) (rest := []) (wr := [(aT, .inr (11, [.ref bG, .ref bS, .ref bM, .int rl, .int rk, .int rr, .int re, .int rc, .int rd, .int ra, .int rb, .int rn, .int rf, .int rw])), (bG, .inl (dG, 32, .inl rg)), (bS, .inl (dS, 48, .inl rs)), (bM, .inl (dM, 16384, .inl rm))]) (wj := [(aT, .inr (11, [.ref bG, .ref bS, .ref bM, .int rl, .int rk, .int rr, .int re, .int rc, .int rd, .int ra, .int rb, .int rn, .int rf, .int rw])), (bG, .inl (dG, 32, .inl rg)), (bS, .inl (dS, 48, .inl rs)), (bM, .inl (dM, 16384, .inl rm))]) ⟨hx, hb, hml, hown, hB⟩ (c_Ref_bit l D rd (0 : Int32)) yl_Ref_bit mw_725 hK hN hP hD hS hA [] [] [0, 1, 2, 3] [0, 1, 2, 3] rfl rfl rfl rfl (by decide +kernel) rfl hl.1 rfl (Nat.le_of_ble_eq_true rfl) ⟨Nat.le_of_ble_eq_true rfl, Nat.le_of_ble_eq_true rfl⟩ d_Ref_trap_92 ⟨Nat.le_of_ble_eq_true rfl, Nat.le_of_ble_eq_true rfl⟩ (fun H locs hP hD hS => ?_)
              refine k_join2 (c0 := (f_Ref_bit rd (0 : Int32)) = (0 : Int32)) (x1 := (0 : Int32)) (x2 := (if (lg_cmp (f_Ref_unsigned (rg (ix ra))) (f_Ref_unsigned p0)) ≤ (0 : Int32) then (0 : Int32) else (1 : Int32))) (rest := []) 110 ?_ (fun k85 k86 => ?_)
              rotate_left
              · refine lv_if_eq (tgt := 109) hx hb d_Ref_trap_95 (by decide) (fun (h84 : (f_Ref_bit rd (0 : Int32)) = (0 : Int32)) => ?_) (fun (h84 : ¬ (f_Ref_bit rd (0 : Int32)) = (0 : Int32)) => ?_)
                · refine lv_iconst (v := (0 : Int32)) hx hb d_Ref_trap_109 (by decide) ?_
                  exact k85 h84
                · refine lv_lload_n hx hb d_Ref_trap_98 rfl (lv_at hl 1 rfl) ?_
                  refine lv_lload hx hb d_Ref_trap_99 (lv_at hl 0 rfl) ?_
                  refine W.lcmp hx hb d_Ref_trap_101 ?_
                  refine k_join2 (c0 := (lg_cmp (f_Ref_unsigned (rg (ix ra))) (f_Ref_unsigned p0)) ≤ (0 : Int32)) (x1 := (0 : Int32)) (x2 := (1 : Int32)) (rest := []) 110 ?_ (fun k88 k89 => ?_)
                  rotate_left
                  · refine lv_if_le (tgt := 109) hx hb d_Ref_trap_102 (by decide) (fun (h87 : (lg_cmp (f_Ref_unsigned (rg (ix ra))) (f_Ref_unsigned p0)) ≤ (0 : Int32)) => ?_) (fun (h87 : ¬ (lg_cmp (f_Ref_unsigned (rg (ix ra))) (f_Ref_unsigned p0)) ≤ (0 : Int32)) => ?_)
                    · refine lv_iconst (v := (0 : Int32)) hx hb d_Ref_trap_109 (by decide) ?_
                      exact k88 h87
                    · refine lv_iconst (v := (1 : Int32)) hx hb d_Ref_trap_105 (by decide) ?_
                      refine lv_goto (tgt := 110) hx hb d_Ref_trap_106 (by decide) ?_
                      exact k89 h87
                  exact k86 h84
              refine lv_istore (lv' := [(7, .int (if (f_Ref_bit rd (0 : Int32)) = (0 : Int32) then (0 : Int32) else (if (lg_cmp (f_Ref_unsigned (rg (ix ra))) (f_Ref_unsigned p0)) ≤ (0 : Int32) then (0 : Int32) else (1 : Int32)))), (5, .long (f_Ref_unsigned p0)), (3, .long (f_Ref_unsigned (rg (ix ra)))), (2, .int (rg (ix ra))), (0, .ref aT), (1, .int p0)]) hx hb d_Ref_trap_110 hl (by decide) rfl (fun ls hl => ?_)
              refine lv_iload hx hb d_Ref_trap_112 (lv_at hl 0 rfl) ?_
              refine lv_if_eq (tgt := 126) hx hb d_Ref_trap_114 (by decide) (fun (h97 : (if (f_Ref_bit rd (0 : Int32)) = (0 : Int32) then (0 : Int32) else (if (lg_cmp (f_Ref_unsigned (rg (ix ra))) (f_Ref_unsigned p0)) ≤ (0 : Int32) then (0 : Int32) else (1 : Int32))) = (0 : Int32)) => ?_) (fun (h97 : ¬ (if (f_Ref_bit rd (0 : Int32)) = (0 : Int32) then (0 : Int32) else (if (lg_cmp (f_Ref_unsigned (rg (ix ra))) (f_Ref_unsigned p0)) ≤ (0 : Int32) then (0 : Int32) else (1 : Int32))) = (0 : Int32)) => ?_)
              · have ef : f_Ref_trap p0 rg rs rl rd ra rn rf = (rs, rl, rn, rf) := by unfold f_Ref_trap; try dsimp only; rw [if_pos h4, if_pos h8, if_neg h12, if_neg h56, if_neg h62, if_neg h81, if_pos h97]
                exact k_vret hx hb hr hlocks hK hP hD hS [0, 1, 2, 3] rfl (by rw [ef] <;> rfl) d_Ref_trap_126
              · refine lv_aload_n hx hb d_Ref_trap_117 rfl (lv_at hl 4 rfl) ?_
                refine lv_sipush (v := (1792 : Int32)) hx hb d_Ref_trap_118 (by decide) ?_
                refine lv_ldc (v := (131072 : Int32)) hx hb hown (hB _ mw_773) d_Ref_trap_121 ?_
                let t98 := (f_Ref_exception (1792 : Int32) (131072 : Int32) rs)
                refine k_cVv (As := [.int (1792 : Int32), .int (131072 : Int32)]) (rest := []) (wr := []) (wj := [(aT, .inr (11, [.ref bG, .ref bS, .ref bM, .int t98.2.1, .int rk, .int rr, .int re, .int rc, .int rd, .int ra, .int rb, .int t98.2.2.1, .int t98.2.2.2, .int rw])), (bG, .inl (dG, 32, .inl rg)), (bS, .inl (dS, 48, .inl t98.1)), (bM, .inl (dM, 16384, .inl rm))]) ⟨hx, hb, hml, hown, hB⟩ (c_Ref_exception l D aT bG bS bM dG dS dM rg rs rm rl rk rr re rc rd ra rb rn rf rw (1792 : Int32) (131072 : Int32)) yl_Ref_exception mw_748 hK hN hP hD hS hA [0, 1, 2] [0, 1, 2, 3] [] [0, 1, 2, 3] rfl rfl rfl rfl (by decide +kernel) 0 rfl rfl rfl rfl hl.1 rfl (Nat.le_of_ble_eq_true rfl) ⟨Nat.le_of_ble_eq_true rfl, Nat.le_of_ble_eq_true rfl⟩ d_Ref_trap_123 ⟨Nat.le_of_ble_eq_true rfl, Nat.le_of_ble_eq_true rfl⟩ (fun H locs hP hD hS => ?_)
                have ef : f_Ref_trap p0 rg rs rl rd ra rn rf = (t98.1, t98.2.1, t98.2.2.1, t98.2.2.2) := by unfold f_Ref_trap; try dsimp only; rw [if_pos h4, if_pos h8, if_neg h12, if_neg h56, if_neg h62, if_neg h81, if_neg h97]
                exact k_vret hx hb hr hlocks hK hP hD hS [0, 1, 2, 3] rfl (by rw [ef] <;> rfl) d_Ref_trap_126
    · refine lv_iload_n hx hb d_Ref_trap_48 rfl (lv_at hl 2 rfl) ?_
      refine lv_iload_n hx hb d_Ref_trap_49 rfl (lv_at hl 4 rfl) ?_
      refine lv_icmp_gt (tgt := 105) hx hb d_Ref_trap_50 (by decide) (fun (h102 : p0 < (rg (ix ra))) => ?_) (fun (h102 : ¬ p0 < (rg (ix ra))) => ?_)
      · refine lv_iconst (v := (1 : Int32)) hx hb d_Ref_trap_105 (by decide) ?_
        refine lv_goto (tgt := 110) hx hb d_Ref_trap_106 (by decide) ?_
        refine lv_istore (lv' := [(7, .int (1 : Int32)), (5, .long (f_Ref_unsigned p0)), (3, .long (f_Ref_unsigned (rg (ix ra)))), (2, .int (rg (ix ra))), (0, .ref aT), (1, .int p0)]) hx hb d_Ref_trap_110 hl (by decide) rfl (fun ls hl => ?_)
        refine lv_iload hx hb d_Ref_trap_112 (lv_at hl 0 rfl) ?_
        refine lv_if_eq (tgt := 126) hx hb d_Ref_trap_114 (by decide) (fun h103 => ?_) (fun h103 => ?_)
        · exact absurd h103 (by decide)
        refine lv_aload_n hx hb d_Ref_trap_117 rfl (lv_at hl 4 rfl) ?_
        refine lv_sipush (v := (1792 : Int32)) hx hb d_Ref_trap_118 (by decide) ?_
        refine lv_ldc (v := (131072 : Int32)) hx hb hown (hB _ mw_773) d_Ref_trap_121 ?_
        let t104 := (f_Ref_exception (1792 : Int32) (131072 : Int32) rs)
        refine k_cVv (As := [.int (1792 : Int32), .int (131072 : Int32)]) (rest := []) (wr := []) (wj := [(aT, .inr (11, [.ref bG, .ref bS, .ref bM, .int t104.2.1, .int rk, .int rr, .int re, .int rc, .int rd, .int ra, .int rb, .int t104.2.2.1, .int t104.2.2.2, .int rw])), (bG, .inl (dG, 32, .inl rg)), (bS, .inl (dS, 48, .inl t104.1)), (bM, .inl (dM, 16384, .inl rm))]) ⟨hx, hb, hml, hown, hB⟩ (c_Ref_exception l D aT bG bS bM dG dS dM rg rs rm rl rk rr re rc rd ra rb rn rf rw (1792 : Int32) (131072 : Int32)) yl_Ref_exception mw_748 hK hN hP hD hS hA [0, 1, 2] [0, 1, 2, 3] [] [0, 1, 2, 3] rfl rfl rfl rfl (by decide +kernel) 0 rfl rfl rfl rfl hl.1 rfl (Nat.le_of_ble_eq_true rfl) ⟨Nat.le_of_ble_eq_true rfl, Nat.le_of_ble_eq_true rfl⟩ d_Ref_trap_123 ⟨Nat.le_of_ble_eq_true rfl, Nat.le_of_ble_eq_true rfl⟩ (fun H locs hP hD hS => ?_)
        have ef : f_Ref_trap p0 rg rs rl rd ra rn rf = (t104.1, t104.2.1, t104.2.2.1, t104.2.2.2) := by unfold f_Ref_trap; try dsimp only; rw [if_pos h4, if_neg h8, if_pos h102]
        exact k_vret hx hb hr hlocks hK hP hD hS [0, 1, 2, 3] rfl (by rw [ef] <;> rfl) d_Ref_trap_126
      · refine lv_aload_n hx hb d_Ref_trap_53 rfl (lv_at hl 3 rfl) ?_
        refine va_get (D := D) (ci := 11) (v := .int rd) (C := "MappedProcessorModel") (T := T_Ref) (N := 14) hx hb hB iw_Ref hown hK hP 0 rfl rfl 8 (by decide) (hB _ mw_651) (fun _ h9 => h9) rfl d_Ref_trap_54 ?_
        refine lv_iconst (v := (2 : Int32)) hx hb d_Ref_trap_57 (by decide) ?_
        refine k_cSi (As := [.int rd, .int (2 : Int32)]) (rest := []) (wr := [(aT, .inr (11, [.ref bG, .ref bS, .ref bM, .int rl, .int rk, .int rr, .int re, .int rc, .int rd, .int ra, .int rb, .int rn, .int rf, .int rw])), (bG, .inl (dG, 32, .inl rg)), (bS, .inl (dS, 48, .inl rs)), (bM, .inl (dM, 16384, .inl rm))]) (wj := [(aT, .inr (11, [.ref bG, .ref bS, .ref bM, .int rl, .int rk, .int rr, .int re, .int rc, .int rd, .int ra, .int rb, .int rn, .int rf, .int rw])), (bG, .inl (dG, 32, .inl rg)), (bS, .inl (dS, 48, .inl rs)), (bM, .inl (dM, 16384, .inl rm))]) ⟨hx, hb, hml, hown, hB⟩ (c_Ref_bit l D rd (2 : Int32)) yl_Ref_bit mw_725 hK hN hP hD hS hA [] [] [0, 1, 2, 3] [0, 1, 2, 3] rfl rfl rfl rfl (by decide +kernel) rfl hl.1 rfl (Nat.le_of_ble_eq_true rfl) ⟨Nat.le_of_ble_eq_true rfl, Nat.le_of_ble_eq_true rfl⟩ d_Ref_trap_58 ⟨Nat.le_of_ble_eq_true rfl, Nat.le_of_ble_eq_true rfl⟩ (fun H locs hP hD hS => ?_)
        refine lv_if_eq (tgt := 69) hx hb d_Ref_trap_61 (by decide) (fun (h108 : (f_Ref_bit rd (2 : Int32)) = (0 : Int32)) => ?_) (fun (h108 : ¬ (f_Ref_bit rd (2 : Int32)) = (0 : Int32)) => ?_)
        · refine lv_aload_n hx hb d_Ref_trap_69 rfl (lv_at hl 3 rfl) ?_
          refine va_get (D := D) (ci := 11) (v := .int rd) (C := "MappedProcessorModel") (T := T_Ref) (N := 14) hx hb hB iw_Ref hown hK hP 0 rfl rfl 8 (by decide) (hB _ mw_651) (fun _ h9 => h9) rfl d_Ref_trap_70 ?_
          refine lv_iconst (v := (1 : Int32)) hx hb d_Ref_trap_73 (by decide) ?_
          refine k_cSi (As := [.int rd, .int (1 : Int32)]) (rest := []) (wr := [(aT, .inr (11, [.ref bG, .ref bS, .ref bM, .int rl, .int rk, .int rr, .int re, .int rc, .int rd, .int ra, .int rb, .int rn, .int rf, .int rw])), (bG, .inl (dG, 32, .inl rg)), (bS, .inl (dS, 48, .inl rs)), (bM, .inl (dM, 16384, .inl rm))]) (wj := [(aT, .inr (11, [.ref bG, .ref bS, .ref bM, .int rl, .int rk, .int rr, .int re, .int rc, .int rd, .int ra, .int rb, .int rn, .int rf, .int rw])), (bG, .inl (dG, 32, .inl rg)), (bS, .inl (dS, 48, .inl rs)), (bM, .inl (dM, 16384, .inl rm))]) ⟨hx, hb, hml, hown, hB⟩ (c_Ref_bit l D rd (1 : Int32)) yl_Ref_bit mw_725 hK hN hP hD hS hA [] [] [0, 1, 2, 3] [0, 1, 2, 3] rfl rfl rfl rfl (by decide +kernel) rfl hl.1 rfl (Nat.le_of_ble_eq_true rfl) ⟨Nat.le_of_ble_eq_true rfl, Nat.le_of_ble_eq_true rfl⟩ d_Ref_trap_74 ⟨Nat.le_of_ble_eq_true rfl, Nat.le_of_ble_eq_true rfl⟩ (fun H locs hP hD hS => ?_)
          refine lv_if_eq (tgt := 87) hx hb d_Ref_trap_77 (by decide) (fun (h112 : (f_Ref_bit rd (1 : Int32)) = (0 : Int32)) => ?_) (fun (h112 : ¬ (f_Ref_bit rd (1 : Int32)) = (0 : Int32)) => ?_)
          · refine lv_aload_n hx hb d_Ref_trap_87 rfl (lv_at hl 3 rfl) ?_
            refine va_get (D := D) (ci := 11) (v := .int rd) (C := "MappedProcessorModel") (T := T_Ref) (N := 14) hx hb hB iw_Ref hown hK hP 0 rfl rfl 8 (by decide) (hB _ mw_651) (fun _ h9 => h9) rfl d_Ref_trap_88 ?_
            refine lv_iconst (v := (0 : Int32)) hx hb d_Ref_trap_91 (by decide) ?_
            refine k_cSi (As := [.int rd, .int (0 : Int32)]) (rest := []) (wr := [(aT, .inr (11, [.ref bG, .ref bS, .ref bM, .int rl, .int rk, .int rr, .int re, .int rc, .int rd, .int ra, .int rb, .int rn, .int rf, .int rw])), (bG, .inl (dG, 32, .inl rg)), (bS, .inl (dS, 48, .inl rs)), (bM, .inl (dM, 16384, .inl rm))]) (wj := [(aT, .inr (11, [.ref bG, .ref bS, .ref bM, .int rl, .int rk, .int rr, .int re, .int rc, .int rd, .int ra, .int rb, .int rn, .int rf, .int rw])), (bG, .inl (dG, 32, .inl rg)), (bS, .inl (dS, 48, .inl rs)), (bM, .inl (dM, 16384, .inl rm))]) ⟨hx, hb, hml, hown, hB⟩ (c_Ref_bit l D rd (0 : Int32)) yl_Ref_bit mw_725 hK hN hP hD hS hA [] [] [0, 1, 2, 3] [0, 1, 2, 3] rfl rfl rfl rfl (by decide +kernel) rfl hl.1 rfl (Nat.le_of_ble_eq_true rfl) ⟨Nat.le_of_ble_eq_true rfl, Nat.le_of_ble_eq_true rfl⟩ d_Ref_trap_92 ⟨Nat.le_of_ble_eq_true rfl, Nat.le_of_ble_eq_true rfl⟩ (fun H locs hP hD hS => ?_)
            refine k_join2 (c0 := (f_Ref_bit rd (0 : Int32)) = (0 : Int32)) (x1 := (0 : Int32)) (x2 := (if (lg_cmp (f_Ref_unsigned (rg (ix ra))) (f_Ref_unsigned p0)) ≤ (0 : Int32) then (0 : Int32) else (1 : Int32))) (rest := []) 110 ?_ (fun k114 k115 => ?_)
            rotate_left
            · refine lv_if_eq (tgt := 109) hx hb d_Ref_trap_95 (by decide) (fun (h113 : (f_Ref_bit rd (0 : Int32)) = (0 : Int32)) => ?_) (fun (h113 : ¬ (f_Ref_bit rd (0 : Int32)) = (0 : Int32)) => ?_)
              · refine lv_iconst (v := (0 : Int32)) hx hb d_Ref_trap_109 (by decide) ?_
                exact k114 h113
              · refine lv_lload_n hx hb d_Ref_trap_98 rfl (lv_at hl 1 rfl) ?_
                refine lv_lload hx hb d_Ref_trap_99 (lv_at hl 0 rfl) ?_
                refine W.lcmp hx hb d_Ref_trap_101 ?_
                refine k_join2 (c0 := (lg_cmp (f_Ref_unsigned (rg (ix ra))) (f_Ref_unsigned p0)) ≤ (0 : Int32)) (x1 := (0 : Int32)) (x2 := (1 : Int32)) (rest := []) 110 ?_ (fun k117 k118 => ?_)
                rotate_left
                · refine lv_if_le (tgt := 109) hx hb d_Ref_trap_102 (by decide) (fun (h116 : (lg_cmp (f_Ref_unsigned (rg (ix ra))) (f_Ref_unsigned p0)) ≤ (0 : Int32)) => ?_) (fun (h116 : ¬ (lg_cmp (f_Ref_unsigned (rg (ix ra))) (f_Ref_unsigned p0)) ≤ (0 : Int32)) => ?_)
                  · refine lv_iconst (v := (0 : Int32)) hx hb d_Ref_trap_109 (by decide) ?_
                    exact k117 h116
                  · refine lv_iconst (v := (1 : Int32)) hx hb d_Ref_trap_105 (by decide) ?_
                    refine lv_goto (tgt := 110) hx hb d_Ref_trap_106 (by decide) ?_
                    exact k118 h116
                exact k115 h113
            refine lv_istore (lv' := [(7, .int (if (f_Ref_bit rd (0 : Int32)) = (0 : Int32) then (0 : Int32) else (if (lg_cmp (f_Ref_unsigned (rg (ix ra))) (f_Ref_unsigned p0)) ≤ (0 : Int32) then (0 : Int32) else (1 : Int32)))), (5, .long (f_Ref_unsigned p0)), (3, .long (f_Ref_unsigned (rg (ix ra)))), (2, .int (rg (ix ra))), (0, .ref aT), (1, .int p0)]) hx hb d_Ref_trap_110 hl (by decide) rfl (fun ls hl => ?_)
            refine lv_iload hx hb d_Ref_trap_112 (lv_at hl 0 rfl) ?_
            refine lv_if_eq (tgt := 126) hx hb d_Ref_trap_114 (by decide) (fun (h126 : (if (f_Ref_bit rd (0 : Int32)) = (0 : Int32) then (0 : Int32) else (if (lg_cmp (f_Ref_unsigned (rg (ix ra))) (f_Ref_unsigned p0)) ≤ (0 : Int32) then (0 : Int32) else (1 : Int32))) = (0 : Int32)) => ?_) (fun (h126 : ¬ (if (f_Ref_bit rd (0 : Int32)) = (0 : Int32) then (0 : Int32) else (if (lg_cmp (f_Ref_unsigned (rg (ix ra))) (f_Ref_unsigned p0)) ≤ (0 : Int32) then (0 : Int32) else (1 : Int32))) = (0 : Int32)) => ?_)
            · have ef : f_Ref_trap p0 rg rs rl rd ra rn rf = (rs, rl, rn, rf) := by unfold f_Ref_trap; try dsimp only; rw [if_pos h4, if_neg h8, if_neg h102, if_pos h108, if_pos h112, if_pos h126]
              exact k_vret hx hb hr hlocks hK hP hD hS [0, 1, 2, 3] rfl (by rw [ef] <;> rfl) d_Ref_trap_126
            · refine lv_aload_n hx hb d_Ref_trap_117 rfl (lv_at hl 4 rfl) ?_
              refine lv_sipush (v := (1792 : Int32)) hx hb d_Ref_trap_118 (by decide) ?_
              refine lv_ldc (v := (131072 : Int32)) hx hb hown (hB _ mw_773) d_Ref_trap_121 ?_
              let t127 := (f_Ref_exception (1792 : Int32) (131072 : Int32) rs)
              refine k_cVv (As := [.int (1792 : Int32), .int (131072 : Int32)]) (rest := []) (wr := []) (wj := [(aT, .inr (11, [.ref bG, .ref bS, .ref bM, .int t127.2.1, .int rk, .int rr, .int re, .int rc, .int rd, .int ra, .int rb, .int t127.2.2.1, .int t127.2.2.2, .int rw])), (bG, .inl (dG, 32, .inl rg)), (bS, .inl (dS, 48, .inl t127.1)), (bM, .inl (dM, 16384, .inl rm))]) ⟨hx, hb, hml, hown, hB⟩ (c_Ref_exception l D aT bG bS bM dG dS dM rg rs rm rl rk rr re rc rd ra rb rn rf rw (1792 : Int32) (131072 : Int32)) yl_Ref_exception mw_748 hK hN hP hD hS hA [0, 1, 2] [0, 1, 2, 3] [] [0, 1, 2, 3] rfl rfl rfl rfl (by decide +kernel) 0 rfl rfl rfl rfl hl.1 rfl (Nat.le_of_ble_eq_true rfl) ⟨Nat.le_of_ble_eq_true rfl, Nat.le_of_ble_eq_true rfl⟩ d_Ref_trap_123 ⟨Nat.le_of_ble_eq_true rfl, Nat.le_of_ble_eq_true rfl⟩ (fun H locs hP hD hS => ?_)
              have ef : f_Ref_trap p0 rg rs rl rd ra rn rf = (t127.1, t127.2.1, t127.2.2.1, t127.2.2.2) := by unfold f_Ref_trap; try dsimp only; rw [if_pos h4, if_neg h8, if_neg h102, if_pos h108, if_pos h112, if_neg h126]
              exact k_vret hx hb hr hlocks hK hP hD hS [0, 1, 2, 3] rfl (by rw [ef] <;> rfl) d_Ref_trap_126
          · refine lv_lload_n hx hb d_Ref_trap_80 rfl (lv_at hl 1 rfl) ?_
            refine lv_lload hx hb d_Ref_trap_81 (lv_at hl 0 rfl) ?_
            refine W.lcmp hx hb d_Ref_trap_83 ?_
            refine lv_if_lt (tgt := 105) hx hb d_Ref_trap_84 (by decide) (fun (h131 : (lg_cmp (f_Ref_unsigned (rg (ix ra))) (f_Ref_unsigned p0)) < (0 : Int32)) => ?_) (fun (h131 : ¬ (lg_cmp (f_Ref_unsigned (rg (ix ra))) (f_Ref_unsigned p0)) < (0 : Int32)) => ?_)
            · refine lv_iconst (v := (1 : Int32)) hx hb d_Ref_trap_105 (by decide) ?_
              refine lv_goto (tgt := 110) hx hb d_Ref_trap_106 (by decide) ?_
              refine lv_istore (lv' := [(7, .int (1 : Int32)), (5, .long (f_Ref_unsigned p0)), (3, .long (f_Ref_unsigned (rg (ix ra)))), (2, .int (rg (ix ra))), (0, .ref aT), (1, .int p0)]) hx hb d_Ref_trap_110 hl (by decide) rfl (fun ls hl => ?_)
              refine lv_iload hx hb d_Ref_trap_112 (lv_at hl 0 rfl) ?_
              refine lv_if_eq (tgt := 126) hx hb d_Ref_trap_114 (by decide) (fun h132 => ?_) (fun h132 => ?_)
              · exact absurd h132 (by decide)
              refine lv_aload_n hx hb d_Ref_trap_117 rfl (lv_at hl 4 rfl) ?_
              refine lv_sipush (v := (1792 : Int32)) hx hb d_Ref_trap_118 (by decide) ?_
              refine lv_ldc (v := (131072 : Int32)) hx hb hown (hB _ mw_773) d_Ref_trap_121 ?_
              let t133 := (f_Ref_exception (1792 : Int32) (131072 : Int32) rs)
              refine k_cVv (As := [.int (1792 : Int32), .int (131072 : Int32)]) (rest := []) (wr := []) (wj := [(aT, .inr (11, [.ref bG, .ref bS, .ref bM, .int t133.2.1, .int rk, .int rr, .int re, .int rc, .int rd, .int ra, .int rb, .int t133.2.2.1, .int t133.2.2.2, .int rw])), (bG, .inl (dG, 32, .inl rg)), (bS, .inl (dS, 48, .inl t133.1)), (bM, .inl (dM, 16384, .inl rm))]) ⟨hx, hb, hml, hown, hB⟩ (c_Ref_exception l D aT bG bS bM dG dS dM rg rs rm rl rk rr re rc rd ra rb rn rf rw (1792 : Int32) (131072 : Int32)) yl_Ref_exception mw_748 hK hN hP hD hS hA [0, 1, 2] [0, 1, 2, 3] [] [0, 1, 2, 3] rfl rfl rfl rfl (by decide +kernel) 0 rfl rfl rfl rfl hl.1 rfl (Nat.le_of_ble_eq_true rfl) ⟨Nat.le_of_ble_eq_true rfl, Nat.le_of_ble_eq_true rfl⟩ d_Ref_trap_123 ⟨Nat.le_of_ble_eq_true rfl, Nat.le_of_ble_eq_true rfl⟩ (fun H locs hP hD hS => ?_)
              have ef : f_Ref_trap p0 rg rs rl rd ra rn rf = (t133.1, t133.2.1, t133.2.2.1, t133.2.2.2) := by unfold f_Ref_trap; try dsimp only; rw [if_pos h4, if_neg h8, if_neg h102, if_pos h108, if_neg h112, if_pos h131]
              exact k_vret hx hb hr hlocks hK hP hD hS [0, 1, 2, 3] rfl (by rw [ef] <;> rfl) d_Ref_trap_126
            · refine lv_aload_n hx hb d_Ref_trap_87 rfl (lv_at hl 3 rfl) ?_
              refine va_get (D := D) (ci := 11) (v := .int rd) (C := "MappedProcessorModel") (T := T_Ref) (N := 14) hx hb hB iw_Ref hown hK hP 0 rfl rfl 8 (by decide) (hB _ mw_651) (fun _ h9 => h9) rfl d_Ref_trap_88 ?_
              refine lv_iconst (v := (0 : Int32)) hx hb d_Ref_trap_91 (by decide) ?_
              refine k_cSi (As := [.int rd, .int (0 : Int32)]) (rest := []) (wr := [(aT, .inr (11, [.ref bG, .ref bS, .ref bM, .int rl, .int rk, .int rr, .int re, .int rc, .int rd, .int ra, .int rb, .int rn, .int rf, .int rw])), (bG, .inl (dG, 32, .inl rg)), (bS, .inl (dS, 48, .inl rs)), (bM, .inl (dM, 16384, .inl rm))]) (wj := [(aT, .inr (11, [.ref bG, .ref bS, .ref bM, .int rl, .int rk, .int rr, .int re, .int rc, .int rd, .int ra, .int rb, .int rn, .int rf, .int rw])), (bG, .inl (dG, 32, .inl rg)), (bS, .inl (dS, 48, .inl rs)), (bM, .inl (dM, 16384, .inl rm))]) ⟨hx, hb, hml, hown, hB⟩ (c_Ref_bit l D rd (0 : Int32)) yl_Ref_bit mw_725 hK hN hP hD hS hA [] [] [0, 1, 2, 3] [0, 1, 2, 3] rfl rfl rfl rfl (by decide +kernel) rfl hl.1 rfl (Nat.le_of_ble_eq_true rfl) ⟨Nat.le_of_ble_eq_true rfl, Nat.le_of_ble_eq_true rfl⟩ d_Ref_trap_92 ⟨Nat.le_of_ble_eq_true rfl, Nat.le_of_ble_eq_true rfl⟩ (fun H locs hP hD hS => ?_)
              refine k_join2 (c0 := (f_Ref_bit rd (0 : Int32)) = (0 : Int32)) (x1 := (0 : Int32)) (x2 := (if (lg_cmp (f_Ref_unsigned (rg (ix ra))) (f_Ref_unsigned p0)) ≤ (0 : Int32) then (0 : Int32) else (1 : Int32))) (rest := []) 110 ?_ (fun k135 k136 => ?_)
              rotate_left
              · refine lv_if_eq (tgt := 109) hx hb d_Ref_trap_95 (by decide) (fun (h134 : (f_Ref_bit rd (0 : Int32)) = (0 : Int32)) => ?_) (fun (h134 : ¬ (f_Ref_bit rd (0 : Int32)) = (0 : Int32)) => ?_)
                · refine lv_iconst (v := (0 : Int32)) hx hb d_Ref_trap_109 (by decide) ?_
                  exact k135 h134
                · refine lv_lload_n hx hb d_Ref_trap_98 rfl (lv_at hl 1 rfl) ?_
                  refine lv_lload hx hb d_Ref_trap_99 (lv_at hl 0 rfl) ?_
                  refine W.lcmp hx hb d_Ref_trap_101 ?_
                  refine k_join2 (c0 := (lg_cmp (f_Ref_unsigned (rg (ix ra))) (f_Ref_unsigned p0)) ≤ (0 : Int32)) (x1 := (0 : Int32)) (x2 := (1 : Int32)) (rest := []) 110 ?_ (fun k138 k139 => ?_)
                  rotate_left
                  · refine lv_if_le (tgt := 109) hx hb d_Ref_trap_102 (by decide) (fun (h137 : (lg_cmp (f_Ref_unsigned (rg (ix ra))) (f_Ref_unsigned p0)) ≤ (0 : Int32)) => ?_) (fun (h137 : ¬ (lg_cmp (f_Ref_unsigned (rg (ix ra))) (f_Ref_unsigned p0)) ≤ (0 : Int32)) => ?_)
                    · refine lv_iconst (v := (0 : Int32)) hx hb d_Ref_trap_109 (by decide) ?_
                      exact k138 h137
                    · refine lv_iconst (v := (1 : Int32)) hx hb d_Ref_trap_105 (by decide) ?_
                      refine lv_goto (tgt := 110) hx hb d_Ref_trap_106 (by decide) ?_
                      exact k139 h137
                  exact k136 h134
              refine lv_istore (lv' := [(7, .int (if (f_Ref_bit rd (0 : Int32)) = (0 : Int32) then (0 : Int32) else (if (lg_cmp (f_Ref_unsigned (rg (ix ra))) (f_Ref_unsigned p0)) ≤ (0 : Int32) then (0 : Int32) else (1 : Int32)))), (5, .long (f_Ref_unsigned p0)), (3, .long (f_Ref_unsigned (rg (ix ra)))), (2, .int (rg (ix ra))), (0, .ref aT), (1, .int p0)]) hx hb d_Ref_trap_110 hl (by decide) rfl (fun ls hl => ?_)
              refine lv_iload hx hb d_Ref_trap_112 (lv_at hl 0 rfl) ?_
              refine lv_if_eq (tgt := 126) hx hb d_Ref_trap_114 (by decide) (fun (h147 : (if (f_Ref_bit rd (0 : Int32)) = (0 : Int32) then (0 : Int32) else (if (lg_cmp (f_Ref_unsigned (rg (ix ra))) (f_Ref_unsigned p0)) ≤ (0 : Int32) then (0 : Int32) else (1 : Int32))) = (0 : Int32)) => ?_) (fun (h147 : ¬ (if (f_Ref_bit rd (0 : Int32)) = (0 : Int32) then (0 : Int32) else (if (lg_cmp (f_Ref_unsigned (rg (ix ra))) (f_Ref_unsigned p0)) ≤ (0 : Int32) then (0 : Int32) else (1 : Int32))) = (0 : Int32)) => ?_)
              · have ef : f_Ref_trap p0 rg rs rl rd ra rn rf = (rs, rl, rn, rf) := by unfold f_Ref_trap; try dsimp only; rw [if_pos h4, if_neg h8, if_neg h102, if_pos h108, if_neg h112, if_neg h131, if_pos h147]
                exact k_vret hx hb hr hlocks hK hP hD hS [0, 1, 2, 3] rfl (by rw [ef] <;> rfl) d_Ref_trap_126
              · refine lv_aload_n hx hb d_Ref_trap_117 rfl (lv_at hl 4 rfl) ?_
                refine lv_sipush (v := (1792 : Int32)) hx hb d_Ref_trap_118 (by decide) ?_
                refine lv_ldc (v := (131072 : Int32)) hx hb hown (hB _ mw_773) d_Ref_trap_121 ?_
                let t148 := (f_Ref_exception (1792 : Int32) (131072 : Int32) rs)
                refine k_cVv (As := [.int (1792 : Int32), .int (131072 : Int32)]) (rest := []) (wr := []) (wj := [(aT, .inr (11, [.ref bG, .ref bS, .ref bM, .int t148.2.1, .int rk, .int rr, .int re, .int rc, .int rd, .int ra, .int rb, .int t148.2.2.1, .int t148.2.2.2, .int rw])), (bG, .inl (dG, 32, .inl rg)), (bS, .inl (dS, 48, .inl t148.1)), (bM, .inl (dM, 16384, .inl rm))]) ⟨hx, hb, hml, hown, hB⟩ (c_Ref_exception l D aT bG bS bM dG dS dM rg rs rm rl rk rr re rc rd ra rb rn rf rw (1792 : Int32) (131072 : Int32)) yl_Ref_exception mw_748 hK hN hP hD hS hA [0, 1, 2] [0, 1, 2, 3] [] [0, 1, 2, 3] rfl rfl rfl rfl (by decide +kernel) 0 rfl rfl rfl rfl hl.1 rfl (Nat.le_of_ble_eq_true rfl) ⟨Nat.le_of_ble_eq_true rfl, Nat.le_of_ble_eq_true rfl⟩ d_Ref_trap_123 ⟨Nat.le_of_ble_eq_true rfl, Nat.le_of_ble_eq_true rfl⟩ (fun H locs hP hD hS => ?_)
                have ef : f_Ref_trap p0 rg rs rl rd ra rn rf = (t148.1, t148.2.1, t148.2.2.1, t148.2.2.2) := by unfold f_Ref_trap; try dsimp only; rw [if_pos h4, if_neg h8, if_neg h102, if_pos h108, if_neg h112, if_neg h131, if_neg h147]
                exact k_vret hx hb hr hlocks hK hP hD hS [0, 1, 2, 3] rfl (by rw [ef] <;> rfl) d_Ref_trap_126
        · refine lv_iload_n hx hb d_Ref_trap_64 rfl (lv_at hl 2 rfl) ?_
          refine lv_iload_n hx hb d_Ref_trap_65 rfl (lv_at hl 4 rfl) ?_
          refine lv_icmp_eq (tgt := 105) hx hb d_Ref_trap_66 (by decide) (fun (h152 : (rg (ix ra)) = p0) => ?_) (fun (h152 : ¬ (rg (ix ra)) = p0) => ?_)
          · refine lv_iconst (v := (1 : Int32)) hx hb d_Ref_trap_105 (by decide) ?_
            refine lv_goto (tgt := 110) hx hb d_Ref_trap_106 (by decide) ?_
            refine lv_istore (lv' := [(7, .int (1 : Int32)), (5, .long (f_Ref_unsigned p0)), (3, .long (f_Ref_unsigned (rg (ix ra)))), (2, .int (rg (ix ra))), (0, .ref aT), (1, .int p0)]) hx hb d_Ref_trap_110 hl (by decide) rfl (fun ls hl => ?_)
            refine lv_iload hx hb d_Ref_trap_112 (lv_at hl 0 rfl) ?_
            refine lv_if_eq (tgt := 126) hx hb d_Ref_trap_114 (by decide) (fun h153 => ?_) (fun h153 => ?_)
            · exact absurd h153 (by decide)
            refine lv_aload_n hx hb d_Ref_trap_117 rfl (lv_at hl 4 rfl) ?_
            refine lv_sipush (v := (1792 : Int32)) hx hb d_Ref_trap_118 (by decide) ?_
            refine lv_ldc (v := (131072 : Int32)) hx hb hown (hB _ mw_773) d_Ref_trap_121 ?_
            let t154 := (f_Ref_exception (1792 : Int32) (131072 : Int32) rs)
            refine k_cVv (As := [.int (1792 : Int32), .int (131072 : Int32)]) (rest := []) (wr := []) (wj := [(aT, .inr (11, [.ref bG, .ref bS, .ref bM, .int t154.2.1, .int rk, .int rr, .int re, .int rc, .int rd, .int ra, .int rb, .int t154.2.2.1, .int t154.2.2.2, .int rw])), (bG, .inl (dG, 32, .inl rg)), (bS, .inl (dS, 48, .inl t154.1)), (bM, .inl (dM, 16384, .inl rm))]) ⟨hx, hb, hml, hown, hB⟩ (c_Ref_exception l D aT bG bS bM dG dS dM rg rs rm rl rk rr re rc rd ra rb rn rf rw (1792 : Int32) (131072 : Int32)) yl_Ref_exception mw_748 hK hN hP hD hS hA [0, 1, 2] [0, 1, 2, 3] [] [0, 1, 2, 3] rfl rfl rfl rfl (by decide +kernel) 0 rfl rfl rfl rfl hl.1 rfl (Nat.le_of_ble_eq_true rfl) ⟨Nat.le_of_ble_eq_true rfl, Nat.le_of_ble_eq_true rfl⟩ d_Ref_trap_123 ⟨Nat.le_of_ble_eq_true rfl, Nat.le_of_ble_eq_true rfl⟩ (fun H locs hP hD hS => ?_)
            have ef : f_Ref_trap p0 rg rs rl rd ra rn rf = (t154.1, t154.2.1, t154.2.2.1, t154.2.2.2) := by unfold f_Ref_trap; try dsimp only; rw [if_pos h4, if_neg h8, if_neg h102, if_neg h108, if_pos h152]
            exact k_vret hx hb hr hlocks hK hP hD hS [0, 1, 2, 3] rfl (by rw [ef] <;> rfl) d_Ref_trap_126
          · refine lv_aload_n hx hb d_Ref_trap_69 rfl (lv_at hl 3 rfl) ?_
            refine va_get (D := D) (ci := 11) (v := .int rd) (C := "MappedProcessorModel") (T := T_Ref) (N := 14) hx hb hB iw_Ref hown hK hP 0 rfl rfl 8 (by decide) (hB _ mw_651) (fun _ h9 => h9) rfl d_Ref_trap_70 ?_
            refine lv_iconst (v := (1 : Int32)) hx hb d_Ref_trap_73 (by decide) ?_
            refine k_cSi (As := [.int rd, .int (1 : Int32)]) (rest := []) (wr := [(aT, .inr (11, [.ref bG, .ref bS, .ref bM, .int rl, .int rk, .int rr, .int re, .int rc, .int rd, .int ra, .int rb, .int rn, .int rf, .int rw])), (bG, .inl (dG, 32, .inl rg)), (bS, .inl (dS, 48, .inl rs)), (bM, .inl (dM, 16384, .inl rm))]) (wj := [(aT, .inr (11, [.ref bG, .ref bS, .ref bM, .int rl, .int rk, .int rr, .int re, .int rc, .int rd, .int ra, .int rb, .int rn, .int rf, .int rw])), (bG, .inl (dG, 32, .inl rg)), (bS, .inl (dS, 48, .inl rs)), (bM, .inl (dM, 16384, .inl rm))]) ⟨hx, hb, hml, hown, hB⟩ (c_Ref_bit l D rd (1 : Int32)) yl_Ref_bit mw_725 hK hN hP hD hS hA [] [] [0, 1, 2, 3] [0, 1, 2, 3] rfl rfl rfl rfl (by decide +kernel) rfl hl.1 rfl (Nat.le_of_ble_eq_true rfl) ⟨Nat.le_of_ble_eq_true rfl, Nat.le_of_ble_eq_true rfl⟩ d_Ref_trap_74 ⟨Nat.le_of_ble_eq_true rfl, Nat.le_of_ble_eq_true rfl⟩ (fun H locs hP hD hS => ?_)
            refine lv_if_eq (tgt := 87) hx hb d_Ref_trap_77 (by decide) (fun (h158 : (f_Ref_bit rd (1 : Int32)) = (0 : Int32)) => ?_) (fun (h158 : ¬ (f_Ref_bit rd (1 : Int32)) = (0 : Int32)) => ?_)
            · refine lv_aload_n hx hb d_Ref_trap_87 rfl (lv_at hl 3 rfl) ?_
              refine va_get (D := D) (ci := 11) (v := .int rd) (C := "MappedProcessorModel") (T := T_Ref) (N := 14) hx hb hB iw_Ref hown hK hP 0 rfl rfl 8 (by decide) (hB _ mw_651) (fun _ h9 => h9) rfl d_Ref_trap_88 ?_
              refine lv_iconst (v := (0 : Int32)) hx hb d_Ref_trap_91 (by decide) ?_
              refine k_cSi (As := [.int rd, .int (0 : Int32)]) (rest := []) (wr := [(aT, .inr (11, [.ref bG, .ref bS, .ref bM, .int rl, .int rk, .int rr, .int re, .int rc, .int rd, .int ra, .int rb, .int rn, .int rf, .int rw])), (bG, .inl (dG, 32, .inl rg)), (bS, .inl (dS, 48, .inl rs)), (bM, .inl (dM, 16384, .inl rm))]) (wj := [(aT, .inr (11, [.ref bG, .ref bS, .ref bM, .int rl, .int rk, .int rr, .int re, .int rc, .int rd, .int ra, .int rb, .int rn, .int rf, .int rw])), (bG, .inl (dG, 32, .inl rg)), (bS, .inl (dS, 48, .inl rs)), (bM, .inl (dM, 16384, .inl rm))]) ⟨hx, hb, hml, hown, hB⟩ (c_Ref_bit l D rd (0 : Int32)) yl_Ref_bit mw_725 hK hN hP hD hS hA [] [] [0, 1, 2, 3] [0, 1, 2, 3] rfl rfl rfl rfl (by decide +kernel) rfl hl.1 rfl (Nat.le_of_ble_eq_true rfl) ⟨Nat.le_of_ble_eq_true rfl, Nat.le_of_ble_eq_true rfl⟩ d_Ref_trap_92 ⟨Nat.le_of_ble_eq_true rfl, Nat.le_of_ble_eq_true rfl⟩ (fun H locs hP hD hS => ?_)
              refine k_join2 (c0 := (f_Ref_bit rd (0 : Int32)) = (0 : Int32)) (x1 := (0 : Int32)) (x2 := (if (lg_cmp (f_Ref_unsigned (rg (ix ra))) (f_Ref_unsigned p0)) ≤ (0 : Int32) then (0 : Int32) else (1 : Int32))) (rest := []) 110 ?_ (fun k160 k161 => ?_)
              rotate_left
              · refine lv_if_eq (tgt := 109) hx hb d_Ref_trap_95 (by decide) (fun (h159 : (f_Ref_bit rd (0 : Int32)) = (0 : Int32)) => ?_) (fun (h159 : ¬ (f_Ref_bit rd (0 : Int32)) = (0 : Int32)) => ?_)
                · refine lv_iconst (v := (0 : Int32)) hx hb d_Ref_trap_109 (by decide) ?_
                  exact k160 h159
                · refine lv_lload_n hx hb d_Ref_trap_98 rfl (lv_at hl 1 rfl) ?_
                  refine lv_lload hx hb d_Ref_trap_99 (lv_at hl 0 rfl) ?_
                  refine W.lcmp hx hb d_Ref_trap_101 ?_
                  refine k_join2 (c0 := (lg_cmp (f_Ref_unsigned (rg (ix ra))) (f_Ref_unsigned p0)) ≤ (0 : Int32)) (x1 := (0 : Int32)) (x2 := (1 : Int32)) (rest := []) 110 ?_ (fun k163 k164 => ?_)
                  rotate_left
                  · refine lv_if_le (tgt := 109) hx hb d_Ref_trap_102 (by decide) (fun (h162 : (lg_cmp (f_Ref_unsigned (rg (ix ra))) (f_Ref_unsigned p0)) ≤ (0 : Int32)) => ?_) (fun (h162 : ¬ (lg_cmp (f_Ref_unsigned (rg (ix ra))) (f_Ref_unsigned p0)) ≤ (0 : Int32)) => ?_)
                    · refine lv_iconst (v := (0 : Int32)) hx hb d_Ref_trap_109 (by decide) ?_
                      exact k163 h162
                    · refine lv_iconst (v := (1 : Int32)) hx hb d_Ref_trap_105 (by decide) ?_
                      refine lv_goto (tgt := 110) hx hb d_Ref_trap_106 (by decide) ?_
                      exact k164 h162
                  exact k161 h159
              refine lv_istore (lv' := [(7, .int (if (f_Ref_bit rd (0 : Int32)) = (0 : Int32) then (0 : Int32) else (if (lg_cmp (f_Ref_unsigned (rg (ix ra))) (f_Ref_unsigned p0)) ≤ (0 : Int32) then (0 : Int32) else (1 : Int32)))), (5, .long (f_Ref_unsigned p0)), (3, .long (f_Ref_unsigned (rg (ix ra)))), (2, .int (rg (ix ra))), (0, .ref aT), (1, .int p0)]) hx hb d_Ref_trap_110 hl (by decide) rfl (fun ls hl => ?_)
              refine lv_iload hx hb d_Ref_trap_112 (lv_at hl 0 rfl) ?_
              refine lv_if_eq (tgt := 126) hx hb d_Ref_trap_114 (by decide) (fun (h172 : (if (f_Ref_bit rd (0 : Int32)) = (0 : Int32) then (0 : Int32) else (if (lg_cmp (f_Ref_unsigned (rg (ix ra))) (f_Ref_unsigned p0)) ≤ (0 : Int32) then (0 : Int32) else (1 : Int32))) = (0 : Int32)) => ?_) (fun (h172 : ¬ (if (f_Ref_bit rd (0 : Int32)) = (0 : Int32) then (0 : Int32) else (if (lg_cmp (f_Ref_unsigned (rg (ix ra))) (f_Ref_unsigned p0)) ≤ (0 : Int32) then (0 : Int32) else (1 : Int32))) = (0 : Int32)) => ?_)
              · have ef : f_Ref_trap p0 rg rs rl rd ra rn rf = (rs, rl, rn, rf) := by unfold f_Ref_trap; try dsimp only; rw [if_pos h4, if_neg h8, if_neg h102, if_neg h108, if_neg h152, if_pos h158, if_pos h172]
                exact k_vret hx hb hr hlocks hK hP hD hS [0, 1, 2, 3] rfl (by rw [ef] <;> rfl) d_Ref_trap_126
              · refine lv_aload_n hx hb d_Ref_trap_117 rfl (lv_at hl 4 rfl) ?_
                refine lv_sipush (v := (1792 : Int32)) hx hb d_Ref_trap_118 (by decide) ?_
                refine lv_ldc (v := (131072 : Int32)) hx hb hown (hB _ mw_773) d_Ref_trap_121 ?_
                let t173 := (f_Ref_exception (1792 : Int32) (131072 : Int32) rs)
                refine k_cVv (As := [.int (1792 : Int32), .int (131072 : Int32)]) (rest := []) (wr := []) (wj := [(aT, .inr (11, [.ref bG, .ref bS, .ref bM, .int t173.2.1, .int rk, .int rr, .int re, .int rc, .int rd, .int ra, .int rb, .int t173.2.2.1, .int t173.2.2.2, .int rw])), (bG, .inl (dG, 32, .inl rg)), (bS, .inl (dS, 48, .inl t173.1)), (bM, .inl (dM, 16384, .inl rm))]) ⟨hx, hb, hml, hown, hB⟩ (c_Ref_exception l D aT bG bS bM dG dS dM rg rs rm rl rk rr re rc rd ra rb rn rf rw (1792 : Int32) (131072 : Int32)) yl_Ref_exception mw_748 hK hN hP hD hS hA [0, 1, 2] [0, 1, 2, 3] [] [0, 1, 2, 3] rfl rfl rfl rfl (by decide +kernel) 0 rfl rfl rfl rfl hl.1 rfl (Nat.le_of_ble_eq_true rfl) ⟨Nat.le_of_ble_eq_true rfl, Nat.le_of_ble_eq_true rfl⟩ d_Ref_trap_123 ⟨Nat.le_of_ble_eq_true rfl, Nat.le_of_ble_eq_true rfl⟩ (fun H locs hP hD hS => ?_)
                have ef : f_Ref_trap p0 rg rs rl rd ra rn rf = (t173.1, t173.2.1, t173.2.2.1, t173.2.2.2) := by unfold f_Ref_trap; try dsimp only; rw [if_pos h4, if_neg h8, if_neg h102, if_neg h108, if_neg h152, if_pos h158, if_neg h172]
                exact k_vret hx hb hr hlocks hK hP hD hS [0, 1, 2, 3] rfl (by rw [ef] <;> rfl) d_Ref_trap_126
            · refine lv_lload_n hx hb d_Ref_trap_80 rfl (lv_at hl 1 rfl) ?_
              refine lv_lload hx hb d_Ref_trap_81 (lv_at hl 0 rfl) ?_
              refine W.lcmp hx hb d_Ref_trap_83 ?_
              refine lv_if_lt (tgt := 105) hx hb d_Ref_trap_84 (by decide) (fun (h177 : (lg_cmp (f_Ref_unsigned (rg (ix ra))) (f_Ref_unsigned p0)) < (0 : Int32)) => ?_) (fun (h177 : ¬ (lg_cmp (f_Ref_unsigned (rg (ix ra))) (f_Ref_unsigned p0)) < (0 : Int32)) => ?_)
              · refine lv_iconst (v := (1 : Int32)) hx hb d_Ref_trap_105 (by decide) ?_
                refine lv_goto (tgt := 110) hx hb d_Ref_trap_106 (by decide) ?_
                refine lv_istore (lv' := [(7, .int (1 : Int32)), (5, .long (f_Ref_unsigned p0)), (3, .long (f_Ref_unsigned (rg (ix ra)))), (2, .int (rg (ix ra))), (0, .ref aT), (1, .int p0)]) hx hb d_Ref_trap_110 hl (by decide) rfl (fun ls hl => ?_)
                refine lv_iload hx hb d_Ref_trap_112 (lv_at hl 0 rfl) ?_
                refine lv_if_eq (tgt := 126) hx hb d_Ref_trap_114 (by decide) (fun h178 => ?_) (fun h178 => ?_)
                · exact absurd h178 (by decide)
                refine lv_aload_n hx hb d_Ref_trap_117 rfl (lv_at hl 4 rfl) ?_
                refine lv_sipush (v := (1792 : Int32)) hx hb d_Ref_trap_118 (by decide) ?_
                refine lv_ldc (v := (131072 : Int32)) hx hb hown (hB _ mw_773) d_Ref_trap_121 ?_
                let t179 := (f_Ref_exception (1792 : Int32) (131072 : Int32) rs)
                refine k_cVv (As := [.int (1792 : Int32), .int (131072 : Int32)]) (rest := []) (wr := []) (wj := [(aT, .inr (11, [.ref bG, .ref bS, .ref bM, .int t179.2.1, .int rk, .int rr, .int re, .int rc, .int rd, .int ra, .int rb, .int t179.2.2.1, .int t179.2.2.2, .int rw])), (bG, .inl (dG, 32, .inl rg)), (bS, .inl (dS, 48, .inl t179.1)), (bM, .inl (dM, 16384, .inl rm))]) ⟨hx, hb, hml, hown, hB⟩ (c_Ref_exception l D aT bG bS bM dG dS dM rg rs rm rl rk rr re rc rd ra rb rn rf rw (1792 : Int32) (131072 : Int32)) yl_Ref_exception mw_748 hK hN hP hD hS hA [0, 1, 2] [0, 1, 2, 3] [] [0, 1, 2, 3] rfl rfl rfl rfl (by decide +kernel) 0 rfl rfl rfl rfl hl.1 rfl (Nat.le_of_ble_eq_true rfl) ⟨Nat.le_of_ble_eq_true rfl, Nat.le_of_ble_eq_true rfl⟩ d_Ref_trap_123 ⟨Nat.le_of_ble_eq_true rfl, Nat.le_of_ble_eq_true rfl⟩ (fun H locs hP hD hS => ?_)
                have ef : f_Ref_trap p0 rg rs rl rd ra rn rf = (t179.1, t179.2.1, t179.2.2.1, t179.2.2.2) := by unfold f_Ref_trap; try dsimp only; rw [if_pos h4, if_neg h8, if_neg h102, if_neg h108, if_neg h152, if_neg h158, if_pos h177]
                exact k_vret hx hb hr hlocks hK hP hD hS [0, 1, 2, 3] rfl (by rw [ef] <;> rfl) d_Ref_trap_126
              · refine lv_aload_n hx hb d_Ref_trap_87 rfl (lv_at hl 3 rfl) ?_
                refine va_get (D := D) (ci := 11) (v := .int rd) (C := "MappedProcessorModel") (T := T_Ref) (N := 14) hx hb hB iw_Ref hown hK hP 0 rfl rfl 8 (by decide) (hB _ mw_651) (fun _ h9 => h9) rfl d_Ref_trap_88 ?_
                refine lv_iconst (v := (0 : Int32)) hx hb d_Ref_trap_91 (by decide) ?_
                refine k_cSi (As := [.int rd, .int (0 : Int32)]) (rest := []) (wr := [(aT, .inr (11, [.ref bG, .ref bS, .ref bM, .int rl, .int rk, .int rr, .int re, .int rc, .int rd, .int ra, .int rb, .int rn, .int rf, .int rw])), (bG, .inl (dG, 32, .inl rg)), (bS, .inl (dS, 48, .inl rs)), (bM, .inl (dM, 16384, .inl rm))]) (wj := [(aT, .inr (11, [.ref bG, .ref bS, .ref bM, .int rl, .int rk, .int rr, .int re, .int rc, .int rd, .int ra, .int rb, .int rn, .int rf, .int rw])), (bG, .inl (dG, 32, .inl rg)), (bS, .inl (dS, 48, .inl rs)), (bM, .inl (dM, 16384, .inl rm))]) ⟨hx, hb, hml, hown, hB⟩ (c_Ref_bit l D rd (0 : Int32)) yl_Ref_bit mw_725 hK hN hP hD hS hA [] [] [0, 1, 2, 3] [0, 1, 2, 3] rfl rfl rfl rfl (by decide +kernel) rfl hl.1 rfl (Nat.le_of_ble_eq_true rfl) ⟨Nat.le_of_ble_eq_true rfl, Nat.le_of_ble_eq_true rfl⟩ d_Ref_trap_92 ⟨Nat.le_of_ble_eq_true rfl, Nat.le_of_ble_eq_true rfl⟩ (fun H locs hP hD hS => ?_)
                refine k_join2 (c0 := (f_Ref_bit rd (0 : Int32)) = (0 : Int32)) (x1 := (0 : Int32)) (x2 := (if (lg_cmp (f_Ref_unsigned (rg (ix ra))) (f_Ref_unsigned p0)) ≤ (0 : Int32) then (0 : Int32) else (1 : Int32))) (rest := []) 110 ?_ (fun k181 k182 => ?_)
                rotate_left
                · refine lv_if_eq (tgt := 109) hx hb d_Ref_trap_95 (by decide) (fun (h180 : (f_Ref_bit rd (0 : Int32)) = (0 : Int32)) => ?_) (fun (h180 : ¬ (f_Ref_bit rd (0 : Int32)) = (0 : Int32)) => ?_)
                  · refine lv_iconst (v := (0 : Int32)) hx hb d_Ref_trap_109 (by decide) ?_
                    exact k181 h180
                  · refine lv_lload_n hx hb d_Ref_trap_98 rfl (lv_at hl 1 rfl) ?_
                    refine lv_lload hx hb d_Ref_trap_99 (lv_at hl 0 rfl) ?_
                    refine W.lcmp hx hb d_Ref_trap_101 ?_
                    refine k_join2 (c0 := (lg_cmp (f_Ref_unsigned (rg (ix ra))) (f_Ref_unsigned p0)) ≤ (0 : Int32)) (x1 := (0 : Int32)) (x2 := (1 : Int32)) (rest := []) 110 ?_ (fun k184 k185 => ?_)
                    rotate_left
                    · refine lv_if_le (tgt := 109) hx hb d_Ref_trap_102 (by decide) (fun (h183 : (lg_cmp (f_Ref_unsigned (rg (ix ra))) (f_Ref_unsigned p0)) ≤ (0 : Int32)) => ?_) (fun (h183 : ¬ (lg_cmp (f_Ref_unsigned (rg (ix ra))) (f_Ref_unsigned p0)) ≤ (0 : Int32)) => ?_)
                      · refine lv_iconst (v := (0 : Int32)) hx hb d_Ref_trap_109 (by decide) ?_
                        exact k184 h183
                      · refine lv_iconst (v := (1 : Int32)) hx hb d_Ref_trap_105 (by decide) ?_
                        refine lv_goto (tgt := 110) hx hb d_Ref_trap_106 (by decide) ?_
                        exact k185 h183
                    exact k182 h180
                refine lv_istore (lv' := [(7, .int (if (f_Ref_bit rd (0 : Int32)) = (0 : Int32) then (0 : Int32) else (if (lg_cmp (f_Ref_unsigned (rg (ix ra))) (f_Ref_unsigned p0)) ≤ (0 : Int32) then (0 : Int32) else (1 : Int32)))), (5, .long (f_Ref_unsigned p0)), (3, .long (f_Ref_unsigned (rg (ix ra)))), (2, .int (rg (ix ra))), (0, .ref aT), (1, .int p0)]) hx hb d_Ref_trap_110 hl (by decide) rfl (fun ls hl => ?_)
                refine lv_iload hx hb d_Ref_trap_112 (lv_at hl 0 rfl) ?_
                refine lv_if_eq (tgt := 126) hx hb d_Ref_trap_114 (by decide) (fun (h193 : (if (f_Ref_bit rd (0 : Int32)) = (0 : Int32) then (0 : Int32) else (if (lg_cmp (f_Ref_unsigned (rg (ix ra))) (f_Ref_unsigned p0)) ≤ (0 : Int32) then (0 : Int32) else (1 : Int32))) = (0 : Int32)) => ?_) (fun (h193 : ¬ (if (f_Ref_bit rd (0 : Int32)) = (0 : Int32) then (0 : Int32) else (if (lg_cmp (f_Ref_unsigned (rg (ix ra))) (f_Ref_unsigned p0)) ≤ (0 : Int32) then (0 : Int32) else (1 : Int32))) = (0 : Int32)) => ?_)
                · have ef : f_Ref_trap p0 rg rs rl rd ra rn rf = (rs, rl, rn, rf) := by unfold f_Ref_trap; try dsimp only; rw [if_pos h4, if_neg h8, if_neg h102, if_neg h108, if_neg h152, if_neg h158, if_neg h177, if_pos h193]
                  exact k_vret hx hb hr hlocks hK hP hD hS [0, 1, 2, 3] rfl (by rw [ef] <;> rfl) d_Ref_trap_126
                · refine lv_aload_n hx hb d_Ref_trap_117 rfl (lv_at hl 4 rfl) ?_
                  refine lv_sipush (v := (1792 : Int32)) hx hb d_Ref_trap_118 (by decide) ?_
                  refine lv_ldc (v := (131072 : Int32)) hx hb hown (hB _ mw_773) d_Ref_trap_121 ?_
                  let t194 := (f_Ref_exception (1792 : Int32) (131072 : Int32) rs)
                  refine k_cVv (As := [.int (1792 : Int32), .int (131072 : Int32)]) (rest := []) (wr := []) (wj := [(aT, .inr (11, [.ref bG, .ref bS, .ref bM, .int t194.2.1, .int rk, .int rr, .int re, .int rc, .int rd, .int ra, .int rb, .int t194.2.2.1, .int t194.2.2.2, .int rw])), (bG, .inl (dG, 32, .inl rg)), (bS, .inl (dS, 48, .inl t194.1)), (bM, .inl (dM, 16384, .inl rm))]) ⟨hx, hb, hml, hown, hB⟩ (c_Ref_exception l D aT bG bS bM dG dS dM rg rs rm rl rk rr re rc rd ra rb rn rf rw (1792 : Int32) (131072 : Int32)) yl_Ref_exception mw_748 hK hN hP hD hS hA [0, 1, 2] [0, 1, 2, 3] [] [0, 1, 2, 3] rfl rfl rfl rfl (by decide +kernel) 0 rfl rfl rfl rfl hl.1 rfl (Nat.le_of_ble_eq_true rfl) ⟨Nat.le_of_ble_eq_true rfl, Nat.le_of_ble_eq_true rfl⟩ d_Ref_trap_123 ⟨Nat.le_of_ble_eq_true rfl, Nat.le_of_ble_eq_true rfl⟩ (fun H locs hP hD hS => ?_)
                  have ef : f_Ref_trap p0 rg rs rl rd ra rn rf = (t194.1, t194.2.1, t194.2.2.1, t194.2.2.2) := by unfold f_Ref_trap; try dsimp only; rw [if_pos h4, if_neg h8, if_neg h102, if_neg h108, if_neg h152, if_neg h158, if_neg h177, if_neg h193]
                  exact k_vret hx hb hr hlocks hK hP hD hS [0, 1, 2, 3] rfl (by rw [ef] <;> rfl) d_Ref_trap_126
  · refine lv_iload_n hx hb d_Ref_trap_32 rfl (lv_at hl 2 rfl) ?_
    refine lv_iload_n hx hb d_Ref_trap_33 rfl (lv_at hl 4 rfl) ?_
    refine lv_icmp_lt (tgt := 105) hx hb d_Ref_trap_34 (by decide) (fun (h198 : (rg (ix ra)) < p0) => ?_) (fun (h198 : ¬ (rg (ix ra)) < p0) => ?_)
    · refine lv_iconst (v := (1 : Int32)) hx hb d_Ref_trap_105 (by decide) ?_
      refine lv_goto (tgt := 110) hx hb d_Ref_trap_106 (by decide) ?_
      refine lv_istore (lv' := [(7, .int (1 : Int32)), (5, .long (f_Ref_unsigned p0)), (3, .long (f_Ref_unsigned (rg (ix ra)))), (2, .int (rg (ix ra))), (0, .ref aT), (1, .int p0)]) hx hb d_Ref_trap_110 hl (by decide) rfl (fun ls hl => ?_)
      refine lv_iload hx hb d_Ref_trap_112 (lv_at hl 0 rfl) ?_
      refine lv_if_eq (tgt := 126) hx hb d_Ref_trap_114 (by decide) (fun h199 => ?_) (fun h199 => ?_)
      · exact absurd h199 (by decide)
      refine lv_aload_n hx hb d_Ref_trap_117 rfl (lv_at hl 4 rfl) ?_
      refine lv_sipush (v := (1792 : Int32)) hx hb d_Ref_trap_118 (by decide) ?_
      refine lv_ldc (v := (131072 : Int32)) hx hb hown (hB _ mw_773) d_Ref_trap_121 ?_
      let t200 := (f_Ref_exception (1792 : Int32) (131072 : Int32) rs)
      refine k_cVv (As := [.int (1792 : Int32), .int (131072 : Int32)]) (rest := []) (wr := []) (wj := [(aT, .inr (11, [.ref bG, .ref bS, .ref bM, .int t200.2.1, .int rk, .int rr, .int re, .int rc, .int rd, .int ra, .int rb, .int t200.2.2.1, .int t200.2.2.2, .int rw])), (bG, .inl (dG, 32, .inl rg)), (bS, .inl (dS, 48, .inl t200.1)), (bM, .inl (dM, 16384, .inl rm))]) ⟨hx, hb, hml, hown, hB⟩ (c_Ref_exception l D aT bG bS bM dG dS dM rg rs rm rl rk rr re rc rd ra rb rn rf rw (1792 : Int32) (131072 : Int32)) yl_Ref_exception mw_748 hK hN hP hD hS hA [0, 1, 2] [0, 1, 2, 3] [] [0, 1, 2, 3] rfl rfl rfl rfl (by decide +kernel) 0 rfl rfl rfl rfl hl.1 rfl (Nat.le_of_ble_eq_true rfl) ⟨Nat.le_of_ble_eq_true rfl, Nat.le_of_ble_eq_true rfl⟩ d_Ref_trap_123 ⟨Nat.le_of_ble_eq_true rfl, Nat.le_of_ble_eq_true rfl⟩ (fun H locs hP hD hS => ?_)
      have ef : f_Ref_trap p0 rg rs rl rd ra rn rf = (t200.1, t200.2.1, t200.2.2.1, t200.2.2.2) := by unfold f_Ref_trap; try dsimp only; rw [if_neg h4, if_pos h198]
      exact k_vret hx hb hr hlocks hK hP hD hS [0, 1, 2, 3] rfl (by rw [ef] <;> rfl) d_Ref_trap_126
    · refine lv_aload_n hx hb d_Ref_trap_37 rfl (lv_at hl 3 rfl) ?_
      refine va_get (D := D) (ci := 11) (v := .int rd) (C := "MappedProcessorModel") (T := T_Ref) (N := 14) hx hb hB iw_Ref hown hK hP 0 rfl rfl 8 (by decide) (hB _ mw_651) (fun _ h9 => h9) rfl d_Ref_trap_38 ?_
      refine lv_iconst (v := (3 : Int32)) hx hb d_Ref_trap_41 (by decide) ?_
      refine k_cSi (As := [.int rd, .int (3 : Int32)]) (rest := []) (wr := [(aT, .inr (11, [.ref bG, .ref bS, .ref bM, .int rl, .int rk, .int rr, .int re, .int rc, .int rd, .int ra, .int rb, .int rn, .int rf, .int rw])), (bG, .inl (dG, 32, .inl rg)), (bS, .inl (dS, 48, .inl rs)), (bM, .inl (dM, 16384, .inl rm))]) (wj := [(aT, .inr (11, [.ref bG, .ref bS, .ref bM, .int rl, .int rk, .int rr, .int re, .int rc, .int rd, .int ra, .int rb, .int rn, .int rf, .int rw])), (bG, .inl (dG, 32, .inl rg)), (bS, .inl (dS, 48, .inl rs)), (bM, .inl (dM, 16384, .inl rm))]) ⟨hx, hb, hml, hown, hB⟩ (c_Ref_bit l D rd (3 : Int32)) yl_Ref_bit mw_725 hK hN hP hD hS hA [] [] [0, 1, 2, 3] [0, 1, 2, 3] rfl rfl rfl rfl (by decide +kernel) rfl hl.1 rfl (Nat.le_of_ble_eq_true rfl) ⟨Nat.le_of_ble_eq_true rfl, Nat.le_of_ble_eq_true rfl⟩ d_Ref_trap_42 ⟨Nat.le_of_ble_eq_true rfl, Nat.le_of_ble_eq_true rfl⟩ (fun H locs hP hD hS => ?_)
      refine lv_if_eq (tgt := 53) hx hb d_Ref_trap_45 (by decide) (fun (h204 : (f_Ref_bit rd (3 : Int32)) = (0 : Int32)) => ?_) (fun (h204 : ¬ (f_Ref_bit rd (3 : Int32)) = (0 : Int32)) => ?_)
      · refine lv_aload_n hx hb d_Ref_trap_53 rfl (lv_at hl 3 rfl) ?_
        refine va_get (D := D) (ci := 11) (v := .int rd) (C := "MappedProcessorModel") (T := T_Ref) (N := 14) hx hb hB iw_Ref hown hK hP 0 rfl rfl 8 (by decide) (hB _ mw_651) (fun _ h9 => h9) rfl d_Ref_trap_54 ?_
        refine lv_iconst (v := (2 : Int32)) hx hb d_Ref_trap_57 (by decide) ?_
        refine k_cSi (As := [.int rd, .int (2 : Int32)]) (rest := []) (wr := [(aT, .inr (11, [.ref bG, .ref bS, .ref bM, .int rl, .int rk, .int rr, .int re, .int rc, .int rd, .int ra, .int rb, .int rn, .int rf, .int rw])), (bG, .inl (dG, 32, .inl rg)), (bS, .inl (dS, 48, .inl rs)), (bM, .inl (dM, 16384, .inl rm))]) (wj := [(aT, .inr (11, [.ref bG, .ref bS, .ref bM, .int rl, .int rk, .int rr, .int re, .int rc, .int rd, .int ra, .int rb, .int rn, .int rf, .int rw])), (bG, .inl (dG, 32, .inl rg)), (bS, .inl (dS, 48, .inl rs)), (bM, .inl (dM, 16384, .inl rm))]) ⟨hx, hb, hml, hown, hB⟩ (c_Ref_bit l D rd (2 : Int32)) yl_Ref_bit mw_725 hK hN hP hD hS hA [] [] [0, 1, 2, 3] [0, 1, 2, 3] rfl rfl rfl rfl (by decide +kernel) rfl hl.1 rfl (Nat.le_of_ble_eq_true rfl) ⟨Nat.le_of_ble_eq_true rfl, Nat.le_of_ble_eq_true rfl⟩ d_Ref_trap_58 ⟨Nat.le_of_ble_eq_true rfl, Nat.le_of_ble_eq_true rfl⟩ (fun H locs hP hD hS => ?_)
        refine lv_if_eq (tgt := 69) hx hb d_Ref_trap_61 (by decide) (fun (h208 : (f_Ref_bit rd (2 : Int32)) = (0 : Int32)) => ?_) (fun (h208 : ¬ (f_Ref_bit rd (2 : Int32)) = (0 : Int32)) => ?_)
        · refine lv_aload_n hx hb d_Ref_trap_69 rfl (lv_at hl 3 rfl) ?_
          refine va_get (D := D) (ci := 11) (v := .int rd) (C := "MappedProcessorModel") (T := T_Ref) (N := 14) hx hb hB iw_Ref hown hK hP 0 rfl rfl 8 (by decide) (hB _ mw_651) (fun _ h9 => h9) rfl d_Ref_trap_70 ?_
          refine lv_iconst (v := (1 : Int32)) hx hb d_Ref_trap_73 (by decide) ?_
          refine k_cSi (As := [.int rd, .int (1 : Int32)]) (rest := []) (wr := [(aT, .inr (11, [.ref bG, .ref bS, .ref bM, .int rl, .int rk, .int rr, .int re, .int rc, .int rd, .int ra, .int rb, .int rn, .int rf, .int rw])), (bG, .inl (dG, 32, .inl rg)), (bS, .inl (dS, 48, .inl rs)), (bM, .inl (dM, 16384, .inl rm))]) (wj := [(aT, .inr (11, [.ref bG, .ref bS, .ref bM, .int rl, .int rk, .int rr, .int re, .int rc, .int rd, .int ra, .int rb, .int rn, .int rf, .int rw])), (bG, .inl (dG, 32, .inl rg)), (bS, .inl (dS, 48, .inl rs)), (bM, .inl (dM, 16384, .inl rm))]) ⟨hx, hb, hml, hown, hB⟩ (c_Ref_bit l D rd (1 : Int32)) yl_Ref_bit mw_725 hK hN hP hD hS hA [] [] [0, 1, 2, 3] [0, 1, 2, 3] rfl rfl rfl rfl (by decide +kernel) rfl hl.1 rfl (Nat.le_of_ble_eq_true rfl) ⟨Nat.le_of_ble_eq_true rfl, Nat.le_of_ble_eq_true rfl⟩ d_Ref_trap_74 ⟨Nat.le_of_ble_eq_true rfl, Nat.le_of_ble_eq_true rfl⟩ (fun H locs hP hD hS => ?_)
          refine lv_if_eq (tgt := 87) hx hb d_Ref_trap_77 (by decide) (fun (h212 : (f_Ref_bit rd (1 : Int32)) = (0 : Int32)) => ?_) (fun (h212 : ¬ (f_Ref_bit rd (1 : Int32)) = (0 : Int32)) => ?_)
          · refine lv_aload_n hx hb d_Ref_trap_87 rfl (lv_at hl 3 rfl) ?_
            refine va_get (D := D) (ci := 11) (v := .int rd) (C := "MappedProcessorModel") (T := T_Ref) (N := 14) hx hb hB iw_Ref hown hK hP 0 rfl rfl 8 (by decide) (hB _ mw_651) (fun _ h9 => h9) rfl d_Ref_trap_88 ?_
            refine lv_iconst (v := (0 : Int32)) hx hb d_Ref_trap_91 (by decide) ?_
            refine k_cSi (As := [.int rd, .int (0 : Int32)]) (rest := []) (wr := [(aT, .inr (11, [.ref bG, .ref bS, .ref bM, .int rl, .int rk, .int rr, .int re, .int rc, .int rd, .int ra, .int rb, .int rn, .int rf, .int rw])), (bG, .inl (dG, 32, .inl rg)), (bS, .inl (dS, 48, .inl rs)), (bM, .inl (dM, 16384, .inl rm))]) (wj := [(aT, .inr (11, [.ref bG, .ref bS, .ref bM, .int rl, .int rk, .int rr, .int re, .int rc, .int rd, .int ra, .int rb, .int rn, .int rf, .int rw])), (bG, .inl (dG, 32, .inl rg)), (bS, .inl (dS, 48, .inl rs)), (bM, .inl (dM, 16384, .inl rm))]) ⟨hx, hb, hml, hown, hB⟩ (c_Ref_bit l D rd (0 : Int32)) yl_Ref_bit mw_725 hK hN hP hD hS hA [] [] [0, 1, 2, 3] [0, 1, 2, 3] rfl rfl rfl rfl (by decide +kernel) rfl hl.1 rfl (Nat.le_of_ble_eq_true rfl) ⟨Nat.le_of_ble_eq_true rfl, Nat.le_of_ble_eq_true rfl⟩ d_Ref_trap_92 ⟨Nat.le_of_ble_eq_true rfl, Nat.le_of_ble_eq_true rfl⟩ (fun H locs hP hD hS => ?_)
            refine k_join2 (c0 := (f_Ref_bit rd (0 : Int32)) = (0 : Int32)) (x1 := (0 : Int32)) (x2 := (if (lg_cmp (f_Ref_unsigned (rg (ix ra))) (f_Ref_unsigned p0)) ≤ (0 : Int32) then (0 : Int32) else (1 : Int32))) (rest := []) 110 ?_ (fun k214 k215 => ?_)
            rotate_left
            · refine lv_if_eq (tgt := 109) hx hb d_Ref_trap_95 (by decide) (fun (h213 : (f_Ref_bit rd (0 : Int32)) = (0 : Int32)) => ?_) (fun (h213 : ¬ (f_Ref_bit rd (0 : Int32)) = (0 : Int32)) => ?_)
              · refine lv_iconst (v := (0 : Int32)) hx hb d_Ref_trap_109 (by decide) ?_
                exact k214 h213
              · refine lv_lload_n hx hb d_Ref_trap_98 rfl (lv_at hl 1 rfl) ?_
                refine lv_lload hx hb d_Ref_trap_99 (lv_at hl 0 rfl) ?_
                refine W.lcmp hx hb d_Ref_trap_101 ?_
                refine k_join2 (c0 := (lg_cmp (f_Ref_unsigned (rg (ix ra))) (f_Ref_unsigned p0)) ≤ (0 : Int32)) (x1 := (0 : Int32)) (x2 := (1 : Int32)) (rest := []) 110 ?_ (fun k217 k218 => ?_)
                rotate_left
                · refine lv_if_le (tgt := 109) hx hb d_Ref_trap_102 (by decide) (fun (h216 : (lg_cmp (f_Ref_unsigned (rg (ix ra))) (f_Ref_unsigned p0)) ≤ (0 : Int32)) => ?_) (fun (h216 : ¬ (lg_cmp (f_Ref_unsigned (rg (ix ra))) (f_Ref_unsigned p0)) ≤ (0 : Int32)) => ?_)
                  · refine lv_iconst (v := (0 : Int32)) hx hb d_Ref_trap_109 (by decide) ?_
                    exact k217 h216
                  · refine lv_iconst (v := (1 : Int32)) hx hb d_Ref_trap_105 (by decide) ?_
                    refine lv_goto (tgt := 110) hx hb d_Ref_trap_106 (by decide) ?_
                    exact k218 h216
                exact k215 h213
            refine lv_istore (lv' := [(7, .int (if (f_Ref_bit rd (0 : Int32)) = (0 : Int32) then (0 : Int32) else (if (lg_cmp (f_Ref_unsigned (rg (ix ra))) (f_Ref_unsigned p0)) ≤ (0 : Int32) then (0 : Int32) else (1 : Int32)))), (5, .long (f_Ref_unsigned p0)), (3, .long (f_Ref_unsigned (rg (ix ra)))), (2, .int (rg (ix ra))), (0, .ref aT), (1, .int p0)]) hx hb d_Ref_trap_110 hl (by decide) rfl (fun ls hl => ?_)
            refine lv_iload hx hb d_Ref_trap_112 (lv_at hl 0 rfl) ?_
            refine lv_if_eq (tgt := 126) hx hb d_Ref_trap_114 (by decide) (fun (h226 : (if (f_Ref_bit rd (0 : Int32)) = (0 : Int32) then (0 : Int32) else (if (lg_cmp (f_Ref_unsigned (rg (ix ra))) (f_Ref_unsigned p0)) ≤ (0 : Int32) then (0 : Int32) else (1 : Int32))) = (0 : Int32)) => ?_) (fun (h226 : ¬ (if (f_Ref_bit rd (0 : Int32)) = (0 : Int32) then (0 : Int32) else (if (lg_cmp (f_Ref_unsigned (rg (ix ra))) (f_Ref_unsigned p0)) ≤ (0 : Int32) then (0 : Int32) else (1 : Int32))) = (0 : Int32)) => ?_)
            · have ef : f_Ref_trap p0 rg rs rl rd ra rn rf = (rs, rl, rn, rf) := by unfold f_Ref_trap; try dsimp only; rw [if_neg h4, if_neg h198, if_pos h204, if_pos h208, if_pos h212, if_pos h226]
              exact k_vret hx hb hr hlocks hK hP hD hS [0, 1, 2, 3] rfl (by rw [ef] <;> rfl) d_Ref_trap_126
            · refine lv_aload_n hx hb d_Ref_trap_117 rfl (lv_at hl 4 rfl) ?_
              refine lv_sipush (v := (1792 : Int32)) hx hb d_Ref_trap_118 (by decide) ?_
              refine lv_ldc (v := (131072 : Int32)) hx hb hown (hB _ mw_773) d_Ref_trap_121 ?_
              let t227 := (f_Ref_exception (1792 : Int32) (131072 : Int32) rs)
              refine k_cVv (As := [.int (1792 : Int32), .int (131072 : Int32)]) (rest := []) (wr := []) (wj := [(aT, .inr (11, [.ref bG, .ref bS, .ref bM, .int t227.2.1, .int rk, .int rr, .int re, .int rc, .int rd, .int ra, .int rb, .int t227.2.2.1, .int t227.2.2.2, .int rw])), (bG, .inl (dG, 32, .inl rg)), (bS, .inl (dS, 48, .inl t227.1)), (bM, .inl (dM, 16384, .inl rm))]) ⟨hx, hb, hml, hown, hB⟩ (c_Ref_exception l D aT bG bS bM dG dS dM rg rs rm rl rk rr re rc rd ra rb rn rf rw (1792 : Int32) (131072 : Int32)) yl_Ref_exception mw_748 hK hN hP hD hS hA [0, 1, 2] [0, 1, 2, 3] [] [0, 1, 2, 3] rfl rfl rfl rfl (by decide +kernel) 0 rfl rfl rfl rfl hl.1 rfl (Nat.le_of_ble_eq_true rfl) ⟨Nat.le_of_ble_eq_true rfl, Nat.le_of_ble_eq_true rfl⟩ d_Ref_trap_123 ⟨Nat.le_of_ble_eq_true rfl, Nat.le_of_ble_eq_true rfl⟩ (fun H locs hP hD hS => ?_)
              have ef : f_Ref_trap p0 rg rs rl rd ra rn rf = (t227.1, t227.2.1, t227.2.2.1, t227.2.2.2) := by unfold f_Ref_trap; try dsimp only; rw [if_neg h4, if_neg h198, if_pos h204, if_pos h208, if_pos h212, if_neg h226]
              exact k_vret hx hb hr hlocks hK hP hD hS [0, 1, 2, 3] rfl (by rw [ef] <;> rfl) d_Ref_trap_126
          · refine lv_lload_n hx hb d_Ref_trap_80 rfl (lv_at hl 1 rfl) ?_
            refine lv_lload hx hb d_Ref_trap_81 (lv_at hl 0 rfl) ?_
            refine W.lcmp hx hb d_Ref_trap_83 ?_
            refine lv_if_lt (tgt := 105) hx hb d_Ref_trap_84 (by decide) (fun (h231 : (lg_cmp (f_Ref_unsigned (rg (ix ra))) (f_Ref_unsigned p0)) < (0 : Int32)) => ?_) (fun (h231 : ¬ (lg_cmp (f_Ref_unsigned (rg (ix ra))) (f_Ref_unsigned p0)) < (0 : Int32)) => ?_)
            · refine lv_iconst (v := (1 : Int32)) hx hb d_Ref_trap_105 (by decide) ?_
              refine lv_goto (tgt := 110) hx hb d_Ref_trap_106 (by decide) ?_
              refine lv_istore (lv' := [(7, .int (1 : Int32)), (5, .long (f_Ref_unsigned p0)), (3, .long (f_Ref_unsigned (rg (ix ra)))), (2, .int (rg (ix ra))), (0, .ref aT), (1, .int p0)]) hx hb d_Ref_trap_110 hl (by decide) rfl (fun ls hl => ?_)
              refine lv_iload hx hb d_Ref_trap_112 (lv_at hl 0 rfl) ?_
              refine lv_if_eq (tgt := 126) hx hb d_Ref_trap_114 (by decide) (fun h232 => ?_) (fun h232 => ?_)
              · exact absurd h232 (by decide)
              refine lv_aload_n hx hb d_Ref_trap_117 rfl (lv_at hl 4 rfl) ?_
              refine lv_sipush (v := (1792 : Int32)) hx hb d_Ref_trap_118 (by decide) ?_
              refine lv_ldc (v := (131072 : Int32)) hx hb hown (hB _ mw_773) d_Ref_trap_121 ?_
              let t233 := (f_Ref_exception (1792 : Int32) (131072 : Int32) rs)
              refine k_cVv (As := [.int (1792 : Int32), .int (131072 : Int32)]) (rest := []) (wr := []) (wj := [(aT, .inr (11, [.ref bG, .ref bS, .ref bM, .int t233.2.1, .int rk, .int rr, .int re, .int rc, .int rd, .int ra, .int rb, .int t233.2.2.1, .int t233.2.2.2, .int rw])), (bG, .inl (dG, 32, .inl rg)), (bS, .inl (dS, 48, .inl t233.1)), (bM, .inl (dM, 16384, .inl rm))]) ⟨hx, hb, hml, hown, hB⟩ (c_Ref_exception l D aT bG bS bM dG dS dM rg rs rm rl rk rr re rc rd ra rb rn rf rw (1792 : Int32) (131072 : Int32)) yl_Ref_exception mw_748 hK hN hP hD hS hA [0, 1, 2] [0, 1, 2, 3] [] [0, 1, 2, 3] rfl rfl rfl rfl (by decide +kernel) 0 rfl rfl rfl rfl hl.1 rfl (Nat.le_of_ble_eq_true rfl) ⟨Nat.le_of_ble_eq_true rfl, Nat.le_of_ble_eq_true rfl⟩ d_Ref_trap_123 ⟨Nat.le_of_ble_eq_true rfl, Nat.le_of_ble_eq_true rfl⟩ (fun H locs hP hD hS => ?_)
              have ef : f_Ref_trap p0 rg rs rl rd ra rn rf = (t233.1, t233.2.1, t233.2.2.1, t233.2.2.2) := by unfold f_Ref_trap; try dsimp only; rw [if_neg h4, if_neg h198, if_pos h204, if_pos h208, if_neg h212, if_pos h231]
              exact k_vret hx hb hr hlocks hK hP hD hS [0, 1, 2, 3] rfl (by rw [ef] <;> rfl) d_Ref_trap_126
            · refine lv_aload_n hx hb d_Ref_trap_87 rfl (lv_at hl 3 rfl) ?_
              refine va_get (D := D) (ci := 11) (v := .int rd) (C := "MappedProcessorModel") (T := T_Ref) (N := 14) hx hb hB iw_Ref hown hK hP 0 rfl rfl 8 (by decide) (hB _ mw_651) (fun _ h9 => h9) rfl d_Ref_trap_88 ?_
              refine lv_iconst (v := (0 : Int32)) hx hb d_Ref_trap_91 (by decide) ?_
              refine k_cSi (As := [.int rd, .int (0 : Int32)]) (rest := []) (wr := [(aT, .inr (11, [.ref bG, .ref bS, .ref bM, .int rl, .int rk, .int rr, .int re, .int rc, .int rd, .int ra, .int rb, .int rn, .int rf, .int rw])), (bG, .inl (dG, 32, .inl rg)), (bS, .inl (dS, 48, .inl rs)), (bM, .inl (dM, 16384, .inl rm))]) (wj := [(aT, .inr (11, [.ref bG, .ref bS, .ref bM, .int rl, .int rk, .int rr, .int re, .int rc, .int rd, .int ra, .int rb, .int rn, .int rf, .int rw])), (bG, .inl (dG, 32, .inl rg)), (bS, .inl (dS, 48, .inl rs)), (bM, .inl (dM, 16384, .inl rm))]) ⟨hx, hb, hml, hown, hB⟩ (c_Ref_bit l D rd (0 : Int32)) yl_Ref_bit mw_725 hK hN hP hD hS hA [] [] [0, 1, 2, 3] [0, 1, 2, 3] rfl rfl rfl rfl (by decide +kernel) rfl hl.1 rfl (Nat.le_of_ble_eq_true rfl) ⟨Nat.le_of_ble_eq_true rfl, Nat.le_of_ble_eq_true rfl⟩ d_Ref_trap_92 ⟨Nat.le_of_ble_eq_true rfl, Nat.le_of_ble_eq_true rfl⟩ (fun H locs hP hD hS => ?_)
              refine k_join2 (c0 := (f_Ref_bit rd (0 : Int32)) = (0 : Int32)) (x1 := (0 : Int32)) (x2 := (if (lg_cmp (f_Ref_unsigned (rg (ix ra))) (f_Ref_unsigned p0)) ≤ (0 : Int32) then (0 : Int32) else (1 : Int32))) (rest := []) 110 ?_ (fun k235 k236 => ?_)
              rotate_left
              · refine lv_if_eq (tgt := 109) hx hb d_Ref_trap_95 (by decide) (fun (h234 : (f_Ref_bit rd (0 : Int32)) = (0 : Int32)) => ?_) (fun (h234 : ¬ (f_Ref_bit rd (0 : Int32)) = (0 : Int32)) => ?_)
                · refine lv_iconst (v := (0 : Int32)) hx hb d_Ref_trap_109 (by decide) ?_
                  exact k235 h234
                · refine lv_lload_n hx hb d_Ref_trap_98 rfl (lv_at hl 1 rfl) ?_
                  refine lv_lload hx hb d_Ref_trap_99 (lv_at hl 0 rfl) ?_
                  refine W.lcmp hx hb d_Ref_trap_101 ?_
                  refine k_join2 (c0 := (lg_cmp (f_Ref_unsigned (rg (ix ra))) (f_Ref_unsigned p0)) ≤ (0 : Int32)) (x1 := (0 : Int32)) (x2 := (1 : Int32)) (rest := []) 110 ?_ (fun k238 k239 => ?_)
                  rotate_left
                  · refine lv_if_le (tgt := 109) hx hb d_Ref_trap_102 (by decide) (fun (h237 : (lg_cmp (f_Ref_unsigned (rg (ix ra))) (f_Ref_unsigned p0)) ≤ (0 : Int32)) => ?_) (fun (h237 : ¬ (lg_cmp (f_Ref_unsigned (rg (ix ra))) (f_Ref_unsigned p0)) ≤ (0 : Int32)) => ?_)
                    · refine lv_iconst (v := (0 : Int32)) hx hb d_Ref_trap_109 (by decide) ?_
                      exact k238 h237
                    · refine lv_iconst (v := (1 : Int32)) hx hb d_Ref_trap_105 (by decide) ?_
                      refine lv_goto (tgt := 110) hx hb d_Ref_trap_106 (by decide) ?_
                      exact k239 h237
                  exact k236 h234
              refine lv_istore (lv' := [(7, .int (if (f_Ref_bit rd (0 : Int32)) = (0 : Int32) then (0 : Int32) else (if (lg_cmp (f_Ref_unsigned (rg (ix ra))) (f_Ref_unsigned p0)) ≤ (0 : Int32) then (0 : Int32) else (1 : Int32)))), (5, .long (f_Ref_unsigned p0)), (3, .long (f_Ref_unsigned (rg (ix ra)))), (2, .int (rg (ix ra))), (0, .ref aT), (1, .int p0)]) hx hb d_Ref_trap_110 hl (by decide) rfl (fun ls hl => ?_)
              refine lv_iload hx hb d_Ref_trap_112 (lv_at hl 0 rfl) ?_
              refine lv_if_eq (tgt := 126) hx hb d_Ref_trap_114 (by decide) (fun (h247 : (if (f_Ref_bit rd (0 : Int32)) = (0 : Int32) then (0 : Int32) else (if (lg_cmp (f_Ref_unsigned (rg (ix ra))) (f_Ref_unsigned p0)) ≤ (0 : Int32) then (0 : Int32) else (1 : Int32))) = (0 : Int32)) => ?_) (fun (h247 : ¬ (if (f_Ref_bit rd (0 : Int32)) = (0 : Int32) then (0 : Int32) else (if (lg_cmp (f_Ref_unsigned (rg (ix ra))) (f_Ref_unsigned p0)) ≤ (0 : Int32) then (0 : Int32) else (1 : Int32))) = (0 : Int32)) => ?_)
              · have ef : f_Ref_trap p0 rg rs rl rd ra rn rf = (rs, rl, rn, rf) := by unfold f_Ref_trap; try dsimp only; rw [if_neg h4, if_neg h198, if_pos h204, if_pos h208, if_neg h212, if_neg h231, if_pos h247]
                exact k_vret hx hb hr hlocks hK hP hD hS [0, 1, 2, 3] rfl (by rw [ef] <;> rfl) d_Ref_trap_126
              · refine lv_aload_n hx hb d_Ref_trap_117 rfl (lv_at hl 4 rfl) ?_
                refine lv_sipush (v := (1792 : Int32)) hx hb d_Ref_trap_118 (by decide) ?_
                refine lv_ldc (v := (131072 : Int32)) hx hb hown (hB _ mw_773) d_Ref_trap_121 ?_
                let t248 := (f_Ref_exception (1792 : Int32) (131072 : Int32) rs)
                refine k_cVv (As := [.int (1792 : Int32), .int (131072 : Int32)]) (rest := []) (wr := []) (wj := [(aT, .inr (11, [.ref bG, .ref bS, .ref bM, .int t248.2.1, .int rk, .int rr, .int re, .int rc, .int rd, .int ra, .int rb, .int t248.2.2.1, .int t248.2.2.2, .int rw])), (bG, .inl (dG, 32, .inl rg)), (bS, .inl (dS, 48, .inl t248.1)), (bM, .inl (dM, 16384, .inl rm))]) ⟨hx, hb, hml, hown, hB⟩ (c_Ref_exception l D aT bG bS bM dG dS dM rg rs rm rl rk rr re rc rd ra rb rn rf rw (1792 : Int32) (131072 : Int32)) yl_Ref_exception mw_748 hK hN hP hD hS hA [0, 1, 2] [0, 1, 2, 3] [] [0, 1, 2, 3] rfl rfl rfl rfl (by decide +kernel) 0 rfl rfl rfl rfl hl.1 rfl (Nat.le_of_ble_eq_true rfl) ⟨Nat.le_of_ble_eq_true rfl, Nat.le_of_ble_eq_true rfl⟩ d_Ref_trap_123 ⟨Nat.le_of_ble_eq_true rfl, Nat.le_of_ble_eq_true rfl⟩ (fun H locs hP hD hS => ?_)
                have ef : f_Ref_trap p0 rg rs rl rd ra rn rf = (t248.1, t248.2.1, t248.2.2.1, t248.2.2.2) := by unfold f_Ref_trap; try dsimp only; rw [if_neg h4, if_neg h198, if_pos h204, if_pos h208, if_neg h212, if_neg h231, if_neg h247]
                exact k_vret hx hb hr hlocks hK hP hD hS [0, 1, 2, 3] rfl (by rw [ef] <;> rfl) d_Ref_trap_126
        · refine lv_iload_n hx hb d_Ref_trap_64 rfl (lv_at hl 2 rfl) ?_
          refine lv_iload_n hx hb d_Ref_trap_65 rfl (lv_at hl 4 rfl) ?_
          refine lv_icmp_eq (tgt := 105) hx hb d_Ref_trap_66 (by decide) (fun (h252 : (rg (ix ra)) = p0) => ?_) (fun (h252 : ¬ (rg (ix ra)) = p0) => ?_)
          · refine lv_iconst (v := (1 : Int32)) hx hb d_Ref_trap_105 (by decide) ?_
            refine lv_goto (tgt := 110) hx hb d_Ref_trap_106 (by decide) ?_
            refine lv_istore (lv' := [(7, .int (1 : Int32)), (5, .long (f_Ref_unsigned p0)), (3, .long (f_Ref_unsigned (rg (ix ra)))), (2, .int (rg (ix ra))), (0, .ref aT), (1, .int p0)]) hx hb d_Ref_trap_110 hl (by decide) rfl (fun ls hl => ?_)
            refine lv_iload hx hb d_Ref_trap_112 (lv_at hl 0 rfl) ?_
            refine lv_if_eq (tgt := 126) hx hb d_Ref_trap_114 (by decide) (fun h253 => ?_) (fun h253 => ?_)
            · exact absurd h253 (by decide)
            refine lv_aload_n hx hb d_Ref_trap_117 rfl (lv_at hl 4 rfl) ?_
            refine lv_sipush (v := (1792 : Int32)) hx hb d_Ref_trap_118 (by decide) ?_
            refine lv_ldc (v := (131072 : Int32)) hx hb hown (hB _ mw_773) d_Ref_trap_121 ?_
            let t254 := (f_Ref_exception (1792 : Int32) (131072 : Int32) rs)
            refine k_cVv (As := [.int (1792 : Int32), .int (131072 : Int32)]) (rest := []) (wr := []) (wj := [(aT, .inr (11, [.ref bG, .ref bS, .ref bM, .int t254.2.1, .int rk, .int rr, .int re, .int rc, .int rd, .int ra, .int rb, .int t254.2.2.1, .int t254.2.2.2, .int rw])), (bG, .inl (dG, 32, .inl rg)), (bS, .inl (dS, 48, .inl t254.1)), (bM, .inl (dM, 16384, .inl rm))]) ⟨hx, hb, hml, hown, hB⟩ (c_Ref_exception l D aT bG bS bM dG dS dM rg rs rm rl rk rr re rc rd ra rb rn rf rw (1792 : Int32) (131072 : Int32)) yl_Ref_exception mw_748 hK hN hP hD hS hA [0, 1, 2] [0, 1, 2, 3] [] [0, 1, 2, 3] rfl rfl rfl rfl (by decide +kernel) 0 rfl rfl rfl rfl hl.1 rfl (Nat.le_of_ble_eq_true rfl) ⟨Nat.le_of_ble_eq_true rfl, Nat.le_of_ble_eq_true rfl⟩ d_Ref_trap_123 ⟨Nat.le_of_ble_eq_true rfl, Nat.le_of_ble_eq_true rfl⟩ (fun H locs hP hD hS => ?_)
            have ef : f_Ref_trap p0 rg rs rl rd ra rn rf = (t254.1, t254.2.1, t254.2.2.1, t254.2.2.2) := by unfold f_Ref_trap; try dsimp only; rw [if_neg h4, if_neg h198, if_pos h204, if_neg h208, if_pos h252]
            exact k_vret hx hb hr hlocks hK hP hD hS [0, 1, 2, 3] rfl (by rw [ef] <;> rfl) d_Ref_trap_126
          · refine lv_aload_n hx hb d_Ref_trap_69 rfl (lv_at hl 3 rfl) ?_
            refine va_get (D := D) (ci := 11) (v := .int rd) (C := "MappedProcessorModel") (T := T_Ref) (N := 14) hx hb hB iw_Ref hown hK hP 0 rfl rfl 8 (by decide) (hB _ mw_651) (fun _ h9 => h9) rfl d_Ref_trap_70 ?_
            refine lv_iconst (v := (1 : Int32)) hx hb d_Ref_trap_73 (by decide) ?_
            refine k_cSi (As := [.int rd, .int (1 : Int32)]) (rest := []) (wr := [(aT, .inr (11, [.ref bG, .ref bS, .ref bM, .int rl, .int rk, .int rr, .int re, .int rc, .int rd, .int ra, .int rb, .int rn, .int rf, .int rw])), (bG, .inl (dG, 32, .inl rg)), (bS, .inl (dS, 48, .inl rs)), (bM, .inl (dM, 16384, .inl rm))]) (wj := [(aT, .inr (11, [.ref bG, .ref bS, .ref bM, .int rl, .int rk, .int rr, .int re, .int rc, .int rd, .int ra, .int rb, .int rn, .int rf, .int rw])), (bG, .inl (dG, 32, .inl rg)), (bS, .inl (dS, 48, .inl rs)), (bM, .inl (dM, 16384, .inl rm))]) ⟨hx, hb, hml, hown, hB⟩ (c_Ref_bit l D rd (1 : Int32)) yl_Ref_bit mw_725 hK hN hP hD hS hA [] [] [0, 1, 2, 3] [0, 1, 2, 3] rfl rfl rfl rfl (by decide +kernel) rfl hl.1 rfl (Nat.le_of_ble_eq_true rfl) ⟨Nat.le_of_ble_eq_true rfl, Nat.le_of_ble_eq_true rfl⟩ d_Ref_trap_74 ⟨Nat.le_of_ble_eq_true rfl, Nat.le_of_ble_eq_true rfl⟩ (fun H locs hP hD hS => ?_)
            refine lv_if_eq (tgt := 87) hx hb d_Ref_trap_77 (by decide) (fun (h258 : (f_Ref_bit rd (1 : Int32)) = (0 : Int32)) => ?_) (fun (h258 : ¬ (f_Ref_bit rd (1 : Int32)) = (0 : Int32)) => ?_)
            · refine lv_aload_n hx hb d_Ref_trap_87 rfl (lv_at hl 3 rfl) ?_
              refine va_get (D := D) (ci := 11) (v := .int rd) (C := "MappedProcessorModel") (T := T_Ref) (N := 14) hx hb hB iw_Ref hown hK hP 0 rfl rfl 8 (by decide) (hB _ mw_651) (fun _ h9 => h9) rfl d_Ref_trap_88 ?_
              refine lv_iconst (v := (0 : Int32)) hx hb d_Ref_trap_91 (by decide) ?_
              refine k_cSi (As := [.int rd, .int (0 : Int32)]) (rest := []) (wr := [(aT, .inr (11, [.ref bG, .ref bS, .ref bM, .int rl, .int rk, .int rr, .int re, .int rc, .int rd, .int ra, .int rb, .int rn, .int rf, .int rw])), (bG, .inl (dG, 32, .inl rg)), (bS, .inl (dS, 48, .inl rs)), (bM, .inl (dM, 16384, .inl rm))]) (wj := [(aT, .inr (11, [.ref bG, .ref bS, .ref bM, .int rl, .int rk, .int rr, .int re, .int rc, .int rd, .int ra, .int rb, .int rn, .int rf, .int rw])), (bG, .inl (dG, 32, .inl rg)), (bS, .inl (dS, 48, .inl rs)), (bM, .inl (dM, 16384, .inl rm))]) ⟨hx, hb, hml, hown, hB⟩ (c_Ref_bit l D rd (0 : Int32)) yl_Ref_bit mw_725 hK hN hP hD hS hA [] [] [0, 1, 2, 3] [0, 1, 2, 3] rfl rfl rfl rfl (by decide +kernel) rfl hl.1 rfl (Nat.le_of_ble_eq_true rfl) ⟨Nat.le_of_ble_eq_true rfl, Nat.le_of_ble_eq_true rfl⟩ d_Ref_trap_92 ⟨Nat.le_of_ble_eq_true rfl, Nat.le_of_ble_eq_true rfl⟩ (fun H locs hP hD hS => ?_)
              refine k_join2 (c0 := (f_Ref_bit rd (0 : Int32)) = (0 : Int32)) (x1 := (0 : Int32)) (x2 := (if (lg_cmp (f_Ref_unsigned (rg (ix ra))) (f_Ref_unsigned p0)) ≤ (0 : Int32) then (0 : Int32) else (1 : Int32))) (rest := []) 110 ?_ (fun k260 k261 => ?_)
              rotate_left
              · refine lv_if_eq (tgt := 109) hx hb d_Ref_trap_95 (by decide) (fun (h259 : (f_Ref_bit rd (0 : Int32)) = (0 : Int32)) => ?_) (fun (h259 : ¬ (f_Ref_bit rd (0 : Int32)) = (0 : Int32)) => ?_)
                · refine lv_iconst (v := (0 : Int32)) hx hb d_Ref_trap_109 (by decide) ?_
                  exact k260 h259
                · refine lv_lload_n hx hb d_Ref_trap_98 rfl (lv_at hl 1 rfl) ?_
                  refine lv_lload hx hb d_Ref_trap_99 (lv_at hl 0 rfl) ?_
                  refine W.lcmp hx hb d_Ref_trap_101 ?_
                  refine k_join2 (c0 := (lg_cmp (f_Ref_unsigned (rg (ix ra))) (f_Ref_unsigned p0)) ≤ (0 : Int32)) (x1 := (0 : Int32)) (x2 := (1 : Int32)) (rest := []) 110 ?_ (fun k263 k264 => ?_)
                  rotate_left
                  · refine lv_if_le (tgt := 109) hx hb d_Ref_trap_102 (by decide) (fun (h262 : (lg_cmp (f_Ref_unsigned (rg (ix ra))) (f_Ref_unsigned p0)) ≤ (0 : Int32)) => ?_) (fun (h262 : ¬ (lg_cmp (f_Ref_unsigned (rg (ix ra))) (f_Ref_unsigned p0)) ≤ (0 : Int32)) => ?_)
                    · refine lv_iconst (v := (0 : Int32)) hx hb d_Ref_trap_109 (by decide) ?_
                      exact k263 h262
                    · refine lv_iconst (v := (1 : Int32)) hx hb d_Ref_trap_105 (by decide) ?_
                      refine lv_goto (tgt := 110) hx hb d_Ref_trap_106 (by decide) ?_
                      exact k264 h262
                  exact k261 h259
              refine lv_istore (lv' := [(7, .int (if (f_Ref_bit rd (0 : Int32)) = (0 : Int32) then (0 : Int32) else (if (lg_cmp (f_Ref_unsigned (rg (ix ra))) (f_Ref_unsigned p0)) ≤ (0 : Int32) then (0 : Int32) else (1 : Int32)))), (5, .long (f_Ref_unsigned p0)), (3, .long (f_Ref_unsigned (rg (ix ra)))), (2, .int (rg (ix ra))), (0, .ref aT), (1, .int p0)]) hx hb d_Ref_trap_110 hl (by decide) rfl (fun ls hl => ?_)
              refine lv_iload hx hb d_Ref_trap_112 (lv_at hl 0 rfl) ?_
              refine lv_if_eq (tgt := 126) hx hb d_Ref_trap_114 (by decide) (fun (h272 : (if (f_Ref_bit rd (0 : Int32)) = (0 : Int32) then (0 : Int32) else (if (lg_cmp (f_Ref_unsigned (rg (ix ra))) (f_Ref_unsigned p0)) ≤ (0 : Int32) then (0 : Int32) else (1 : Int32))) = (0 : Int32)) => ?_) (fun (h272 : ¬ (if (f_Ref_bit rd (0 : Int32)) = (0 : Int32) then (0 : Int32) else (if (lg_cmp (f_Ref_unsigned (rg (ix ra))) (f_Ref_unsigned p0)) ≤ (0 : Int32) then (0 : Int32) else (1 : Int32))) = (0 : Int32)) => ?_)
              · have ef : f_Ref_trap p0 rg rs rl rd ra rn rf = (rs, rl, rn, rf) := by unfold f_Ref_trap; try dsimp only; rw [if_neg h4, if_neg h198, if_pos h204, if_neg h208, if_neg h252, if_pos h258, if_pos h272]
                exact k_vret hx hb hr hlocks hK hP hD hS [0, 1, 2, 3] rfl (by rw [ef] <;> rfl) d_Ref_trap_126
              · refine lv_aload_n hx hb d_Ref_trap_117 rfl (lv_at hl 4 rfl) ?_
                refine lv_sipush (v := (1792 : Int32)) hx hb d_Ref_trap_118 (by decide) ?_
                refine lv_ldc (v := (131072 : Int32)) hx hb hown (hB _ mw_773) d_Ref_trap_121 ?_
                let t273 := (f_Ref_exception (1792 : Int32) (131072 : Int32) rs)
                refine k_cVv (As := [.int (1792 : Int32), .int (131072 : Int32)]) (rest := []) (wr := []) (wj := [(aT, .inr (11, [.ref bG, .ref bS, .ref bM, .int t273.2.1, .int rk, .int rr, .int re, .int rc, .int rd, .int ra, .int rb, .int t273.2.2.1, .int t273.2.2.2, .int rw])), (bG, .inl (dG, 32, .inl rg)), (bS, .inl (dS, 48, .inl t273.1)), (bM, .inl (dM, 16384, .inl rm))]) ⟨hx, hb, hml, hown, hB⟩ (c_Ref_exception l D aT bG bS bM dG dS dM rg rs rm rl rk rr re rc rd ra rb rn rf rw (1792 : Int32) (131072 : Int32)) yl_Ref_exception mw_748 hK hN hP hD hS hA [0, 1, 2] [0, 1, 2, 3] [] [0, 1, 2, 3] rfl rfl rfl rfl (by decide +kernel) 0 rfl rfl rfl rfl hl.1 rfl (Nat.le_of_ble_eq_true rfl) ⟨Nat.le_of_ble_eq_true rfl, Nat.le_of_ble_eq_true rfl⟩ d_Ref_trap_123 ⟨Nat.le_of_ble_eq_true rfl, Nat.le_of_ble_eq_true rfl⟩ (fun H locs hP hD hS => ?_)
                have ef : f_Ref_trap p0 rg rs rl rd ra rn rf = (t273.1, t273.2.1, t273.2.2.1, t273.2.2.2) := by unfold f_Ref_trap; try dsimp only; rw [if_neg h4, if_neg h198, if_pos h204, if_neg h208, if_neg h252, if_pos h258, if_neg h272]
                exact k_vret hx hb hr hlocks hK hP hD hS [0, 1, 2, 3] rfl (by rw [ef] <;> rfl) d_Ref_trap_126
            · refine lv_lload_n hx hb d_Ref_trap_80 rfl (lv_at hl 1 rfl) ?_
              refine lv_lload hx hb d_Ref_trap_81 (lv_at hl 0 rfl) ?_
              refine W.lcmp hx hb d_Ref_trap_83 ?_
              refine lv_if_lt (tgt := 105) hx hb d_Ref_trap_84 (by decide) (fun (h277 : (lg_cmp (f_Ref_unsigned (rg (ix ra))) (f_Ref_unsigned p0)) < (0 : Int32)) => ?_) (fun (h277 : ¬ (lg_cmp (f_Ref_unsigned (rg (ix ra))) (f_Ref_unsigned p0)) < (0 : Int32)) => ?_)
              · refine lv_iconst (v := (1 : Int32)) hx hb d_Ref_trap_105 (by decide) ?_
                refine lv_goto (tgt := 110) hx hb d_Ref_trap_106 (by decide) ?_
                refine lv_istore (lv' := [(7, .int (1 : Int32)), (5, .long (f_Ref_unsigned p0)), (3, .long (f_Ref_unsigned (rg (ix ra)))), (2, .int (rg (ix ra))), (0, .ref aT), (1, .int p0)]) hx hb d_Ref_trap_110 hl (by decide) rfl (fun ls hl => ?_)
                refine lv_iload hx hb d_Ref_trap_112 (lv_at hl 0 rfl) ?_
                refine lv_if_eq (tgt := 126) hx hb d_Ref_trap_114 (by decide) (fun h278 => ?_) (fun h278 => ?_)
                · exact absurd h278 (by decide)
                refine lv_aload_n hx hb d_Ref_trap_117 rfl (lv_at hl 4 rfl) ?_
                refine lv_sipush (v := (1792 : Int32)) hx hb d_Ref_trap_118 (by decide) ?_
                refine lv_ldc (v := (131072 : Int32)) hx hb hown (hB _ mw_773) d_Ref_trap_121 ?_
                let t279 := (f_Ref_exception (1792 : Int32) (131072 : Int32) rs)
                refine k_cVv (As := [.int (1792 : Int32), .int (131072 : Int32)]) (rest := []) (wr := []) (wj := [(aT, .inr (11, [.ref bG, .ref bS, .ref bM, .int t279.2.1, .int rk, .int rr, .int re, .int rc, .int rd, .int ra, .int rb, .int t279.2.2.1, .int t279.2.2.2, .int rw])), (bG, .inl (dG, 32, .inl rg)), (bS, .inl (dS, 48, .inl t279.1)), (bM, .inl (dM, 16384, .inl rm))]) ⟨hx, hb, hml, hown, hB⟩ (c_Ref_exception l D aT bG bS bM dG dS dM rg rs rm rl rk rr re rc rd ra rb rn rf rw (1792 : Int32) (131072 : Int32)) yl_Ref_exception mw_748 hK hN hP hD hS hA [0, 1, 2] [0, 1, 2, 3] [] [0, 1, 2, 3] rfl rfl rfl rfl (by decide +kernel) 0 rfl rfl rfl rfl hl.1 rfl (Nat.le_of_ble_eq_true rfl) ⟨Nat.le_of_ble_eq_true rfl, Nat.le_of_ble_eq_true rfl⟩ d_Ref_trap_123 ⟨Nat.le_of_ble_eq_true rfl, Nat.le_of_ble_eq_true rfl⟩ (fun H locs hP hD hS => ?_)
                have ef : f_Ref_trap p0 rg rs rl rd ra rn rf = (t279.1, t279.2.1, t279.2.2.1, t279.2.2.2) := by unfold f_Ref_trap; try dsimp only; rw [if_neg h4, if_neg h198, if_pos h204, if_neg h208, if_neg h252, if_neg h258, if_pos h277]
                exact k_vret hx hb hr hlocks hK hP hD hS [0, 1, 2, 3] rfl (by rw [ef] <;> rfl) d_Ref_trap_126
              · refine lv_aload_n hx hb d_Ref_trap_87 rfl (lv_at hl 3 rfl) ?_
                refine va_get (D := D) (ci := 11) (v := .int rd) (C := "MappedProcessorModel") (T := T_Ref) (N := 14) hx hb hB iw_Ref hown hK hP 0 rfl rfl 8 (by decide) (hB _ mw_651) (fun _ h9 => h9) rfl d_Ref_trap_88 ?_
                refine lv_iconst (v := (0 : Int32)) hx hb d_Ref_trap_91 (by decide) ?_
                refine k_cSi (As := [.int rd, .int (0 : Int32)]) (rest := []) (wr := [(aT, .inr (11, [.ref bG, .ref bS, .ref bM, .int rl, .int rk, .int rr, .int re, .int rc, .int rd, .int ra, .int rb, .int rn, .int rf, .int rw])), (bG, .inl (dG, 32, .inl rg)), (bS, .inl (dS, 48, .inl rs)), (bM, .inl (dM, 16384, .inl rm))]) (wj := [(aT, .inr (11, [.ref bG, .ref bS, .ref bM, .int rl, .int rk, .int rr, .int re, .int rc, .int rd, .int ra, .int rb, .int rn, .int rf, .int rw])), (bG, .inl (dG, 32, .inl rg)), (bS, .inl (dS, 48, .inl rs)), (bM, .inl (dM, 16384, .inl rm))]) ⟨hx, hb, hml, hown, hB⟩ (c_Ref_bit l D rd (0 : Int32)) yl_Ref_bit mw_725 hK hN hP hD hS hA [] [] [0, 1, 2, 3] [0, 1, 2, 3] rfl rfl rfl rfl (by decide +kernel) rfl hl.1 rfl (Nat.le_of_ble_eq_true rfl) ⟨Nat.le_of_ble_eq_true rfl, Nat.le_of_ble_eq_true rfl⟩ d_Ref_trap_92 ⟨Nat.le_of_ble_eq_true rfl, Nat.le_of_ble_eq_true rfl⟩ (fun H locs hP hD hS => ?_)
                refine k_join2 (c0 := (f_Ref_bit rd (0 : Int32)) = (0 : Int32)) (x1 := (0 : Int32)) (x2 := (if (lg_cmp (f_Ref_unsigned (rg (ix ra))) (f_Ref_unsigned p0)) ≤ (0 : Int32) then (0 : Int32) else (1 : Int32))) (rest := []) 110 ?_ (fun k281 k282 => ?_)
                rotate_left
                · refine lv_if_eq (tgt := 109) hx hb d_Ref_trap_95 (by decide) (fun (h280 : (f_Ref_bit rd (0 : Int32)) = (0 : Int32)) => ?_) (fun (h280 : ¬ (f_Ref_bit rd (0 : Int32)) = (0 : Int32)) => ?_)
                  · refine lv_iconst (v := (0 : Int32)) hx hb d_Ref_trap_109 (by decide) ?_
                    exact k281 h280
                  · refine lv_lload_n hx hb d_Ref_trap_98 rfl (lv_at hl 1 rfl) ?_
                    refine lv_lload hx hb d_Ref_trap_99 (lv_at hl 0 rfl) ?_
                    refine W.lcmp hx hb d_Ref_trap_101 ?_
                    refine k_join2 (c0 := (lg_cmp (f_Ref_unsigned (rg (ix ra))) (f_Ref_unsigned p0)) ≤ (0 : Int32)) (x1 := (0 : Int32)) (x2 := (1 : Int32)) (rest := []) 110 ?_ (fun k284 k285 => ?_)
                    rotate_left
                    · refine lv_if_le (tgt := 109) hx hb d_Ref_trap_102 (by decide) (fun (h283 : (lg_cmp (f_Ref_unsigned (rg (ix ra))) (f_Ref_unsigned p0)) ≤ (0 : Int32)) => ?_) (fun (h283 : ¬ (lg_cmp (f_Ref_unsigned (rg (ix ra))) (f_Ref_unsigned p0)) ≤ (0 : Int32)) => ?_)
                      · refine lv_iconst (v := (0 : Int32)) hx hb d_Ref_trap_109 (by decide) ?_
                        exact k284 h283
                      · refine lv_iconst (v := (1 : Int32)) hx hb d_Ref_trap_105 (by decide) ?_
                        refine lv_goto (tgt := 110) hx hb d_Ref_trap_106 (by decide) ?_
                        exact k285 h283
                    exact k282 h280
                refine lv_istore (lv' := [(7, .int (if (f_Ref_bit rd (0 : Int32)) = (0 : Int32) then (0 : Int32) else (if (lg_cmp (f_Ref_unsigned (rg (ix ra))) (f_Ref_unsigned p0)) ≤ (0 : Int32) then (0 : Int32) else (1 : Int32)))), (5, .long (f_Ref_unsigned p0)), (3, .long (f_Ref_unsigned (rg (ix ra)))), (2, .int (rg (ix ra))), (0, .ref aT), (1, .int p0)]) hx hb d_Ref_trap_110 hl (by decide) rfl (fun ls hl => ?_)
                refine lv_iload hx hb d_Ref_trap_112 (lv_at hl 0 rfl) ?_
                refine lv_if_eq (tgt := 126) hx hb d_Ref_trap_114 (by decide) (fun (h293 : (if (f_Ref_bit rd (0 : Int32)) = (0 : Int32) then (0 : Int32) else (if (lg_cmp (f_Ref_unsigned (rg (ix ra))) (f_Ref_unsigned p0)) ≤ (0 : Int32) then (0 : Int32) else (1 : Int32))) = (0 : Int32)) => ?_) (fun (h293 : ¬ (if (f_Ref_bit rd (0 : Int32)) = (0 : Int32) then (0 : Int32) else (if (lg_cmp (f_Ref_unsigned (rg (ix ra))) (f_Ref_unsigned p0)) ≤ (0 : Int32) then (0 : Int32) else (1 : Int32))) = (0 : Int32)) => ?_)
                · have ef : f_Ref_trap p0 rg rs rl rd ra rn rf = (rs, rl, rn, rf) := by unfold f_Ref_trap; try dsimp only; rw [if_neg h4, if_neg h198, if_pos h204, if_neg h208, if_neg h252, if_neg h258, if_neg h277, if_pos h293]
                  exact k_vret hx hb hr hlocks hK hP hD hS [0, 1, 2, 3] rfl (by rw [ef] <;> rfl) d_Ref_trap_126
                · refine lv_aload_n hx hb d_Ref_trap_117 rfl (lv_at hl 4 rfl) ?_
                  refine lv_sipush (v := (1792 : Int32)) hx hb d_Ref_trap_118 (by decide) ?_
                  refine lv_ldc (v := (131072 : Int32)) hx hb hown (hB _ mw_773) d_Ref_trap_121 ?_
                  let t294 := (f_Ref_exception (1792 : Int32) (131072 : Int32) rs)
                  refine k_cVv (As := [.int (1792 : Int32), .int (131072 : Int32)]) (rest := []) (wr := []) (wj := [(aT, .inr (11, [.ref bG, .ref bS, .ref bM, .int t294.2.1, .int rk, .int rr, .int re, .int rc, .int rd, .int ra, .int rb, .int t294.2.2.1, .int t294.2.2.2, .int rw])), (bG, .inl (dG, 32, .inl rg)), (bS, .inl (dS, 48, .inl t294.1)), (bM, .inl (dM, 16384, .inl rm))]) ⟨hx, hb, hml, hown, hB⟩ (c_Ref_exception l D aT bG bS bM dG dS dM rg rs rm rl rk rr re rc rd ra rb rn rf rw (1792 : Int32) (131072 : Int32)) yl_Ref_exception mw_748 hK hN hP hD hS hA [0, 1, 2] [0, 1, 2, 3] [] [0, 1, 2, 3] rfl rfl rfl rfl (by decide +kernel) 0 rfl rfl rfl rfl hl.1 rfl (Nat.le_of_ble_eq_true rfl) ⟨Nat.le_of_ble_eq_true rfl, Nat.le_of_ble_eq_true rfl⟩ d_Ref_trap_123 ⟨Nat.le_of_ble_eq_true rfl, Nat.le_of_ble_eq_true rfl⟩ (fun H locs hP hD hS => ?_)
                  have ef : f_Ref_trap p0 rg rs rl rd ra rn rf = (t294.1, t294.2.1, t294.2.2.1, t294.2.2.2) := by unfold f_Ref_trap; try dsimp only; rw [if_neg h4, if_neg h198, if_pos h204, if_neg h208, if_neg h252, if_neg h258, if_neg h277, if_neg h293]
                  exact k_vret hx hb hr hlocks hK hP hD hS [0, 1, 2, 3] rfl (by rw [ef] <;> rfl) d_Ref_trap_126
      · refine lv_iload_n hx hb d_Ref_trap_48 rfl (lv_at hl 2 rfl) ?_
        refine lv_iload_n hx hb d_Ref_trap_49 rfl (lv_at hl 4 rfl) ?_
        refine lv_icmp_gt (tgt := 105) hx hb d_Ref_trap_50 (by decide) (fun (h298 : p0 < (rg (ix ra))) => ?_) (fun (h298 : ¬ p0 < (rg (ix ra))) => ?_)
        · refine lv_iconst (v := (1 : Int32)) hx hb d_Ref_trap_105 (by decide) ?_
          refine lv_goto (tgt := 110) hx hb d_Ref_trap_106 (by decide) ?_
          refine lv_istore (lv' := [(7, .int (1 : Int32)), (5, .long (f_Ref_unsigned p0)), (3, .long (f_Ref_unsigned (rg (ix ra)))), (2, .int (rg (ix ra))), (0, .ref aT), (1, .int p0)]) hx hb d_Ref_trap_110 hl (by decide) rfl (fun ls hl => ?_)
          refine lv_iload hx hb d_Ref_trap_112 (lv_at hl 0 rfl) ?_
          refine lv_if_eq (tgt := 126) hx hb d_Ref_trap_114 (by decide) (fun h299 => ?_) (fun h299 => ?_)
          · exact absurd h299 (by decide)
          refine lv_aload_n hx hb d_Ref_trap_117 rfl (lv_at hl 4 rfl) ?_
          refine lv_sipush (v := (1792 : Int32)) hx hb d_Ref_trap_118 (by decide) ?_
          refine lv_ldc (v := (131072 : Int32)) hx hb hown (hB _ mw_773) d_Ref_trap_121 ?_
          let t300 := (f_Ref_exception (1792 : Int32) (131072 : Int32) rs)
          refine k_cVv (As := [.int (1792 : Int32), .int (131072 : Int32)]) (rest := []) (wr := []) (wj := [(aT, .inr (11, [.ref bG, .ref bS, .ref bM, .int t300.2.1, .int rk, .int rr, .int re, .int rc, .int rd, .int ra, .int rb, .int t300.2.2.1, .int t300.2.2.2, .int rw])), (bG, .inl (dG, 32, .inl rg)), (bS, .inl (dS, 48, .inl t300.1)), (bM, .inl (dM, 16384, .inl rm))]) ⟨hx, hb, hml, hown, hB⟩ (c_Ref_exception l D aT bG bS bM dG dS dM rg rs rm rl rk rr re rc rd ra rb rn rf rw (1792 : Int32) (131072 : Int32)) yl_Ref_exception mw_748 hK hN hP hD hS hA [0, 1, 2] [0, 1, 2, 3] [] [0, 1, 2, 3] rfl rfl rfl rfl (by decide +kernel) 0 rfl rfl rfl rfl hl.1 rfl (Nat.le_of_ble_eq_true rfl) ⟨Nat.le_of_ble_eq_true rfl, Nat.le_of_ble_eq_true rfl⟩ d_Ref_trap_123 ⟨Nat.le_of_ble_eq_true rfl, Nat.le_of_ble_eq_true rfl⟩ (fun H locs hP hD hS => ?_)
          have ef : f_Ref_trap p0 rg rs rl rd ra rn rf = (t300.1, t300.2.1, t300.2.2.1, t300.2.2.2) := by unfold f_Ref_trap; try dsimp only; rw [if_neg h4, if_neg h198, if_neg h204, if_pos h298]
          exact k_vret hx hb hr hlocks hK hP hD hS [0, 1, 2, 3] rfl (by rw [ef] <;> rfl) d_Ref_trap_126
        · refine lv_aload_n hx hb d_Ref_trap_53 rfl (lv_at hl 3 rfl) ?_
          refine va_get (D := D) (ci := 11) (v := .int rd) (C := "MappedProcessorModel") (T := T_Ref) (N := 14) hx hb hB iw_Ref hown hK hP 0 rfl rfl 8 (by decide) (hB _ mw_651) (fun _ h9 => h9) rfl d_Ref_trap_54 ?_
          refine lv_iconst (v := (2 : Int32)) hx hb d_Ref_trap_57 (by decide) ?_
          refine k_cSi (As := [.int rd, .int (2 : Int32)]) (rest := []) (wr := [(aT, .inr (11, [.ref bG, .ref bS, .ref bM, .int rl, .int rk, .int rr, .int re, .int rc, .int rd, .int ra, .int rb, .int rn, .int rf, .int rw])), (bG, .inl (dG, 32, .inl rg)), (bS, .inl (dS, 48, .inl rs)), (bM, .inl (dM, 16384, .inl rm))]) (wj := [(aT, .inr (11, [.ref bG, .ref bS, .ref bM, .int rl, .int rk, .int rr, .int re, .int rc, .int rd, .int ra, .int rb, .int rn, .int rf, .int rw])), (bG, .inl (dG, 32, .inl rg)), (bS, .inl (dS, 48, .inl rs)), (bM, .inl (dM, 16384, .inl rm))]) ⟨hx, hb, hml, hown, hB⟩ (c_Ref_bit l D rd (2 : Int32)) yl_Ref_bit mw_725 hK hN hP hD hS hA [] [] [0, 1, 2, 3] [0, 1, 2, 3] rfl rfl rfl rfl (by decide +kernel) rfl hl.1 rfl (Nat.le_of_ble_eq_true rfl) ⟨Nat.le_of_ble_eq_true rfl, Nat.le_of_ble_eq_true rfl⟩ d_Ref_trap_58 ⟨Nat.le_of_ble_eq_true rfl, Nat.le_of_ble_eq_true rfl⟩ (fun H locs hP hD hS => ?_)
          refine lv_if_eq (tgt := 69) hx hb d_Ref_trap_61 (by decide) (fun (h304 : (f_Ref_bit rd (2 : Int32)) = (0 : Int32)) => ?_) (fun (h304 : ¬ (f_Ref_bit rd (2 : Int32)) = (0 : Int32)) => ?_)
          · refine lv_aload_n hx hb d_Ref_trap_69 rfl (lv_at hl 3 rfl) ?_
            refine va_get (D := D) (ci := 11) (v := .int rd) (C := "MappedProcessorModel") (T := T_Ref) (N := 14) hx hb hB iw_Ref hown hK hP 0 rfl rfl 8 (by decide) (hB _ mw_651) (fun _ h9 => h9) rfl d_Ref_trap_70 ?_
            refine lv_iconst (v := (1 : Int32)) hx hb d_Ref_trap_73 (by decide) ?_
            refine k_cSi (As := [.int rd, .int (1 : Int32)]) (rest := []) (wr := [(aT, .inr (11, [.ref bG, .ref bS, .ref bM, .int rl, .int rk, .int rr, .int re, .int rc, .int rd, .int ra, .int rb, .int rn, .int rf, .int rw])), (bG, .inl (dG, 32, .inl rg)), (bS, .inl (dS, 48, .inl rs)), (bM, .inl (dM, 16384, .inl rm))]) (wj := [(aT, .inr (11, [.ref bG, .ref bS, .ref bM, .int rl, .int rk, .int rr, .int re, .int rc, .int rd, .int ra, .int rb, .int rn, .int rf, .int rw])), (bG, .inl (dG, 32, .inl rg)), (bS, .inl (dS, 48, .inl rs)), (bM, .inl (dM, 16384, .inl rm))]) ⟨hx, hb, hml, hown, hB⟩ (c_Ref_bit l D rd (1 : Int32)) yl_Ref_bit mw_725 hK hN hP hD hS hA [] [] [0, 1, 2, 3] [0, 1, 2, 3] rfl rfl rfl rfl (by decide +kernel) rfl hl.1 rfl (Nat.le_of_ble_eq_true rfl) ⟨Nat.le_of_ble_eq_true rfl, Nat.le_of_ble_eq_true rfl⟩ d_Ref_trap_74 ⟨Nat.le_of_ble_eq_true rfl, Nat.le_of_ble_eq_true rfl⟩ (fun H locs hP hD hS => ?_)
            refine lv_if_eq (tgt := 87) hx hb d_Ref_trap_77 (by decide) (fun (h308 : (f_Ref_bit rd (1 : Int32)) = (0 : Int32)) => ?_) (fun (h308 : ¬ (f_Ref_bit rd (1 : Int32)) = (0 : Int32)) => ?_)
            · refine lv_aload_n hx hb d_Ref_trap_87 rfl (lv_at hl 3 rfl) ?_
              refine va_get (D := D) (ci := 11) (v := .int rd) (C := "MappedProcessorModel") (T := T_Ref) (N := 14) hx hb hB iw_Ref hown hK hP 0 rfl rfl 8 (by decide) (hB _ mw_651) (fun _ h9 => h9) rfl d_Ref_trap_88 ?_
              refine lv_iconst (v := (0 : Int32)) hx hb d_Ref_trap_91 (by decide) ?_
              refine k_cSi (As := [.int rd, .int (0 : Int32)]) (rest := []) (wr := [(aT, .inr (11, [.ref bG, .ref bS, .ref bM, .int rl, .int rk, .int rr, .int re, .int rc, .int rd, .int ra, .int rb, .int rn, .int rf, .int rw])), (bG, .inl (dG, 32, .inl rg)), (bS, .inl (dS, 48, .inl rs)), (bM, .inl (dM, 16384, .inl rm))]) (wj := [(aT, .inr (11, [.ref bG, .ref bS, .ref bM, .int rl, .int rk, .int rr, .int re, .int rc, .int rd, .int ra, .int rb, .int rn, .int rf, .int rw])), (bG, .inl (dG, 32, .inl rg)), (bS, .inl (dS, 48, .inl rs)), (bM, .inl (dM, 16384, .inl rm))]) ⟨hx, hb, hml, hown, hB⟩ (c_Ref_bit l D rd (0 : Int32)) yl_Ref_bit mw_725 hK hN hP hD hS hA [] [] [0, 1, 2, 3] [0, 1, 2, 3] rfl rfl rfl rfl (by decide +kernel) rfl hl.1 rfl (Nat.le_of_ble_eq_true rfl) ⟨Nat.le_of_ble_eq_true rfl, Nat.le_of_ble_eq_true rfl⟩ d_Ref_trap_92 ⟨Nat.le_of_ble_eq_true rfl, Nat.le_of_ble_eq_true rfl⟩ (fun H locs hP hD hS => ?_)
              refine k_join2 (c0 := (f_Ref_bit rd (0 : Int32)) = (0 : Int32)) (x1 := (0 : Int32)) (x2 := (if (lg_cmp (f_Ref_unsigned (rg (ix ra))) (f_Ref_unsigned p0)) ≤ (0 : Int32) then (0 : Int32) else (1 : Int32))) (rest := []) 110 ?_ (fun k310 k311 => ?_)
              rotate_left
              · refine lv_if_eq (tgt := 109) hx hb d_Ref_trap_95 (by decide) (fun (h309 : (f_Ref_bit rd (0 : Int32)) = (0 : Int32)) => ?_) (fun (h309 : ¬ (f_Ref_bit rd (0 : Int32)) = (0 : Int32)) => ?_)
                · refine lv_iconst (v := (0 : Int32)) hx hb d_Ref_trap_109 (by decide) ?_
                  exact k310 h309
                · refine lv_lload_n hx hb d_Ref_trap_98 rfl (lv_at hl 1 rfl) ?_
                  refine lv_lload hx hb d_Ref_trap_99 (lv_at hl 0 rfl) ?_
                  refine W.lcmp hx hb d_Ref_trap_101 ?_
                  refine k_join2 (c0 := (lg_cmp (f_Ref_unsigned (rg (ix ra))) (f_Ref_unsigned p0)) ≤ (0 : Int32)) (x1 := (0 : Int32)) (x2 := (1 : Int32)) (rest := []) 110 ?_ (fun k313 k314 => ?_)
                  rotate_left
                  · refine lv_if_le (tgt := 109) hx hb d_Ref_trap_102 (by decide) (fun (h312 : (lg_cmp (f_Ref_unsigned (rg (ix ra))) (f_Ref_unsigned p0)) ≤ (0 : Int32)) => ?_) (fun (h312 : ¬ (lg_cmp (f_Ref_unsigned (rg (ix ra))) (f_Ref_unsigned p0)) ≤ (0 : Int32)) => ?_)
                    · refine lv_iconst (v := (0 : Int32)) hx hb d_Ref_trap_109 (by decide) ?_
                      exact k313 h312
                    · refine lv_iconst (v := (1 : Int32)) hx hb d_Ref_trap_105 (by decide) ?_
                      refine lv_goto (tgt := 110) hx hb d_Ref_trap_106 (by decide) ?_
                      exact k314 h312
                  exact k311 h309
              refine lv_istore (lv' := [(7, .int (if (f_Ref_bit rd (0 : Int32)) = (0 : Int32) then (0 : Int32) else (if (lg_cmp (f_Ref_unsigned (rg (ix ra))) (f_Ref_unsigned p0)) ≤ (0 : Int32) then (0 : Int32) else (1 : Int32)))), (5, .long (f_Ref_unsigned p0)), (3, .long (f_Ref_unsigned (rg (ix ra)))), (2, .int (rg (ix ra))), (0, .ref aT), (1, .int p0)]) hx hb d_Ref_trap_110 hl (by decide) rfl (fun ls hl => ?_)
              refine lv_iload hx hb d_Ref_trap_112 (lv_at hl 0 rfl) ?_
              refine lv_if_eq (tgt := 126) hx hb d_Ref_trap_114 (by decide) (fun (h322 : (if (f_Ref_bit rd (0 : Int32)) = (0 : Int32) then (0 : Int32) else (if (lg_cmp (f_Ref_unsigned (rg (ix ra))) (f_Ref_unsigned p0)) ≤ (0 : Int32) then (0 : Int32) else (1 : Int32))) = (0 : Int32)) => ?_) (fun (h322 : ¬ (if (f_Ref_bit rd (0 : Int32)) = (0 : Int32) then (0 : Int32) else (if (lg_cmp (f_Ref_unsigned (rg (ix ra))) (f_Ref_unsigned p0)) ≤ (0 : Int32) then (0 : Int32) else (1 : Int32))) = (0 : Int32)) => ?_)
              · have ef : f_Ref_trap p0 rg rs rl rd ra rn rf = (rs, rl, rn, rf) := by unfold f_Ref_trap; try dsimp only; rw [if_neg h4, if_neg h198, if_neg h204, if_neg h298, if_pos h304, if_pos h308, if_pos h322]
                exact k_vret hx hb hr hlocks hK hP hD hS [0, 1, 2, 3] rfl (by rw [ef] <;> rfl) d_Ref_trap_126
              · refine lv_aload_n hx hb d_Ref_trap_117 rfl (lv_at hl 4 rfl) ?_
                refine lv_sipush (v := (1792 : Int32)) hx hb d_Ref_trap_118 (by decide) ?_
                refine lv_ldc (v := (131072 : Int32)) hx hb hown (hB _ mw_773) d_Ref_trap_121 ?_
                let t323 := (f_Ref_exception (1792 : Int32) (131072 : Int32) rs)
                refine k_cVv (As := [.int (1792 : Int32), .int (131072 : Int32)]) (rest := []) (wr := []) (wj := [(aT, .inr (11, [.ref bG, .ref bS, .ref bM, .int t323.2.1, .int rk, .int rr, .int re, .int rc, .int rd, .int ra, .int rb, .int t323.2.2.1, .int t323.2.2.2, .int rw])), (bG, .inl (dG, 32, .inl rg)), (bS, .inl (dS, 48, .inl t323.1)), (bM, .inl (dM, 16384, .inl rm))]) ⟨hx, hb, hml, hown, hB⟩ (c_Ref_exception l D aT bG bS bM dG dS dM rg rs rm rl rk rr re rc rd ra rb rn rf rw (1792 : Int32) (131072 : Int32)) yl_Ref_exception mw_748 hK hN hP hD hS hA [0, 1, 2] [0, 1, 2, 3] [] [0, 1, 2, 3] rfl rfl rfl rfl (by decide +kernel) 0 rfl rfl rfl rfl hl.1 rfl (Nat.le_of_ble_eq_true rfl) ⟨Nat.le_of_ble_eq_true rfl, Nat.le_of_ble_eq_true rfl⟩ d_Ref_trap_123 ⟨Nat.le_of_ble_eq_true rfl, Nat.le_of_ble_eq_true rfl⟩ (fun H locs hP hD hS => ?_)
                have ef : f_Ref_trap p0 rg rs rl rd ra rn rf = (t323.1, t323.2.1, t323.2.2.1, t323.2.2.2) := by unfold f_Ref_trap; try dsimp only; rw [if_neg h4, if_neg h198, if_neg h204, if_neg h298, if_pos h304, if_pos h308, if_neg h322]
                exact k_vret hx hb hr hlocks hK hP hD hS [0, 1, 2, 3] rfl (by rw [ef] <;> rfl) d_Ref_trap_126
            · refine lv_lload_n hx hb d_Ref_trap_80 rfl (lv_at hl 1 rfl) ?_
              refine lv_lload hx hb d_Ref_trap_81 (lv_at hl 0 rfl) ?_
              refine W.lcmp hx hb d_Ref_trap_83 ?_
              refine lv_if_lt (tgt := 105) hx hb d_Ref_trap_84 (by decide) (fun (h327 : (lg_cmp (f_Ref_unsigned (rg (ix ra))) (f_Ref_unsigned p0)) < (0 : Int32)) => ?_) (fun (h327 : ¬ (lg_cmp (f_Ref_unsigned (rg (ix ra))) (f_Ref_unsigned p0)) < (0 : Int32)) => ?_)
              · refine lv_iconst (v := (1 : Int32)) hx hb d_Ref_trap_105 (by decide) ?_
                refine lv_goto (tgt := 110) hx hb d_Ref_trap_106 (by decide) ?_
                refine lv_istore (lv' := [(7, .int (1 : Int32)), (5, .long (f_Ref_unsigned p0)), (3, .long (f_Ref_unsigned (rg (ix ra)))), (2, .int (rg (ix ra))), (0, .ref aT), (1, .int p0)]) hx hb d_Ref_trap_110 hl (by decide) rfl (fun ls hl => ?_)
                refine lv_iload hx hb d_Ref_trap_112 (lv_at hl 0 rfl) ?_
                refine lv_if_eq (tgt := 126) hx hb d_Ref_trap_114 (by decide) (fun h328 => ?_) (fun h328 => ?_)
                · exact absurd h328 (by decide)
                refine lv_aload_n hx hb d_Ref_trap_117 rfl (lv_at hl 4 rfl) ?_
                refine lv_sipush (v := (1792 : Int32)) hx hb d_Ref_trap_118 (by decide) ?_
                refine lv_ldc (v := (131072 : Int32)) hx hb hown (hB _ mw_773) d_Ref_trap_121 ?_
                let t329 := (f_Ref_exception (1792 : Int32) (131072 : Int32) rs)
                refine k_cVv (As := [.int (1792 : Int32), .int (131072 : Int32)]) (rest := []) (wr := []) (wj := [(aT, .inr (11, [.ref bG, .ref bS, .ref bM, .int t329.2.1, .int rk, .int rr, .int re, .int rc, .int rd, .int ra, .int rb, .int t329.2.2.1, .int t329.2.2.2, .int rw])), (bG, .inl (dG, 32, .inl rg)), (bS, .inl (dS, 48, .inl t329.1)), (bM, .inl (dM, 16384, .inl rm))]) ⟨hx, hb, hml, hown, hB⟩ (c_Ref_exception l D aT bG bS bM dG dS dM rg rs rm rl rk rr re rc rd ra rb rn rf rw (1792 : Int32) (131072 : Int32)) yl_Ref_exception mw_748 hK hN hP hD hS hA [0, 1, 2] [0, 1, 2, 3] [] [0, 1, 2, 3] rfl rfl rfl rfl (by decide +kernel) 0 rfl rfl rfl rfl hl.1 rfl (Nat.le_of_ble_eq_true rfl) ⟨Nat.le_of_ble_eq_true rfl, Nat.le_of_ble_eq_true rfl⟩ d_Ref_trap_123 ⟨Nat.le_of_ble_eq_true rfl, Nat.le_of_ble_eq_true rfl⟩ (fun H locs hP hD hS => ?_)
                have ef : f_Ref_trap p0 rg rs rl rd ra rn rf = (t329.1, t329.2.1, t329.2.2.1, t329.2.2.2) := by unfold f_Ref_trap; try dsimp only; rw [if_neg h4, if_neg h198, if_neg h204, if_neg h298, if_pos h304, if_neg h308, if_pos h327]
                exact k_vret hx hb hr hlocks hK hP hD hS [0, 1, 2, 3] rfl (by rw [ef] <;> rfl) d_Ref_trap_126
              · refine lv_aload_n hx hb d_Ref_trap_87 rfl (lv_at hl 3 rfl) ?_
                refine va_get (D := D) (ci := 11) (v := .int rd) (C := "MappedProcessorModel") (T := T_Ref) (N := 14) hx hb hB iw_Ref hown hK hP 0 rfl rfl 8 (by decide) (hB _ mw_651) (fun _ h9 => h9) rfl d_Ref_trap_88 ?_
                refine lv_iconst (v := (0 : Int32)) hx hb d_Ref_trap_91 (by decide) ?_
                refine k_cSi (As := [.int rd, .int (0 : Int32)]) (rest := []) (wr := [(aT, .inr (11, [.ref bG, .ref bS, .ref bM, .int rl, .int rk, .int rr, .int re, .int rc, .int rd, .int ra, .int rb, .int rn, .int rf, .int rw])), (bG, .inl (dG, 32, .inl rg)), (bS, .inl (dS, 48, .inl rs)), (bM, .inl (dM, 16384, .inl rm))]) (wj := [(aT, .inr (11, [.ref bG, .ref bS, .ref bM, .int rl, .int rk, .int rr, .int re, .int rc, .int rd, .int ra, .int rb, .int rn, .int rf, .int rw])), (bG, .inl (dG, 32, .inl rg)), (bS, .inl (dS, 48, .inl rs)), (bM, .inl (dM, 16384, .inl rm))]) ⟨hx, hb, hml, hown, hB⟩ (c_Ref_bit l D rd (0 : Int32)) yl_Ref_bit mw_725 hK hN hP hD hS hA [] [] [0, 1, 2, 3] [0, 1, 2, 3] rfl rfl rfl rfl (by decide +kernel) rfl hl.1 rfl (Nat.le_of_ble_eq_true rfl) ⟨Nat.le_of_ble_eq_true rfl, Nat.le_of_ble_eq_true rfl⟩ d_Ref_trap_92 ⟨Nat.le_of_ble_eq_true rfl, Nat.le_of_ble_eq_true rfl⟩ (fun H locs hP hD hS => ?_)
                refine k_join2 (c0 := (f_Ref_bit rd (0 : Int32)) = (0 : Int32)) (x1 := (0 : Int32)) (x2 := (if (lg_cmp (f_Ref_unsigned (rg (ix ra))) (f_Ref_unsigned p0)) ≤ (0 : Int32) then (0 : Int32) else (1 : Int32))) (rest := []) 110 ?_ (fun k331 k332 => ?_)
                rotate_left
                · refine lv_if_eq (tgt := 109) hx hb d_Ref_trap_95 (by decide) (fun (h330 : (f_Ref_bit rd (0 : Int32)) = (0 : Int32)) => ?_) (fun (h330 : ¬ (f_Ref_bit rd (0 : Int32)) = (0 : Int32)) => ?_)
                  · refine lv_iconst (v := (0 : Int32)) hx hb d_Ref_trap_109 (by decide) ?_
                    exact k331 h330
                  · refine lv_lload_n hx hb d_Ref_trap_98 rfl (lv_at hl 1 rfl) ?_
                    refine lv_lload hx hb d_Ref_trap_99 (lv_at hl 0 rfl) ?_
                    refine W.lcmp hx hb d_Ref_trap_101 ?_
                    refine k_join2 (c0 := (lg_cmp (f_Ref_unsigned (rg (ix ra))) (f_Ref_unsigned p0)) ≤ (0 : Int32)) (x1 := (0 : Int32)) (x2 := (1 : Int32)) (rest := []) 110 ?_ (fun k334 k335 => ?_)
                    rotate_left
                    · refine lv_if_le (tgt := 109) hx hb d_Ref_trap_102 (by decide) (fun (h333 : (lg_cmp (f_Ref_unsigned (rg (ix ra))) (f_Ref_unsigned p0)) ≤ (0 : Int32)) => ?_) (fun (h333 : ¬ (lg_cmp (f_Ref_unsigned (rg (ix ra))) (f_Ref_unsigned p0)) ≤ (0 : Int32)) => ?_)
                      · refine lv_iconst (v := (0 : Int32)) hx hb d_Ref_trap_109 (by decide) ?_
                        exact k334 h333
                      · refine lv_iconst (v := (1 : Int32)) hx hb d_Ref_trap_105 (by decide) ?_
                        refine lv_goto (tgt := 110) hx hb d_Ref_trap_106 (by decide) ?_
                        exact k335 h333
                    exact k332 h330
                refine lv_istore (lv' := [(7, .int (if (f_Ref_bit rd (0 : Int32)) = (0 : Int32) then (0 : Int32) else (if (lg_cmp (f_Ref_unsigned (rg (ix ra))) (f_Ref_unsigned p0)) ≤ (0 : Int32) then (0 : Int32) else (1 : Int32)))), (5, .long (f_Ref_unsigned p0)), (3, .long (f_Ref_unsigned (rg (ix ra)))), (2, .int (rg (ix ra))), (0, .ref aT), (1, .int p0)]) hx hb d_Ref_trap_110 hl (by decide) rfl (fun ls hl => ?_)
                refine lv_iload hx hb d_Ref_trap_112 (lv_at hl 0 rfl) ?_
                refine lv_if_eq (tgt := 126) hx hb d_Ref_trap_114 (by decide) (fun (h343 : (if (f_Ref_bit rd (0 : Int32)) = (0 : Int32) then (0 : Int32) else (if (lg_cmp (f_Ref_unsigned (rg (ix ra))) (f_Ref_unsigned p0)) ≤ (0 : Int32) then (0 : Int32) else (1 : Int32))) = (0 : Int32)) => ?_) (fun (h343 : ¬ (if (f_Ref_bit rd (0 : Int32)) = (0 : Int32) then (0 : Int32) else (if (lg_cmp (f_Ref_unsigned (rg (ix ra))) (f_Ref_unsigned p0)) ≤ (0 : Int32) then (0 : Int32) else (1 : Int32))) = (0 : Int32)) => ?_)
                · have ef : f_Ref_trap p0 rg rs rl rd ra rn rf = (rs, rl, rn, rf) := by unfold f_Ref_trap; try dsimp only; rw [if_neg h4, if_neg h198, if_neg h204, if_neg h298, if_pos h304, if_neg h308, if_neg h327, if_pos h343]
                  exact k_vret hx hb hr hlocks hK hP hD hS [0, 1, 2, 3] rfl (by rw [ef] <;> rfl) d_Ref_trap_126
                · refine lv_aload_n hx hb d_Ref_trap_117 rfl (lv_at hl 4 rfl) ?_
                  refine lv_sipush (v := (1792 : Int32)) hx hb d_Ref_trap_118 (by decide) ?_
                  refine lv_ldc (v := (131072 : Int32)) hx hb hown (hB _ mw_773) d_Ref_trap_121 ?_
                  let t344 := (f_Ref_exception (1792 : Int32) (131072 : Int32) rs)
                  refine k_cVv (As := [.int (1792 : Int32), .int (131072 : Int32)]) (rest := []) (wr := []) (wj := [(aT, .inr (11, [.ref bG, .ref bS, .ref bM, .int t344.2.1, .int rk, .int rr, .int re, .int rc, .int rd, .int ra, .int rb, .int t344.2.2.1, .int t344.2.2.2, .int rw])), (bG, .inl (dG, 32, .inl rg)), (bS, .inl (dS, 48, .inl t344.1)), (bM, .inl (dM, 16384, .inl rm))]) ⟨hx, hb, hml, hown, hB⟩ (c_Ref_exception l D aT bG bS bM dG dS dM rg rs rm rl rk rr re rc rd ra rb rn rf rw (1792 : Int32) (131072 : Int32)) yl_Ref_exception mw_748 hK hN hP hD hS hA [0, 1, 2] [0, 1, 2, 3] [] [0, 1, 2, 3] rfl rfl rfl rfl (by decide +kernel) 0 rfl rfl rfl rfl hl.1 rfl (Nat.le_of_ble_eq_true rfl) ⟨Nat.le_of_ble_eq_true rfl, Nat.le_of_ble_eq_true rfl⟩ d_Ref_trap_123 ⟨Nat.le_of_ble_eq_true rfl, Nat.le_of_ble_eq_true rfl⟩ (fun H locs hP hD hS => ?_)
                  have ef : f_Ref_trap p0 rg rs rl rd ra rn rf = (t344.1, t344.2.1, t344.2.2.1, t344.2.2.2) := by unfold f_Ref_trap; try dsimp only; rw [if_neg h4, if_neg h198, if_neg h204, if_neg h298, if_pos h304, if_neg h308, if_neg h327, if_neg h343]
                  exact k_vret hx hb hr hlocks hK hP hD hS [0, 1, 2, 3] rfl (by rw [ef] <;> rfl) d_Ref_trap_126
          · refine lv_iload_n hx hb d_Ref_trap_64 rfl (lv_at hl 2 rfl) ?_
            refine lv_iload_n hx hb d_Ref_trap_65 rfl (lv_at hl 4 rfl) ?_
            refine lv_icmp_eq (tgt := 105) hx hb d_Ref_trap_66 (by decide) (fun (h348 : (rg (ix ra)) = p0) => ?_) (fun (h348 : ¬ (rg (ix ra)) = p0) => ?_)
            · refine lv_iconst (v := (1 : Int32)) hx hb d_Ref_trap_105 (by decide) ?_
              refine lv_goto (tgt := 110) hx hb d_Ref_trap_106 (by decide) ?_
              refine lv_istore (lv' := [(7, .int (1 : Int32)), (5, .long (f_Ref_unsigned p0)), (3, .long (f_Ref_unsigned (rg (ix ra)))), (2, .int (rg (ix ra))), (0, .ref aT), (1, .int p0)]) hx hb d_Ref_trap_110 hl (by decide) rfl (fun ls hl => ?_)
              refine lv_iload hx hb d_Ref_trap_112 (lv_at hl 0 rfl) ?_
              refine lv_if_eq (tgt := 126) hx hb d_Ref_trap_114 (by decide) (fun h349 => ?_) (fun h349 => ?_)
              · exact absurd h349 (by decide)
              refine lv_aload_n hx hb d_Ref_trap_117 rfl (lv_at hl 4 rfl) ?_
              refine lv_sipush (v := (1792 : Int32)) hx hb d_Ref_trap_118 (by decide) ?_
              refine lv_ldc (v := (131072 : Int32)) hx hb hown (hB _ mw_773) d_Ref_trap_121 ?_
              let t350 := (f_Ref_exception (1792 : Int32) (131072 : Int32) rs)
              refine k_cVv (As := [.int (1792 : Int32), .int (131072 : Int32)]) (rest := []) (wr := []) (wj := [(aT, .inr (11, [.ref bG, .ref bS, .ref bM, .int t350.2.1, .int rk, .int rr, .int re, .int rc, .int rd, .int ra, .int rb, .int t350.2.2.1, .int t350.2.2.2, .int rw])), (bG, .inl (dG, 32, .inl rg)), (bS, .inl (dS, 48, .inl t350.1)), (bM, .inl (dM, 16384, .inl rm))]) ⟨hx, hb, hml, hown, hB⟩ (c_Ref_exception l D aT bG bS bM dG dS dM rg rs rm rl rk rr re rc rd ra rb rn rf rw (1792 : Int32) (131072 : Int32)) yl_Ref_exception mw_748 hK hN hP hD hS hA [0, 1, 2] [0, 1, 2, 3] [] [0, 1, 2, 3] rfl rfl rfl rfl (by decide +kernel) 0 rfl rfl rfl rfl hl.1 rfl (Nat.le_of_ble_eq_true rfl) ⟨Nat.le_of_ble_eq_true rfl, Nat.le_of_ble_eq_true rfl⟩ d_Ref_trap_123 ⟨Nat.le_of_ble_eq_true rfl, Nat.le_of_ble_eq_true rfl⟩ (fun H locs hP hD hS => ?_)
              have ef : f_Ref_trap p0 rg rs rl rd ra rn rf = (t350.1, t350.2.1, t350.2.2.1, t350.2.2.2) := by unfold f_Ref_trap; try dsimp only; rw [if_neg h4, if_neg h198, if_neg h204, if_neg h298, if_neg h304, if_pos h348]
              exact k_vret hx hb hr hlocks hK hP hD hS [0, 1, 2, 3] rfl (by rw [ef] <;> rfl) d_Ref_trap_126
            · refine lv_aload_n hx hb d_Ref_trap_69 rfl (lv_at hl 3 rfl) ?_
              refine va_get (D := D) (ci := 11) (v := .int rd) (C := "MappedProcessorModel") (T := T_Ref) (N := 14) hx hb hB iw_Ref hown hK hP 0 rfl rfl 8 (by decide) (hB _ mw_651) (fun _ h9 => h9) rfl d_Ref_trap_70 ?_
              refine lv_iconst (v := (1 : Int32)) hx hb d_Ref_trap_73 (by decide) ?_
              refine k_cSi (As := [.int rd, .int (1 : Int32)]) (rest := []) (wr := [(aT, .inr (11, [.ref bG, .ref bS, .ref bM, .int rl, .int rk, .int rr, .int re, .int rc, .int rd, .int ra, .int rb, .int rn, .int rf, .int rw])), (bG, .inl (dG, 32, .inl rg)), (bS, .inl (dS, 48, .inl rs)), (bM, .inl (dM, 16384, .inl rm))]) (wj := [(aT, .inr (11, [.ref bG, .ref bS, .ref bM, .int rl, .int rk, .int rr, .int re, .int rc, .int rd, .int ra, .int rb, .int rn, .int rf, .int rw])), (bG, .inl (dG, 32, .inl rg)), (bS, .inl (dS, 48, .inl rs)), (bM, .inl (dM, 16384, .inl rm))]) ⟨hx, hb, hml, hown, hB⟩ (c_Ref_bit l D rd (1 : Int32)) yl_Ref_bit mw_725 hK hN hP hD hS hA [] [] [0, 1, 2, 3] [0, 1, 2, 3] rfl rfl rfl rfl (by decide +kernel) rfl hl.1 rfl (Nat.le_of_ble_eq_true rfl) ⟨Nat.le_of_ble_eq_true rfl, Nat.le_of_ble_eq_true rfl⟩ d_Ref_trap_74 ⟨Nat.le_of_ble_eq_true rfl, Nat.le_of_ble_eq_true rfl⟩ (fun H locs hP hD hS => ?_)
              refine lv_if_eq (tgt := 87) hx hb d_Ref_trap_77 (by decide) (fun (h354 : (f_Ref_bit rd (1 : Int32)) = (0 : Int32)) => ?_) (fun (h354 : ¬ (f_Ref_bit rd (1 : Int32)) = (0 : Int32)) => ?_)
              · refine lv_aload_n hx hb d_Ref_trap_87 rfl (lv_at hl 3 rfl) ?_
                refine va_get (D := D) (ci := 11) (v := .int rd) (C := "MappedProcessorModel") (T := T_Ref) (N := 14) hx hb hB iw_Ref hown hK hP 0 rfl rfl 8 (by decide) (hB _ mw_651) (fun _ h9 => h9) rfl d_Ref_trap_88 ?_
                refine lv_iconst (v := (0 : Int32)) hx hb d_Ref_trap_91 (by decide) ?_
                refine k_cSi (As := [.int rd, .int (0 : Int32)]) (rest := []) (wr := [(aT, .inr (11, [.ref bG, .ref bS, .ref bM, .int rl, .int rk, .int rr, .int re, .int rc, .int rd, .int ra, .int rb, .int rn, .int rf, .int rw])), (bG, .inl (dG, 32, .inl rg)), (bS, .inl (dS, 48, .inl rs)), (bM, .inl (dM, 16384, .inl rm))]) (wj := [(aT, .inr (11, [.ref bG, .ref bS, .ref bM, .int rl, .int rk, .int rr, .int re, .int rc, .int rd, .int ra, .int rb, .int rn, .int rf, .int rw])), (bG, .inl (dG, 32, .inl rg)), (bS, .inl (dS, 48, .inl rs)), (bM, .inl (dM, 16384, .inl rm))]) ⟨hx, hb, hml, hown, hB⟩ (c_Ref_bit l D rd (0 : Int32)) yl_Ref_bit mw_725 hK hN hP hD hS hA [] [] [0, 1, 2, 3] [0, 1, 2, 3] rfl rfl rfl rfl (by decide +kernel) rfl hl.1 rfl (Nat.le_of_ble_eq_true rfl) ⟨Nat.le_of_ble_eq_true rfl, Nat.le_of_ble_eq_true rfl⟩ d_Ref_trap_92 ⟨Nat.le_of_ble_eq_true rfl, Nat.le_of_ble_eq_true rfl⟩ (fun H locs hP hD hS => ?_)
                refine k_join2 (c0 := (f_Ref_bit rd (0 : Int32)) = (0 : Int32)) (x1 := (0 : Int32)) (x2 := (if (lg_cmp (f_Ref_unsigned (rg (ix ra))) (f_Ref_unsigned p0)) ≤ (0 : Int32) then (0 : Int32) else (1 : Int32))) (rest := []) 110 ?_ (fun k356 k357 => ?_)
                rotate_left
                · refine lv_if_eq (tgt := 109) hx hb d_Ref_trap_95 (by decide) (fun (h355 : (f_Ref_bit rd (0 : Int32)) = (0 : Int32)) => ?_) (fun (h355 : ¬ (f_Ref_bit rd (0 : Int32)) = (0 : Int32)) => ?_)
                  · refine lv_iconst (v := (0 : Int32)) hx hb d_Ref_trap_109 (by decide) ?_
                    exact k356 h355
                  · refine lv_lload_n hx hb d_Ref_trap_98 rfl (lv_at hl 1 rfl) ?_
                    refine lv_lload hx hb d_Ref_trap_99 (lv_at hl 0 rfl) ?_
                    refine W.lcmp hx hb d_Ref_trap_101 ?_
                    refine k_join2 (c0 := (lg_cmp (f_Ref_unsigned (rg (ix ra))) (f_Ref_unsigned p0)) ≤ (0 : Int32)) (x1 := (0 : Int32)) (x2 := (1 : Int32)) (rest := []) 110 ?_ (fun k359 k360 => ?_)
                    rotate_left
                    · refine lv_if_le (tgt := 109) hx hb d_Ref_trap_102 (by decide) (fun (h358 : (lg_cmp (f_Ref_unsigned (rg (ix ra))) (f_Ref_unsigned p0)) ≤ (0 : Int32)) => ?_) (fun (h358 : ¬ (lg_cmp (f_Ref_unsigned (rg (ix ra))) (f_Ref_unsigned p0)) ≤ (0 : Int32)) => ?_)
                      · refine lv_iconst (v := (0 : Int32)) hx hb d_Ref_trap_109 (by decide) ?_
                        exact k359 h358
                      · refine lv_iconst (v := (1 : Int32)) hx hb d_Ref_trap_105 (by decide) ?_
                        refine lv_goto (tgt := 110) hx hb d_Ref_trap_106 (by decide) ?_
                        exact k360 h358
                    exact k357 h355
                refine lv_istore (lv' := [(7, .int (if (f_Ref_bit rd (0 : Int32)) = (0 : Int32) then (0 : Int32) else (if (lg_cmp (f_Ref_unsigned (rg (ix ra))) (f_Ref_unsigned p0)) ≤ (0 : Int32) then (0 : Int32) else (1 : Int32)))), (5, .long (f_Ref_unsigned p0)), (3, .long (f_Ref_unsigned (rg (ix ra)))), (2, .int (rg (ix ra))), (0, .ref aT), (1, .int p0)]) hx hb d_Ref_trap_110 hl (by decide) rfl (fun ls hl => ?_)
                refine lv_iload hx hb d_Ref_trap_112 (lv_at hl 0 rfl) ?_
                refine lv_if_eq (tgt := 126) hx hb d_Ref_trap_114 (by decide) (fun (h368 : (if (f_Ref_bit rd (0 : Int32)) = (0 : Int32) then (0 : Int32) else (if (lg_cmp (f_Ref_unsigned (rg (ix ra))) (f_Ref_unsigned p0)) ≤ (0 : Int32) then (0 : Int32) else (1 : Int32))) = (0 : Int32)) => ?_) (fun (h368 : ¬ (if (f_Ref_bit rd (0 : Int32)) = (0 : Int32) then (0 : Int32) else (if (lg_cmp (f_Ref_unsigned (rg (ix ra))) (f_Ref_unsigned p0)) ≤ (0 : Int32) then (0 : Int32) else (1 : Int32))) = (0 : Int32)) => ?_)
                · have ef : f_Ref_trap p0 rg rs rl rd ra rn rf = (rs, rl, rn, rf) := by unfold f_Ref_trap; try dsimp only; rw [if_neg h4, if_neg h198, if_neg h204, if_neg h298, if_neg h304, if_neg h348, if_pos h354, if_pos h368]
                  exact k_vret hx hb hr hlocks hK hP hD hS [0, 1, 2, 3] rfl (by rw [ef] <;> rfl) d_Ref_trap_126
                · refine lv_aload_n hx hb d_Ref_trap_117 rfl (lv_at hl 4 rfl) ?_
                  refine lv_sipush (v := (1792 : Int32)) hx hb d_Ref_trap_118 (by decide) ?_
                  refine lv_ldc (v := (131072 : Int32)) hx hb hown (hB _ mw_773) d_Ref_trap_121 ?_
                  let t369 := (f_Ref_exception (1792 : Int32) (131072 : Int32) rs)
                  refine k_cVv (As := [.int (1792 : Int32), .int (131072 : Int32)]) (rest := []) (wr := []) (wj := [(aT, .inr (11, [.ref bG, .ref bS, .ref bM, .int t369.2.1, .int rk, .int rr, .int re, .int rc, .int rd, .int ra, .int rb, .int t369.2.2.1, .int t369.2.2.2, .int rw])), (bG, .inl (dG, 32, .inl rg)), (bS, .inl (dS, 48, .inl t369.1)), (bM, .inl (dM, 16384, .inl rm))]) ⟨hx, hb, hml, hown, hB⟩ (c_Ref_exception l D aT bG bS bM dG dS dM rg rs rm rl rk rr re rc rd ra rb rn rf rw (1792 : Int32) (131072 : Int32)) yl_Ref_exception mw_748 hK hN hP hD hS hA [0, 1, 2] [0, 1, 2, 3] [] [0, 1, 2, 3] rfl rfl rfl rfl (by decide +kernel) 0 rfl rfl rfl rfl hl.1 rfl (Nat.le_of_ble_eq_true rfl) ⟨Nat.le_of_ble_eq_true rfl, Nat.le_of_ble_eq_true rfl⟩ d_Ref_trap_123 ⟨Nat.le_of_ble_eq_true rfl, Nat.le_of_ble_eq_true rfl⟩ (fun H locs hP hD hS => ?_)
                  have ef : f_Ref_trap p0 rg rs rl rd ra rn rf = (t369.1, t369.2.1, t369.2.2.1, t369.2.2.2) := by unfold f_Ref_trap; try dsimp only; rw [if_neg h4, if_neg h198, if_neg h204, if_neg h298, if_neg h304, if_neg h348, if_pos h354, if_neg h368]
                  exact k_vret hx hb hr hlocks hK hP hD hS [0, 1, 2, 3] rfl (by rw [ef] <;> rfl) d_Ref_trap_126
              · refine lv_lload_n hx hb d_Ref_trap_80 rfl (lv_at hl 1 rfl) ?_
                refine lv_lload hx hb d_Ref_trap_81 (lv_at hl 0 rfl) ?_
                refine W.lcmp hx hb d_Ref_trap_83 ?_
                refine lv_if_lt (tgt := 105) hx hb d_Ref_trap_84 (by decide) (fun (h373 : (lg_cmp (f_Ref_unsigned (rg (ix ra))) (f_Ref_unsigned p0)) < (0 : Int32)) => ?_) (fun (h373 : ¬ (lg_cmp (f_Ref_unsigned (rg (ix ra))) (f_Ref_unsigned p0)) < (0 : Int32)) => ?_)
                · refine lv_iconst (v := (1 : Int32)) hx hb d_Ref_trap_105 (by decide) ?_
                  refine lv_goto (tgt := 110) hx hb d_Ref_trap_106 (by decide) ?_
                  refine lv_istore (lv' := [(7, .int (1 : Int32)), (5, .long (f_Ref_unsigned p0)), (3, .long (f_Ref_unsigned (rg (ix ra)))), (2, .int (rg (ix ra))), (0, .ref aT), (1, .int p0)]) hx hb d_Ref_trap_110 hl (by decide) rfl (fun ls hl => ?_)
                  refine lv_iload hx hb d_Ref_trap_112 (lv_at hl 0 rfl) ?_
                  refine lv_if_eq (tgt := 126) hx hb d_Ref_trap_114 (by decide) (fun h374 => ?_) (fun h374 => ?_)
                  · exact absurd h374 (by decide)
                  refine lv_aload_n hx hb d_Ref_trap_117 rfl (lv_at hl 4 rfl) ?_
                  refine lv_sipush (v := (1792 : Int32)) hx hb d_Ref_trap_118 (by decide) ?_
                  refine lv_ldc (v := (131072 : Int32)) hx hb hown (hB _ mw_773) d_Ref_trap_121 ?_
                  let t375 := (f_Ref_exception (1792 : Int32) (131072 : Int32) rs)
                  refine k_cVv (As := [.int (1792 : Int32), .int (131072 : Int32)]) (rest := []) (wr := []) (wj := [(aT, .inr (11, [.ref bG, .ref bS, .ref bM, .int t375.2.1, .int rk, .int rr, .int re, .int rc, .int rd, .int ra, .int rb, .int t375.2.2.1, .int t375.2.2.2, .int rw])), (bG, .inl (dG, 32, .inl rg)), (bS, .inl (dS, 48, .inl t375.1)), (bM, .inl (dM, 16384, .inl rm))]) ⟨hx, hb, hml, hown, hB⟩ (c_Ref_exception l D aT bG bS bM dG dS dM rg rs rm rl rk rr re rc rd ra rb rn rf rw (1792 : Int32) (131072 : Int32)) yl_Ref_exception mw_748 hK hN hP hD hS hA [0, 1, 2] [0, 1, 2, 3] [] [0, 1, 2, 3] rfl rfl rfl rfl (by decide +kernel) 0 rfl rfl rfl rfl hl.1 rfl (Nat.le_of_ble_eq_true rfl) ⟨Nat.le_of_ble_eq_true rfl, Nat.le_of_ble_eq_true rfl⟩ d_Ref_trap_123 ⟨Nat.le_of_ble_eq_true rfl, Nat.le_of_ble_eq_true rfl⟩ (fun H locs hP hD hS => ?_)
                  have ef : f_Ref_trap p0 rg rs rl rd ra rn rf = (t375.1, t375.2.1, t375.2.2.1, t375.2.2.2) := by unfold f_Ref_trap; try dsimp only; rw [if_neg h4, if_neg h198, if_neg h204, if_neg h298, if_neg h304, if_neg h348, if_neg h354, if_pos h373]
                  exact k_vret hx hb hr hlocks hK hP hD hS [0, 1, 2, 3] rfl (by rw [ef] <;> rfl) d_Ref_trap_126
                · refine lv_aload_n hx hb d_Ref_trap_87 rfl (lv_at hl 3 rfl) ?_
                  refine va_get (D := D) (ci := 11) (v := .int rd) (C := "MappedProcessorModel") (T := T_Ref) (N := 14) hx hb hB iw_Ref hown hK hP 0 rfl rfl 8 (by decide) (hB _ mw_651) (fun _ h9 => h9) rfl d_Ref_trap_88 ?_
                  refine lv_iconst (v := (0 : Int32)) hx hb d_Ref_trap_91 (by decide) ?_
                  refine k_cSi (As := [.int rd, .int (0 : Int32)]) (rest := []) (wr := [(aT, .inr (11, [.ref bG, .ref bS, .ref bM, .int rl, .int rk, .int rr, .int re, .int rc, .int rd, .int ra, .int rb, .int rn, .int rf, .int rw])), (bG, .inl (dG, 32, .inl rg)), (bS, .inl (dS, 48, .inl rs)), (bM, .inl (dM, 16384, .inl rm))]) (wj := [(aT, .inr (11, [.ref bG, .ref bS, .ref bM, .int rl, .int rk, .int rr, .int re, .int rc, .int rd, .int ra, .int rb, .int rn, .int rf, .int rw])), (bG, .inl (dG, 32, .inl rg)), (bS, .inl (dS, 48, .inl rs)), (bM, .inl (dM, 16384, .inl rm))]) ⟨hx, hb, hml, hown, hB⟩ (c_Ref_bit l D rd (0 : Int32)) yl_Ref_bit mw_725 hK hN hP hD hS hA [] [] [0, 1, 2, 3] [0, 1, 2, 3] rfl rfl rfl rfl (by decide +kernel) rfl hl.1 rfl (Nat.le_of_ble_eq_true rfl) ⟨Nat.le_of_ble_eq_true rfl, Nat.le_of_ble_eq_true rfl⟩ d_Ref_trap_92 ⟨Nat.le_of_ble_eq_true rfl, Nat.le_of_ble_eq_true rfl⟩ (fun H locs hP hD hS => ?_)
                  refine k_join2 (c0 := (f_Ref_bit rd (0 : Int32)) = (0 : Int32)) (x1 := (0 : Int32)) (x2 := (if (lg_cmp (f_Ref_unsigned (rg (ix ra))) (f_Ref_unsigned p0)) ≤ (0 : Int32) then (0 : Int32) else (1 : Int32))) (rest := []) 110 ?_ (fun k377 k378 => ?_)
                  rotate_left
                  · refine lv_if_eq (tgt := 109) hx hb d_Ref_trap_95 (by decide) (fun (h376 : (f_Ref_bit rd (0 : Int32)) = (0 : Int32)) => ?_) (fun (h376 : ¬ (f_Ref_bit rd (0 : Int32)) = (0 : Int32)) => ?_)
                    · refine lv_iconst (v := (0 : Int32)) hx hb d_Ref_trap_109 (by decide) ?_
                      exact k377 h376
                    · refine lv_lload_n hx hb d_Ref_trap_98 rfl (lv_at hl 1 rfl) ?_
                      refine lv_lload hx hb d_Ref_trap_99 (lv_at hl 0 rfl) ?_
                      refine W.lcmp hx hb d_Ref_trap_101 ?_
                      refine k_join2 (c0 := (lg_cmp (f_Ref_unsigned (rg (ix ra))) (f_Ref_unsigned p0)) ≤ (0 : Int32)) (x1 := (0 : Int32)) (x2 := (1 : Int32)) (rest := []) 110 ?_ (fun k380 k381 => ?_)
                      rotate_left
                      · refine lv_if_le (tgt := 109) hx hb d_Ref_trap_102 (by decide) (fun (h379 : (lg_cmp (f_Ref_unsigned (rg (ix ra))) (f_Ref_unsigned p0)) ≤ (0 : Int32)) => ?_) (fun (h379 : ¬ (lg_cmp (f_Ref_unsigned (rg (ix ra))) (f_Ref_unsigned p0)) ≤ (0 : Int32)) => ?_)
                        · refine lv_iconst (v := (0 : Int32)) hx hb d_Ref_trap_109 (by decide) ?_
                          exact k380 h379
                        · refine lv_iconst (v := (1 : Int32)) hx hb d_Ref_trap_105 (by decide) ?_
                          refine lv_goto (tgt := 110) hx hb d_Ref_trap_106 (by decide) ?_
                          exact k381 h379
                      exact k378 h376
                  refine lv_istore (lv' := [(7, .int (if (f_Ref_bit rd (0 : Int32)) = (0 : Int32) then (0 : Int32) else (if (lg_cmp (f_Ref_unsigned (rg (ix ra))) (f_Ref_unsigned p0)) ≤ (0 : Int32) then (0 : Int32) else (1 : Int32)))), (5, .long (f_Ref_unsigned p0)), (3, .long (f_Ref_unsigned (rg (ix ra)))), (2, .int (rg (ix ra))), (0, .ref aT), (1, .int p0)]) hx hb d_Ref_trap_110 hl (by decide) rfl (fun ls hl => ?_)
                  refine lv_iload hx hb d_Ref_trap_112 (lv_at hl 0 rfl) ?_
                  refine lv_if_eq (tgt := 126) hx hb d_Ref_trap_114 (by decide) (fun (h389 : (if (f_Ref_bit rd (0 : Int32)) = (0 : Int32) then (0 : Int32) else (if (lg_cmp (f_Ref_unsigned (rg (ix ra))) (f_Ref_unsigned p0)) ≤ (0 : Int32) then (0 : Int32) else (1 : Int32))) = (0 : Int32)) => ?_) (fun (h389 : ¬ (if (f_Ref_bit rd (0 : Int32)) = (0 : Int32) then (0 : Int32) else (if (lg_cmp (f_Ref_unsigned (rg (ix ra))) (f_Ref_unsigned p0)) ≤ (0 : Int32) then (0 : Int32) else (1 : Int32))) = (0 : Int32)) => ?_)
                  · have ef : f_Ref_trap p0 rg rs rl rd ra rn rf = (rs, rl, rn, rf) := by unfold f_Ref_trap; try dsimp only; rw [if_neg h4, if_neg h198, if_neg h204, if_neg h298, if_neg h304, if_neg h348, if_neg h354, if_neg h373, if_pos h389]
                    exact k_vret hx hb hr hlocks hK hP hD hS [0, 1, 2, 3] rfl (by rw [ef] <;> rfl) d_Ref_trap_126
                  · refine lv_aload_n hx hb d_Ref_trap_117 rfl (lv_at hl 4 rfl) ?_
                    refine lv_sipush (v := (1792 : Int32)) hx hb d_Ref_trap_118 (by decide) ?_
                    refine lv_ldc (v := (131072 : Int32)) hx hb hown (hB _ mw_773) d_Ref_trap_121 ?_
                    let t390 := (f_Ref_exception (1792 : Int32) (131072 : Int32) rs)
                    refine k_cVv (As := [.int (1792 : Int32), .int (131072 : Int32)]) (rest := []) (wr := []) (wj := [(aT, .inr (11, [.ref bG, .ref bS, .ref bM, .int t390.2.1, .int rk, .int rr, .int re, .int rc, .int rd, .int ra, .int rb, .int t390.2.2.1, .int t390.2.2.2, .int rw])), (bG, .inl (dG, 32, .inl rg)), (bS, .inl (dS, 48, .inl t390.1)), (bM, .inl (dM, 16384, .inl rm))]) ⟨hx, hb, hml, hown, hB⟩ (c_Ref_exception l D aT bG bS bM dG dS dM rg rs rm rl rk rr re rc rd ra rb rn rf rw (1792 : Int32) (131072 : Int32)) yl_Ref_exception mw_748 hK hN hP hD hS hA [0, 1, 2] [0, 1, 2, 3] [] [0, 1, 2, 3] rfl rfl rfl rfl (by decide +kernel) 0 rfl rfl rfl rfl hl.1 rfl (Nat.le_of_ble_eq_true rfl) ⟨Nat.le_of_ble_eq_true rfl, Nat.le_of_ble_eq_true rfl⟩ d_Ref_trap_123 ⟨Nat.le_of_ble_eq_true rfl, Nat.le_of_ble_eq_true rfl⟩ (fun H locs hP hD hS => ?_)
                    have ef : f_Ref_trap p0 rg rs rl rd ra rn rf = (t390.1, t390.2.1, t390.2.2.1, t390.2.2.2) := by unfold f_Ref_trap; try dsimp only; rw [if_neg h4, if_neg h198, if_neg h204, if_neg h298, if_neg h304, if_neg h348, if_neg h354, if_neg h373, if_neg h389]
                    exact k_vret hx hb hr hlocks hK hP hD hS [0, 1, 2, 3] rfl (by rw [ef] <;> rfl) d_Ref_trap_126
/-! MappedProcessorModel.carry(Z)V -/
theorem d_Ref_carry_0 : decode b_Ref_carry 0 = .ok (.aload_n 0, 1) := by decide +kernel
theorem d_Ref_carry_1 : decode b_Ref_carry 1 = .ok (.getfield 13, 3) := by decide +kernel
theorem d_Ref_carry_4 : decode b_Ref_carry 4 = .ok (.iconst 3, 1) := by decide +kernel
theorem d_Ref_carry_5 : decode b_Ref_carry 5 = .ok (.iload_n 1, 1) := by decide +kernel
theorem d_Ref_carry_6 : decode b_Ref_carry 6 = .ok (.ifCond .eq 15, 3) := by decide +kernel
theorem d_Ref_carry_9 : decode b_Ref_carry 9 = .ok (.aload_n 0, 1) := by decide +kernel
theorem d_Ref_carry_10 : decode b_Ref_carry 10 = .ok (.getfield 13, 3) := by decide +kernel
theorem d_Ref_carry_13 : decode b_Ref_carry 13 = .ok (.iconst 3, 1) := by decide +kernel
theorem d_Ref_carry_14 : decode b_Ref_carry 14 = .ok (.iaload, 1) := by decide +kernel
theorem d_Ref_carry_15 : decode b_Ref_carry 15 = .ok (.ldc 101, 2) := by decide +kernel
theorem d_Ref_carry_17 : decode b_Ref_carry 17 = .ok (.ior, 1) := by decide +kernel
theorem d_Ref_carry_18 : decode b_Ref_carry 18 = .ok (.goto 12, 3) := by decide +kernel
theorem d_Ref_carry_21 : decode b_Ref_carry 21 = .ok (.aload_n 0, 1) := by decide +kernel
theorem d_Ref_carry_22 : decode b_Ref_carry 22 = .ok (.getfield 13, 3) := by decide +kernel
theorem d_Ref_carry_25 : decode b_Ref_carry 25 = .ok (.iconst 3, 1) := by decide +kernel
theorem d_Ref_carry_26 : decode b_Ref_carry 26 = .ok (.iaload, 1) := by decide +kernel
theorem d_Ref_carry_27 : decode b_Ref_carry 27 = .ok (.ldc 102, 2) := by decide +kernel
theorem d_Ref_carry_29 : decode b_Ref_carry 29 = .ok (.iand, 1) := by decide +kernel
theorem d_Ref_carry_30 : decode b_Ref_carry 30 = .ok (.iastore, 1) := by decide +kernel
theorem d_Ref_carry_31 : decode b_Ref_carry 31 = .ok (.return_, 1) := by decide +kernel
def f_Ref_carry (p0 : Int32) (rs : Nat → Int32) : (Nat → Int32) :=
  (upd rs 3 (if p0 = (0 : Int32) then ((rs 3) &&& (-536870913 : Int32)) else ((rs 3) ||| (536870912 : Int32))))
set_option maxHeartbeats 4000000 in
set_option maxRecDepth 100000 in
theorem c_Ref_carry (l : Launch) (D : va_G) (aT bG bS bM : Nat) (dG dS dM : ClassId) (rg : Nat → Int32) (rs : Nat → Int32) (rm : Nat → Int32) (rl : Int32) (rk : Int32) (rr : Int32) (re : Int32) (rc : Int32) (rd : Int32) (ra : Int32) (rb : Int32) (rn : Int32) (rf : Int32) (rw : Int32) (p0 : Int32) : kMv l y_Ref_carry b_Ref_carry 2 none 0 0 D kCl [(dG, .int), (dS, .int), (dM, .int)] [.ref aT, .int p0] [(aT, .inr (11, [.ref bG, .ref bS, .ref bM, .int rl, .int rk, .int rr, .int re, .int rc, .int rd, .int ra, .int rb, .int rn, .int rf, .int rw])), (bG, .inl (dG, 32, .inl rg)), (bS, .inl (dS, 48, .inl rs)), (bM, .inl (dM, 16384, .inl rm))] [(aT, .inr (11, [.ref bG, .ref bS, .ref bM, .int rl, .int rk, .int rr, .int re, .int rc, .int rd, .int ra, .int rb, .int rn, .int rf, .int rw])), (bG, .inl (dG, 32, .inl rg)), (bS, .inl (dS, 48, .inl (f_Ref_carry p0 rs))), (bM, .inl (dM, 16384, .inl rm))] := by
  refine k_entry (Qc := fun A => kQv D kCl [(dG, .int), (dS, .int), (dM, .int)] [(aT, .inr (11, [.ref bG, .ref bS, .ref bM, .int rl, .int rk, .int rr, .int re, .int rc, .int rd, .int ra, .int rb, .int rn, .int rf, .int rw])), (bG, .inl (dG, 32, .inl rg)), (bS, .inl (dS, 48, .inl (f_Ref_carry p0 rs))), (bM, .inl (dM, 16384, .inl rm))] A) (lv := [(0, .ref aT), (1, .int p0)]) (by decide) (Nat.le_of_ble_eq_true rfl) rfl ?_
  intro p e s m below meth c A ls hx hb hr hml hB hown hlocks hin hA hK hN hP hD hS hl
  have hown : s.vm.findClass "MappedProcessorModel" = some m.cls := hown
  refine lv_aload_n hx hb d_Ref_carry_0 rfl (lv_at hl 0 rfl) ?_
  refine va_get (D := D) (ci := 11) (v := .ref bS) (C := "MappedProcessorModel") (T := T_Ref) (N := 14) hx hb hB iw_Ref hown hK hP 0 rfl rfl 1 (by decide) (hB _ mw_644) (fun _ h9 => h9) rfl d_Ref_carry_1 ?_
  refine lv_iconst (v := (3 : Int32)) hx hb d_Ref_carry_4 (by decide) ?_
  refine lv_iload_n hx hb d_Ref_carry_5 rfl (lv_at hl 1 rfl) ?_
  refine k_join2 (c0 := p0 = (0 : Int32)) (x1 := ((rs 3) &&& (-536870913 : Int32))) (x2 := ((rs 3) ||| (536870912 : Int32))) (rest := [.int (3 : Int32), .ref bS]) 30 ?_ (fun k2 k3 => ?_)
  rotate_left
  · refine lv_if_eq (tgt := 21) hx hb d_Ref_carry_6 (by decide) (fun (h1 : p0 = (0 : Int32)) => ?_) (fun (h1 : ¬ p0 = (0 : Int32)) => ?_)
    · refine lv_aload_n hx hb d_Ref_carry_21 rfl (lv_at hl 0 rfl) ?_
      refine va_get (D := D) (ci := 11) (v := .ref bS) (C := "MappedProcessorModel") (T := T_Ref) (N := 14) hx hb hB iw_Ref hown hK hP 0 rfl rfl 1 (by decide) (hB _ mw_644) (fun _ h9 => h9) rfl d_Ref_carry_22 ?_
      refine lv_iconst (v := (3 : Int32)) hx hb d_Ref_carry_25 (by decide) ?_
      refine k_iald (j := 3) hx hb hK hP 2 1 rfl rfl (by decide) (by unfold vp_in; decide) d_Ref_carry_26 ?_
      refine lv_ldc (v := (-536870913 : Int32)) hx hb hown (hB _ mw_788) d_Ref_carry_27 ?_
      refine lv_iand hx hb d_Ref_carry_29 ?_
      exact k2 h1
    · refine lv_aload_n hx hb d_Ref_carry_9 rfl (lv_at hl 0 rfl) ?_
      refine va_get (D := D) (ci := 11) (v := .ref bS) (C := "MappedProcessorModel") (T := T_Ref) (N := 14) hx hb hB iw_Ref hown hK hP 0 rfl rfl 1 (by decide) (hB _ mw_644) (fun _ h9 => h9) rfl d_Ref_carry_10 ?_
      refine lv_iconst (v := (3 : Int32)) hx hb d_Ref_carry_13 (by decide) ?_
      refine k_iald (j := 3) hx hb hK hP 2 1 rfl rfl (by decide) (by unfold vp_in; decide) d_Ref_carry_14 ?_
      refine lv_ldc (v := (536870912 : Int32)) hx hb hown (hB _ mw_787) d_Ref_carry_15 ?_
      refine lv_ior hx hb d_Ref_carry_17 ?_
      refine lv_goto (tgt := 30) hx hb d_Ref_carry_18 (by decide) ?_
      exact k3 h1
  refine k_iast (j := 3) hx hb hK hP hD hS 2 1 rfl rfl (by decide) (by unfold vp_in; decide) d_Ref_carry_30 (fun H locs hP hD hS => ?_)
  have hP : va_P D kCl [(aT, .inr (11, [.ref bG, .ref bS, .ref bM, .int rl, .int rk, .int rr, .int re, .int rc, .int rd, .int ra, .int rb, .int rn, .int rf, .int rw])), (bG, .inl (dG, 32, .inl rg)), (bS, .inl (dS, 48, .inl (upd rs 3 (if p0 = (0 : Int32) then ((rs 3) &&& (-536870913 : Int32)) else ((rs 3) ||| (536870912 : Int32)))))), (bM, .inl (dM, 16384, .inl rm))] H := hP
  have hD : va_D A [(aT, .inr (11, [.ref bG, .ref bS, .ref bM, .int rl, .int rk, .int rr, .int re, .int rc, .int rd, .int ra, .int rb, .int rn, .int rf, .int rw])), (bG, .inl (dG, 32, .inl rg)), (bS, .inl (dS, 48, .inl (upd rs 3 (if p0 = (0 : Int32) then ((rs 3) &&& (-536870913 : Int32)) else ((rs 3) ||| (536870912 : Int32)))))), (bM, .inl (dM, 16384, .inl rm))] := hD
  have ef : f_Ref_carry p0 rs = (upd rs 3 (if p0 = (0 : Int32) then ((rs 3) &&& (-536870913 : Int32)) else ((rs 3) ||| (536870912 : Int32)))) := rfl
  exact k_vret hx hb hr hlocks hK hP hD hS [0, 1, 2, 3] rfl (by rw [ef] <;> rfl) d_Ref_carry_31
/-! MappedProcessorModel.sum(III)I -/
theorem d_Ref_sum_0 : decode b_Ref_sum 0 = .ok (.iload_n 1, 1) := by decide +kernel
theorem d_Ref_sum_1 : decode b_Ref_sum 1 = .ok (.invokestatic 103, 3) := by decide +kernel
theorem d_Ref_sum_4 : decode b_Ref_sum 4 = .ok (.iload_n 2, 1) := by decide +kernel
theorem d_Ref_sum_5 : decode b_Ref_sum 5 = .ok (.invokestatic 103, 3) := by decide +kernel
theorem d_Ref_sum_8 : decode b_Ref_sum 8 = .ok (.ladd, 1) := by decide +kernel
theorem d_Ref_sum_9 : decode b_Ref_sum 9 = .ok (.iload_n 3, 1) := by decide +kernel
theorem d_Ref_sum_10 : decode b_Ref_sum 10 = .ok (.i2l, 1) := by decide +kernel
theorem d_Ref_sum_11 : decode b_Ref_sum 11 = .ok (.ladd, 1) := by decide +kernel
theorem d_Ref_sum_12 : decode b_Ref_sum 12 = .ok (.lstore 4, 2) := by decide +kernel
theorem d_Ref_sum_14 : decode b_Ref_sum 14 = .ok (.aload_n 0, 1) := by decide +kernel
theorem d_Ref_sum_15 : decode b_Ref_sum 15 = .ok (.lload 4, 2) := by decide +kernel
theorem d_Ref_sum_17 : decode b_Ref_sum 17 = .ok (.ldc2_w 107, 3) := by decide +kernel
theorem d_Ref_sum_20 : decode b_Ref_sum 20 = .ok (.lcmp, 1) := by decide +kernel
theorem d_Ref_sum_21 : decode b_Ref_sum 21 = .ok (.ifCond .lt 7, 3) := by decide +kernel
theorem d_Ref_sum_24 : decode b_Ref_sum 24 = .ok (.iconst 1, 1) := by decide +kernel
theorem d_Ref_sum_25 : decode b_Ref_sum 25 = .ok (.goto 4, 3) := by decide +kernel
theorem d_Ref_sum_28 : decode b_Ref_sum 28 = .ok (.iconst 0, 1) := by decide +kernel
theorem d_Ref_sum_29 : decode b_Ref_sum 29 = .ok (.invokevirtual 109, 3) := by decide +kernel
theorem d_Ref_sum_32 : decode b_Ref_sum 32 = .ok (.lload 4, 2) := by decide +kernel
theorem d_Ref_sum_34 : decode b_Ref_sum 34 = .ok (.l2i, 1) := by decide +kernel
theorem d_Ref_sum_35 : decode b_Ref_sum 35 = .ok (.ireturn, 1) := by decide +kernel
def f_Ref_sum (p0 : Int32) (p1 : Int32) (p2 : Int32) (rs : Nat → Int32) : Int32 × (Nat → Int32) :=
  (((((f_Ref_unsigned p0) + (f_Ref_unsigned p1)) + (p2.toInt64)).toInt32), (f_Ref_carry (if (lg_cmp (((f_Ref_unsigned p0) + (f_Ref_unsigned p1)) + (p2.toInt64)) (4294967296 : Int64)) < (0 : Int32) then (0 : Int32) else (1 : Int32)) rs))
set_option maxHeartbeats 4000000 in
set_option maxRecDepth 100000 in
theorem c_Ref_sum (l : Launch) (D : va_G) (aT bG bS bM : Nat) (dG dS dM : ClassId) (rg : Nat → Int32) (rs : Nat → Int32) (rm : Nat → Int32) (rl : Int32) (rk : Int32) (rr : Int32) (re : Int32) (rc : Int32) (rd : Int32) (ra : Int32) (rb : Int32) (rn : Int32) (rf : Int32) (rw : Int32) (p0 : Int32) (p1 : Int32) (p2 : Int32) : kMi l y_Ref_sum b_Ref_sum 6 (some .int) 1 21 D kCl [(dG, .int), (dS, .int), (dM, .int)] [.ref aT, .int p0, .int p1, .int p2] [(aT, .inr (11, [.ref bG, .ref bS, .ref bM, .int rl, .int rk, .int rr, .int re, .int rc, .int rd, .int ra, .int rb, .int rn, .int rf, .int rw])), (bG, .inl (dG, 32, .inl rg)), (bS, .inl (dS, 48, .inl rs)), (bM, .inl (dM, 16384, .inl rm))] (f_Ref_sum p0 p1 p2 rs).1 [(aT, .inr (11, [.ref bG, .ref bS, .ref bM, .int rl, .int rk, .int rr, .int re, .int rc, .int rd, .int ra, .int rb, .int rn, .int rf, .int rw])), (bG, .inl (dG, 32, .inl rg)), (bS, .inl (dS, 48, .inl (f_Ref_sum p0 p1 p2 rs).2)), (bM, .inl (dM, 16384, .inl rm))] := by
  refine k_entry (Qc := fun A => kQi D kCl [(dG, .int), (dS, .int), (dM, .int)] (f_Ref_sum p0 p1 p2 rs).1 [(aT, .inr (11, [.ref bG, .ref bS, .ref bM, .int rl, .int rk, .int rr, .int re, .int rc, .int rd, .int ra, .int rb, .int rn, .int rf, .int rw])), (bG, .inl (dG, 32, .inl rg)), (bS, .inl (dS, 48, .inl (f_Ref_sum p0 p1 p2 rs).2)), (bM, .inl (dM, 16384, .inl rm))] A) (lv := [(0, .ref aT), (1, .int p0), (2, .int p1), (3, .int p2)]) (by decide) (Nat.le_of_ble_eq_true rfl) rfl ?_
  intro p e s m below meth c A ls hx hb hr hml hB hown hlocks hin hA hK hN hP hD hS hl
  have hown : s.vm.findClass "MappedProcessorModel" = some m.cls := hown
  refine lv_iload_n hx hb d_Ref_sum_0 rfl (lv_at hl 1 rfl) ?_
  refine k_cSl (As := [.int p0]) (rest := []) (wr := [(aT, .inr (11, [.ref bG, .ref bS, .ref bM, .int rl, .int rk, .int rr, .int re, .int rc, .int rd, .int ra, .int rb, .int rn, .int rf, .int rw])), (bG, .inl (dG, 32, .inl rg)), (bS, .inl (dS, 48, .inl rs)), (bM, .inl (dM, 16384, .inl rm))]) (wj := [(aT, .inr (11, [.ref bG, .ref bS, .ref bM, .int rl, .int rk, .int rr, .int re, .int rc, .int rd, .int ra, .int rb, .int rn, .int rf, .int rw])), (bG, .inl (dG, 32, .inl rg)), (bS, .inl (dS, 48, .inl rs)), (bM, .inl (dM, 16384, .inl rm))]) ⟨hx, hb, hml, hown, hB⟩ (c_Ref_unsigned l D p0) yl_Ref_unsigned mw_769 hK hN hP hD hS hA [] [] [0, 1, 2, 3] [0, 1, 2, 3] rfl rfl rfl rfl (by decide +kernel) rfl hl.1 rfl (Nat.le_of_ble_eq_true rfl) ⟨Nat.le_of_ble_eq_true rfl, Nat.le_of_ble_eq_true rfl⟩ d_Ref_sum_1 ⟨Nat.le_of_ble_eq_true rfl, Nat.le_of_ble_eq_true rfl⟩ (fun H locs hP hD hS => ?_)
  refine lv_iload_n hx hb d_Ref_sum_4 rfl (lv_at hl 2 rfl) ?_
  refine k_cSl (As := [.int p1]) (rest := [.long (f_Ref_unsigned p0)]) (wr := [(aT, .inr (11, [.ref bG, .ref bS, .ref bM, .int rl, .int rk, .int rr, .int re, .int rc, .int rd, .int ra, .int rb, .int rn, .int rf, .int rw])), (bG, .inl (dG, 32, .inl rg)), (bS, .inl (dS, 48, .inl rs)), (bM, .inl (dM, 16384, .inl rm))]) (wj := [(aT, .inr (11, [.ref bG, .ref bS, .ref bM, .int rl, .int rk, .int rr, .int re, .int rc, .int rd, .int ra, .int rb, .int rn, .int rf, .int rw])), (bG, .inl (dG, 32, .inl rg)), (bS, .inl (dS, 48, .inl rs)), (bM, .inl (dM, 16384, .inl rm))]) ⟨hx, hb, hml, hown, hB⟩ (c_Ref_unsigned l D p1) yl_Ref_unsigned mw_769 hK hN hP hD hS hA [] [] [0, 1, 2, 3] [0, 1, 2, 3] rfl rfl rfl rfl (by decide +kernel) rfl hl.1 rfl (Nat.le_of_ble_eq_true rfl) ⟨Nat.le_of_ble_eq_true rfl, Nat.le_of_ble_eq_true rfl⟩ d_Ref_sum_5 ⟨Nat.le_of_ble_eq_true rfl, Nat.le_of_ble_eq_true rfl⟩ (fun H locs hP hD hS => ?_)
  refine lv_ladd hx hb d_Ref_sum_8 ?_
  refine lv_iload_n hx hb d_Ref_sum_9 rfl (lv_at hl 3 rfl) ?_
  refine lv_i2l (v := (p2.toInt64)) hx hb d_Ref_sum_10 rfl ?_
  refine lv_ladd hx hb d_Ref_sum_11 ?_
  refine lv_lstore (lv' := [(4, .long (((f_Ref_unsigned p0) + (f_Ref_unsigned p1)) + (p2.toInt64))), (0, .ref aT), (1, .int p0), (2, .int p1), (3, .int p2)]) hx hb d_Ref_sum_12 hl (by decide) rfl (fun ls hl => ?_)
  refine lv_aload_n hx hb d_Ref_sum_14 rfl (lv_at hl 1 rfl) ?_
  refine lv_lload hx hb d_Ref_sum_15 (lv_at hl 0 rfl) ?_
  refine lv_ldc2 (v := (4294967296 : Int64)) hx hb hown (hB _ mw_782) d_Ref_sum_17 ?_
  refine W.lcmp hx hb d_Ref_sum_20 ?_
  refine k_join2 (c0 := (lg_cmp (((f_Ref_unsigned p0) + (f_Ref_unsigned p1)) + (p2.toInt64)) (4294967296 : Int64)) < (0 : Int32)) (x1 := (0 : Int32)) (x2 := (1 : Int32)) (rest := [.ref aT]) 29 ?_ (fun k2 k3 => ?_)
  rotate_left
  · refine lv_if_lt (tgt := 28) hx hb d_Ref_sum_21 (by decide) (fun (h1 : (lg_cmp (((f_Ref_unsigned p0) + (f_Ref_unsigned p1)) + (p2.toInt64)) (4294967296 : Int64)) < (0 : Int32)) => ?_) (fun (h1 : ¬ (lg_cmp (((f_Ref_unsigned p0) + (f_Ref_unsigned p1)) + (p2.toInt64)) (4294967296 : Int64)) < (0 : Int32)) => ?_)
    · refine lv_iconst (v := (0 : Int32)) hx hb d_Ref_sum_28 (by decide) ?_
      exact k2 h1
    · refine lv_iconst (v := (1 : Int32)) hx hb d_Ref_sum_24 (by decide) ?_
      refine lv_goto (tgt := 29) hx hb d_Ref_sum_25 (by decide) ?_
      exact k3 h1
  refine k_cVv (As := [.int (if (lg_cmp (((f_Ref_unsigned p0) + (f_Ref_unsigned p1)) + (p2.toInt64)) (4294967296 : Int64)) < (0 : Int32) then (0 : Int32) else (1 : Int32))]) (rest := []) (wr := []) (wj := [(aT, .inr (11, [.ref bG, .ref bS, .ref bM, .int rl, .int rk, .int rr, .int re, .int rc, .int rd, .int ra, .int rb, .int rn, .int rf, .int rw])), (bG, .inl (dG, 32, .inl rg)), (bS, .inl (dS, 48, .inl (f_Ref_carry (if (lg_cmp (((f_Ref_unsigned p0) + (f_Ref_unsigned p1)) + (p2.toInt64)) (4294967296 : Int64)) < (0 : Int32) then (0 : Int32) else (1 : Int32)) rs))), (bM, .inl (dM, 16384, .inl rm))]) ⟨hx, hb, hml, hown, hB⟩ (c_Ref_carry l D aT bG bS bM dG dS dM rg rs rm rl rk rr re rc rd ra rb rn rf rw (if (lg_cmp (((f_Ref_unsigned p0) + (f_Ref_unsigned p1)) + (p2.toInt64)) (4294967296 : Int64)) < (0 : Int32) then (0 : Int32) else (1 : Int32))) yl_Ref_carry mw_783 hK hN hP hD hS hA [0, 1, 2] [0, 1, 2, 3] [] [0, 1, 2, 3] rfl rfl rfl rfl (by decide +kernel) 0 rfl rfl rfl rfl hl.1 rfl (Nat.le_of_ble_eq_true rfl) ⟨Nat.le_of_ble_eq_true rfl, Nat.le_of_ble_eq_true rfl⟩ d_Ref_sum_29 ⟨Nat.le_of_ble_eq_true rfl, Nat.le_of_ble_eq_true rfl⟩ (fun H locs hP hD hS => ?_)
  refine lv_lload hx hb d_Ref_sum_32 (lv_at hl 0 rfl) ?_
  refine lv_l2i (v := ((((f_Ref_unsigned p0) + (f_Ref_unsigned p1)) + (p2.toInt64)).toInt32)) hx hb d_Ref_sum_34 rfl ?_
  have ef : f_Ref_sum p0 p1 p2 rs = (((((f_Ref_unsigned p0) + (f_Ref_unsigned p1)) + (p2.toInt64)).toInt32), (f_Ref_carry (if (lg_cmp (((f_Ref_unsigned p0) + (f_Ref_unsigned p1)) + (p2.toInt64)) (4294967296 : Int64)) < (0 : Int32) then (0 : Int32) else (1 : Int32)) rs)) := rfl
  exact k_iret hx hb hr hlocks hK hP hD hS [0, 1, 2, 3] rfl (by rw [ef] <;> rfl) (by rw [ef] <;> rfl) d_Ref_sum_35
/-! MappedProcessorModel.fieldSet(II)V -/
theorem d_Ref_fieldSet_0 : decode b_Ref_fieldSet 0 = .ok (.bipush 28, 2) := by decide +kernel
theorem d_Ref_fieldSet_2 : decode b_Ref_fieldSet 2 = .ok (.iconst 4, 1) := by decide +kernel
theorem d_Ref_fieldSet_3 : decode b_Ref_fieldSet 3 = .ok (.iload_n 1, 1) := by decide +kernel
theorem d_Ref_fieldSet_4 : decode b_Ref_fieldSet 4 = .ok (.imul, 1) := by decide +kernel
theorem d_Ref_fieldSet_5 : decode b_Ref_fieldSet 5 = .ok (.isub, 1) := by decide +kernel
theorem d_Ref_fieldSet_6 : decode b_Ref_fieldSet 6 = .ok (.istore_n 3, 1) := by decide +kernel
theorem d_Ref_fieldSet_7 : decode b_Ref_fieldSet 7 = .ok (.aload_n 0, 1) := by decide +kernel
theorem d_Ref_fieldSet_8 : decode b_Ref_fieldSet 8 = .ok (.getfield 13, 3) := by decide +kernel
theorem d_Ref_fieldSet_11 : decode b_Ref_fieldSet 11 = .ok (.iconst 2, 1) := by decide +kernel
theorem d_Ref_fieldSet_12 : decode b_Ref_fieldSet 12 = .ok (.aload_n 0, 1) := by decide +kernel
theorem d_Ref_fieldSet_13 : decode b_Ref_fieldSet 13 = .ok (.getfield 13, 3) := by decide +kernel
theorem d_Ref_fieldSet_16 : decode b_Ref_fieldSet 16 = .ok (.iconst 2, 1) := by decide +kernel
theorem d_Ref_fieldSet_17 : decode b_Ref_fieldSet 17 = .ok (.iaload, 1) := by decide +kernel
theorem d_Ref_fieldSet_18 : decode b_Ref_fieldSet 18 = .ok (.bipush 15, 2) := by decide +kernel
theorem d_Ref_fieldSet_20 : decode b_Ref_fieldSet 20 = .ok (.iload_n 3, 1) := by decide +kernel
theorem d_Ref_fieldSet_21 : decode b_Ref_fieldSet 21 = .ok (.ishl, 1) := by decide +kernel
theorem d_Ref_fieldSet_22 : decode b_Ref_fieldSet 22 = .ok (.iconst (-1), 1) := by decide +kernel
theorem d_Ref_fieldSet_23 : decode b_Ref_fieldSet 23 = .ok (.ixor, 1) := by decide +kernel
theorem d_Ref_fieldSet_24 : decode b_Ref_fieldSet 24 = .ok (.iand, 1) := by decide +kernel
theorem d_Ref_fieldSet_25 : decode b_Ref_fieldSet 25 = .ok (.iload_n 2, 1) := by decide +kernel
theorem d_Ref_fieldSet_26 : decode b_Ref_fieldSet 26 = .ok (.iload_n 3, 1) := by decide +kernel
theorem d_Ref_fieldSet_27 : decode b_Ref_fieldSet 27 = .ok (.ishl, 1) := by decide +kernel
theorem d_Ref_fieldSet_28 : decode b_Ref_fieldSet 28 = .ok (.ior, 1) := by decide +kernel
theorem d_Ref_fieldSet_29 : decode b_Ref_fieldSet 29 = .ok (.iastore, 1) := by decide +kernel
theorem d_Ref_fieldSet_30 : decode b_Ref_fieldSet 30 = .ok (.return_, 1) := by decide +kernel
def f_Ref_fieldSet (p0 : Int32) (p1 : Int32) (rs : Nat → Int32) : (Nat → Int32) :=
  (upd rs 2 (((rs 2) &&& ((shl (15 : Int32) ((28 : Int32) - ((4 : Int32) * p0))) ^^^ (-1 : Int32))) ||| (shl p1 ((28 : Int32) - ((4 : Int32) * p0)))))
set_option maxHeartbeats 4000000 in
set_option maxRecDepth 100000 in
theorem c_Ref_fieldSet (l : Launch) (D : va_G) (aT bG bS bM : Nat) (dG dS dM : ClassId) (rg : Nat → Int32) (rs : Nat → Int32) (rm : Nat → Int32) (rl : Int32) (rk : Int32) (rr : Int32) (re : Int32) (rc : Int32) (rd : Int32) (ra : Int32) (rb : Int32) (rn : Int32) (rf : Int32) (rw : Int32) (p0 : Int32) (p1 : Int32) : kMv l y_Ref_fieldSet b_Ref_fieldSet 4 none 0 0 D kCl [(dG, .int), (dS, .int), (dM, .int)] [.ref aT, .int p0, .int p1] [(aT, .inr (11, [.ref bG, .ref bS, .ref bM, .int rl, .int rk, .int rr, .int re, .int rc, .int rd, .int ra, .int rb, .int rn, .int rf, .int rw])), (bG, .inl (dG, 32, .inl rg)), (bS, .inl (dS, 48, .inl rs)), (bM, .inl (dM, 16384, .inl rm))] [(aT, .inr (11, [.ref bG, .ref bS, .ref bM, .int rl, .int rk, .int rr, .int re, .int rc, .int rd, .int ra, .int rb, .int rn, .int rf, .int rw])), (bG, .inl (dG, 32, .inl rg)), (bS, .inl (dS, 48, .inl (f_Ref_fieldSet p0 p1 rs))), (bM, .inl (dM, 16384, .inl rm))] := by
  refine k_entry (Qc := fun A => kQv D kCl [(dG, .int), (dS, .int), (dM, .int)] [(aT, .inr (11, [.ref bG, .ref bS, .ref bM, .int rl, .int rk, .int rr, .int re, .int rc, .int rd, .int ra, .int rb, .int rn, .int rf, .int rw])), (bG, .inl (dG, 32, .inl rg)), (bS, .inl (dS, 48, .inl (f_Ref_fieldSet p0 p1 rs))), (bM, .inl (dM, 16384, .inl rm))] A) (lv := [(0, .ref aT), (1, .int p0), (2, .int p1)]) (by decide) (Nat.le_of_ble_eq_true rfl) rfl ?_
  intro p e s m below meth c A ls hx hb hr hml hB hown hlocks hin hA hK hN hP hD hS hl
  have hown : s.vm.findClass "MappedProcessorModel" = some m.cls := hown
  refine lv_bipush (v := (28 : Int32)) hx hb d_Ref_fieldSet_0 (by decide) ?_
  refine lv_iconst (v := (4 : Int32)) hx hb d_Ref_fieldSet_2 (by decide) ?_
  refine lv_iload_n hx hb d_Ref_fieldSet_3 rfl (lv_at hl 1 rfl) ?_
  refine lv_imul hx hb d_Ref_fieldSet_4 ?_
  refine lv_isub hx hb d_Ref_fieldSet_5 ?_
  refine lv_istore_n (lv' := [(3, .int ((28 : Int32) - ((4 : Int32) * p0))), (0, .ref aT), (1, .int p0), (2, .int p1)]) hx hb d_Ref_fieldSet_6 rfl hl (by decide) rfl (fun ls hl => ?_)
  refine lv_aload_n hx hb d_Ref_fieldSet_7 rfl (lv_at hl 1 rfl) ?_
  refine va_get (D := D) (ci := 11) (v := .ref bS) (C := "MappedProcessorModel") (T := T_Ref) (N := 14) hx hb hB iw_Ref hown hK hP 0 rfl rfl 1 (by decide) (hB _ mw_644) (fun _ h9 => h9) rfl d_Ref_fieldSet_8 ?_
  refine lv_iconst (v := (2 : Int32)) hx hb d_Ref_fieldSet_11 (by decide) ?_
  refine lv_aload_n hx hb d_Ref_fieldSet_12 rfl (lv_at hl 1 rfl) ?_
  refine va_get (D := D) (ci := 11) (v := .ref bS) (C := "MappedProcessorModel") (T := T_Ref) (N := 14) hx hb hB iw_Ref hown hK hP 0 rfl rfl 1 (by decide) (hB _ mw_644) (fun _ h9 => h9) rfl d_Ref_fieldSet_13 ?_
  refine lv_iconst (v := (2 : Int32)) hx hb d_Ref_fieldSet_16 (by decide) ?_
  refine k_iald (j := 2) hx hb hK hP 2 1 rfl rfl (by decide) (by unfold vp_in; decide) d_Ref_fieldSet_17 ?_
  refine lv_bipush (v := (15 : Int32)) hx hb d_Ref_fieldSet_18 (by decide) ?_
  refine lv_iload_n hx hb d_Ref_fieldSet_20 rfl (lv_at hl 0 rfl) ?_
  refine lv_ishl hx hb d_Ref_fieldSet_21 ?_
  refine lv_iconst (v := (-1 : Int32)) hx hb d_Ref_fieldSet_22 (by decide) ?_
  refine lv_ixor hx hb d_Ref_fieldSet_23 ?_
  refine lv_iand hx hb d_Ref_fieldSet_24 ?_
  refine lv_iload_n hx hb d_Ref_fieldSet_25 rfl (lv_at hl 3 rfl) ?_
  refine lv_iload_n hx hb d_Ref_fieldSet_26 rfl (lv_at hl 0 rfl) ?_
  refine lv_ishl hx hb d_Ref_fieldSet_27 ?_
  refine lv_ior hx hb d_Ref_fieldSet_28 ?_
  refine k_iast (j := 2) hx hb hK hP hD hS 2 1 rfl rfl (by decide) (by unfold vp_in; decide) d_Ref_fieldSet_29 (fun H locs hP hD hS => ?_)
  have hP : va_P D kCl [(aT, .inr (11, [.ref bG, .ref bS, .ref bM, .int rl, .int rk, .int rr, .int re, .int rc, .int rd, .int ra, .int rb, .int rn, .int rf, .int rw])), (bG, .inl (dG, 32, .inl rg)), (bS, .inl (dS, 48, .inl (upd rs 2 (((rs 2) &&& ((shl (15 : Int32) ((28 : Int32) - ((4 : Int32) * p0))) ^^^ (-1 : Int32))) ||| (shl p1 ((28 : Int32) - ((4 : Int32) * p0))))))), (bM, .inl (dM, 16384, .inl rm))] H := hP
  have hD : va_D A [(aT, .inr (11, [.ref bG, .ref bS, .ref bM, .int rl, .int rk, .int rr, .int re, .int rc, .int rd, .int ra, .int rb, .int rn, .int rf, .int rw])), (bG, .inl (dG, 32, .inl rg)), (bS, .inl (dS, 48, .inl (upd rs 2 (((rs 2) &&& ((shl (15 : Int32) ((28 : Int32) - ((4 : Int32) * p0))) ^^^ (-1 : Int32))) ||| (shl p1 ((28 : Int32) - ((4 : Int32) * p0))))))), (bM, .inl (dM, 16384, .inl rm))] := hD
  have ef : f_Ref_fieldSet p0 p1 rs = (upd rs 2 (((rs 2) &&& ((shl (15 : Int32) ((28 : Int32) - ((4 : Int32) * p0))) ^^^ (-1 : Int32))) ||| (shl p1 ((28 : Int32) - ((4 : Int32) * p0))))) := rfl
  exact k_vret hx hb hr hlocks hK hP hD hS [0, 1, 2, 3] rfl (by rw [ef] <;> rfl) d_Ref_fieldSet_30
/-! MappedProcessorModel.compare(IJJ)V -/
theorem d_Ref_compare_0 : decode b_Ref_compare 0 = .ok (.lload_n 2, 1) := by decide +kernel
theorem d_Ref_compare_1 : decode b_Ref_compare 1 = .ok (.lload 4, 2) := by decide +kernel
theorem d_Ref_compare_3 : decode b_Ref_compare 3 = .ok (.lcmp, 1) := by decide +kernel
theorem d_Ref_compare_4 : decode b_Ref_compare 4 = .ok (.ifCond .ge 8, 3) := by decide +kernel
theorem d_Ref_compare_7 : decode b_Ref_compare 7 = .ok (.bipush 8, 2) := by decide +kernel
theorem d_Ref_compare_9 : decode b_Ref_compare 9 = .ok (.goto 15, 3) := by decide +kernel
theorem d_Ref_compare_12 : decode b_Ref_compare 12 = .ok (.lload_n 2, 1) := by decide +kernel
theorem d_Ref_compare_13 : decode b_Ref_compare 13 = .ok (.lload 4, 2) := by decide +kernel
theorem d_Ref_compare_15 : decode b_Ref_compare 15 = .ok (.lcmp, 1) := by decide +kernel
theorem d_Ref_compare_16 : decode b_Ref_compare 16 = .ok (.ifCond .le 7, 3) := by decide +kernel
theorem d_Ref_compare_19 : decode b_Ref_compare 19 = .ok (.iconst 4, 1) := by decide +kernel
theorem d_Ref_compare_20 : decode b_Ref_compare 20 = .ok (.goto 4, 3) := by decide +kernel
theorem d_Ref_compare_23 : decode b_Ref_compare 23 = .ok (.iconst 2, 1) := by decide +kernel
theorem d_Ref_compare_24 : decode b_Ref_compare 24 = .ok (.istore 6, 2) := by decide +kernel
theorem d_Ref_compare_26 : decode b_Ref_compare 26 = .ok (.aload_n 0, 1) := by decide +kernel
theorem d_Ref_compare_27 : decode b_Ref_compare 27 = .ok (.iload_n 1, 1) := by decide +kernel
theorem d_Ref_compare_28 : decode b_Ref_compare 28 = .ok (.aload_n 0, 1) := by decide +kernel
theorem d_Ref_compare_29 : decode b_Ref_compare 29 = .ok (.getfield 13, 3) := by decide +kernel
theorem d_Ref_compare_32 : decode b_Ref_compare 32 = .ok (.iconst 3, 1) := by decide +kernel
theorem d_Ref_compare_33 : decode b_Ref_compare 33 = .ok (.iaload, 1) := by decide +kernel
theorem d_Ref_compare_34 : decode b_Ref_compare 34 = .ok (.bipush 31, 2) := by decide +kernel
theorem d_Ref_compare_36 : decode b_Ref_compare 36 = .ok (.invokestatic 28, 3) := by decide +kernel
theorem d_Ref_compare_39 : decode b_Ref_compare 39 = .ok (.ifCond .eq 10, 3) := by decide +kernel
theorem d_Ref_compare_42 : decode b_Ref_compare 42 = .ok (.iload 6, 2) := by decide +kernel
theorem d_Ref_compare_44 : decode b_Ref_compare 44 = .ok (.iconst 1, 1) := by decide +kernel
theorem d_Ref_compare_45 : decode b_Ref_compare 45 = .ok (.iadd, 1) := by decide +kernel
theorem d_Ref_compare_46 : decode b_Ref_compare 46 = .ok (.goto 5, 3) := by decide +kernel
theorem d_Ref_compare_49 : decode b_Ref_compare 49 = .ok (.iload 6, 2) := by decide +kernel
theorem d_Ref_compare_51 : decode b_Ref_compare 51 = .ok (.invokevirtual 94, 3) := by decide +kernel
theorem d_Ref_compare_54 : decode b_Ref_compare 54 = .ok (.return_, 1) := by decide +kernel
def f_Ref_compare (p0 : Int32) (p1 : Int64) (p2 : Int64) (rs : Nat → Int32) : (Nat → Int32) :=
  (f_Ref_fieldSet p0 (if (f_Ref_bit (rs 3) (31 : Int32)) = (0 : Int32) then (if (0 : Int32) ≤ (lg_cmp p1 p2) then (if (lg_cmp p1 p2) ≤ (0 : Int32) then (2 : Int32) else (4 : Int32)) else (8 : Int32)) else ((if (0 : Int32) ≤ (lg_cmp p1 p2) then (if (lg_cmp p1 p2) ≤ (0 : Int32) then (2 : Int32) else (4 : Int32)) else (8 : Int32)) + (1 : Int32))) rs)
set_option maxHeartbeats 4000000 in
set_option maxRecDepth 100000 in
theorem c_Ref_compare (l : Launch) (D : va_G) (aT bG bS bM : Nat) (dG dS dM : ClassId) (rg : Nat → Int32) (rs : Nat → Int32) (rm : Nat → Int32) (rl : Int32) (rk : Int32) (rr : Int32) (re : Int32) (rc : Int32) (rd : Int32) (ra : Int32) (rb : Int32) (rn : Int32) (rf : Int32) (rw : Int32) (p0 : Int32) (p1 : Int64) (p2 : Int64) : kMv l y_Ref_compare b_Ref_compare 7 none 1 23 D kCl [(dG, .int), (dS, .int), (dM, .int)] [.ref aT, .int p0, .long p1, .long p2] [(aT, .inr (11, [.ref bG, .ref bS, .ref bM, .int rl, .int rk, .int rr, .int re, .int rc, .int rd, .int ra, .int rb, .int rn, .int rf, .int rw])), (bG, .inl (dG, 32, .inl rg)), (bS, .inl (dS, 48, .inl rs)), (bM, .inl (dM, 16384, .inl rm))] [(aT, .inr (11, [.ref bG, .ref bS, .ref bM, .int rl, .int rk, .int rr, .int re, .int rc, .int rd, .int ra, .int rb, .int rn, .int rf, .int rw])), (bG, .inl (dG, 32, .inl rg)), (bS, .inl (dS, 48, .inl (f_Ref_compare p0 p1 p2 rs))), (bM, .inl (dM, 16384, .inl rm))] := by
  refine k_entry (Qc := fun A => kQv D kCl [(dG, .int), (dS, .int), (dM, .int)] [(aT, .inr (11, [.ref bG, .ref bS, .ref bM, .int rl, .int rk, .int rr, .int re, .int rc, .int rd, .int ra, .int rb, .int rn, .int rf, .int rw])), (bG, .inl (dG, 32, .inl rg)), (bS, .inl (dS, 48, .inl (f_Ref_compare p0 p1 p2 rs))), (bM, .inl (dM, 16384, .inl rm))] A) (lv := [(0, .ref aT), (1, .int p0), (2, .long p1), (4, .long p2)]) (by decide) (Nat.le_of_ble_eq_true rfl) rfl ?_
  intro p e s m below meth c A ls hx hb hr hml hB hown hlocks hin hA hK hN hP hD hS hl
  have hown : s.vm.findClass "MappedProcessorModel" = some m.cls := hown
  refine lv_lload_n hx hb d_Ref_compare_0 rfl (lv_at hl 2 rfl) ?_
  refine lv_lload hx hb d_Ref_compare_1 (lv_at hl 3 rfl) ?_
  refine W.lcmp hx hb d_Ref_compare_3 ?_
  refine k_join2 (c0 := (0 : Int32) ≤ (lg_cmp p1 p2)) (x1 := (if (lg_cmp p1 p2) ≤ (0 : Int32) then (2 : Int32) else (4 : Int32))) (x2 := (8 : Int32)) (rest := []) 24 ?_ (fun k2 k3 => ?_)
  rotate_left
  · refine lv_if_ge (tgt := 12) hx hb d_Ref_compare_4 (by decide) (fun (h1 : (0 : Int32) ≤ (lg_cmp p1 p2)) => ?_) (fun (h1 : ¬ (0 : Int32) ≤ (lg_cmp p1 p2)) => ?_)
    · refine lv_lload_n hx hb d_Ref_compare_12 rfl (lv_at hl 2 rfl) ?_
      refine lv_lload hx hb d_Ref_compare_13 (lv_at hl 3 rfl) ?_
      refine W.lcmp hx hb d_Ref_compare_15 ?_
      refine k_join2 (c0 := (lg_cmp p1 p2) ≤ (0 : Int32)) (x1 := (2 : Int32)) (x2 := (4 : Int32)) (rest := []) 24 ?_ (fun k5 k6 => ?_)
      rotate_left
      · refine lv_if_le (tgt := 23) hx hb d_Ref_compare_16 (by decide) (fun (h4 : (lg_cmp p1 p2) ≤ (0 : Int32)) => ?_) (fun (h4 : ¬ (lg_cmp p1 p2) ≤ (0 : Int32)) => ?_)
        · refine lv_iconst (v := (2 : Int32)) hx hb d_Ref_compare_23 (by decide) ?_
          exact k5 h4
        · refine lv_iconst (v := (4 : Int32)) hx hb d_Ref_compare_19 (by decide) ?_
          refine lv_goto (tgt := 24) hx hb d_Ref_compare_20 (by decide) ?_
          exact k6 h4
      exact k2 h1
    · refine lv_bipush (v := (8 : Int32)) hx hb d_Ref_compare_7 (by decide) ?_
      refine lv_goto (tgt := 24) hx hb d_Ref_compare_9 (by decide) ?_
      exact k3 h1
  refine lv_istore (lv' := [(6, .int (if (0 : Int32) ≤ (lg_cmp p1 p2) then (if (lg_cmp p1 p2) ≤ (0 : Int32) then (2 : Int32) else (4 : Int32)) else (8 : Int32))), (0, .ref aT), (1, .int p0), (2, .long p1), (4, .long p2)]) hx hb d_Ref_compare_24 hl (by decide) rfl (fun ls hl => ?_)
  refine lv_aload_n hx hb d_Ref_compare_26 rfl (lv_at hl 1 rfl) ?_
  refine lv_iload_n hx hb d_Ref_compare_27 rfl (lv_at hl 2 rfl) ?_
  refine lv_aload_n hx hb d_Ref_compare_28 rfl (lv_at hl 1 rfl) ?_
  refine va_get (D := D) (ci := 11) (v := .ref bS) (C := "MappedProcessorModel") (T := T_Ref) (N := 14) hx hb hB iw_Ref hown hK hP 0 rfl rfl 1 (by decide) (hB _ mw_644) (fun _ h9 => h9) rfl d_Ref_compare_29 ?_
  refine lv_iconst (v := (3 : Int32)) hx hb d_Ref_compare_32 (by decide) ?_
  refine k_iald (j := 3) hx hb hK hP 2 1 rfl rfl (by decide) (by unfold vp_in; decide) d_Ref_compare_33 ?_
  refine lv_bipush (v := (31 : Int32)) hx hb d_Ref_compare_34 (by decide) ?_
  refine k_cSi (As := [.int (rs 3), .int (31 : Int32)]) (rest := [.int p0, .ref aT]) (wr := [(aT, .inr (11, [.ref bG, .ref bS, .ref bM, .int rl, .int rk, .int rr, .int re, .int rc, .int rd, .int ra, .int rb, .int rn, .int rf, .int rw])), (bG, .inl (dG, 32, .inl rg)), (bS, .inl (dS, 48, .inl rs)), (bM, .inl (dM, 16384, .inl rm))]) (wj := [(aT, .inr (11, [.ref bG, .ref bS, .ref bM, .int rl, .int rk, .int rr, .int re, .int rc, .int rd, .int ra, .int rb, .int rn, .int rf, .int rw])), (bG, .inl (dG, 32, .inl rg)), (bS, .inl (dS, 48, .inl rs)), (bM, .inl (dM, 16384, .inl rm))]) ⟨hx, hb, hml, hown, hB⟩ (c_Ref_bit l D (rs 3) (31 : Int32)) yl_Ref_bit mw_725 hK hN hP hD hS hA [] [] [0, 1, 2, 3] [0, 1, 2, 3] rfl rfl rfl rfl (by decide +kernel) rfl hl.1 rfl (Nat.le_of_ble_eq_true rfl) ⟨Nat.le_of_ble_eq_true rfl, Nat.le_of_ble_eq_true rfl⟩ d_Ref_compare_36 ⟨Nat.le_of_ble_eq_true rfl, Nat.le_of_ble_eq_true rfl⟩ (fun H locs hP hD hS => ?_)
  refine k_join2 (c0 := (f_Ref_bit (rs 3) (31 : Int32)) = (0 : Int32)) (x1 := (if (0 : Int32) ≤ (lg_cmp p1 p2) then (if (lg_cmp p1 p2) ≤ (0 : Int32) then (2 : Int32) else (4 : Int32)) else (8 : Int32))) (x2 := ((if (0 : Int32) ≤ (lg_cmp p1 p2) then (if (lg_cmp p1 p2) ≤ (0 : Int32) then (2 : Int32) else (4 : Int32)) else (8 : Int32)) + (1 : Int32))) (rest := [.int p0, .ref aT]) 51 ?_ (fun k12 k13 => ?_)
  rotate_left
  · refine lv_if_eq (tgt := 49) hx hb d_Ref_compare_39 (by decide) (fun (h11 : (f_Ref_bit (rs 3) (31 : Int32)) = (0 : Int32)) => ?_) (fun (h11 : ¬ (f_Ref_bit (rs 3) (31 : Int32)) = (0 : Int32)) => ?_)
    · refine lv_iload hx hb d_Ref_compare_49 (lv_at hl 0 rfl) ?_
      exact k12 h11
    · refine lv_iload hx hb d_Ref_compare_42 (lv_at hl 0 rfl) ?_
      refine lv_iconst (v := (1 : Int32)) hx hb d_Ref_compare_44 (by decide) ?_
      refine lv_iadd hx hb d_Ref_compare_45 ?_
      refine lv_goto (tgt := 51) hx hb d_Ref_compare_46 (by decide) ?_
      exact k13 h11
  refine k_cVv (As := [.int p0, .int (if (f_Ref_bit (rs 3) (31 : Int32)) = (0 : Int32) then (if (0 : Int32) ≤ (lg_cmp p1 p2) then (if (lg_cmp p1 p2) ≤ (0 : Int32) then (2 : Int32) else (4 : Int32)) else (8 : Int32)) else ((if (0 : Int32) ≤ (lg_cmp p1 p2) then (if (lg_cmp p1 p2) ≤ (0 : Int32) then (2 : Int32) else (4 : Int32)) else (8 : Int32)) + (1 : Int32)))]) (rest := []) (wr := []) (wj := [(aT, .inr (11, [.ref bG, .ref bS, .ref bM, .int rl, .int rk, .int rr, .int re, .int rc, .int rd, .int ra, .int rb, .int rn, .int rf, .int rw])), (bG, .inl (dG, 32, .inl rg)), (bS, .inl (dS, 48, .inl (f_Ref_fieldSet p0 (if (f_Ref_bit (rs 3) (31 : Int32)) = (0 : Int32) then (if (0 : Int32) ≤ (lg_cmp p1 p2) then (if (lg_cmp p1 p2) ≤ (0 : Int32) then (2 : Int32) else (4 : Int32)) else (8 : Int32)) else ((if (0 : Int32) ≤ (lg_cmp p1 p2) then (if (lg_cmp p1 p2) ≤ (0 : Int32) then (2 : Int32) else (4 : Int32)) else (8 : Int32)) + (1 : Int32))) rs))), (bM, .inl (dM, 16384, .inl rm))]) ⟨hx, hb, hml, hown, hB⟩ (c_Ref_fieldSet l D aT bG bS bM dG dS dM rg rs rm rl rk rr re rc rd ra rb rn rf rw p0 (if (f_Ref_bit (rs 3) (31 : Int32)) = (0 : Int32) then (if (0 : Int32) ≤ (lg_cmp p1 p2) then (if (lg_cmp p1 p2) ≤ (0 : Int32) then (2 : Int32) else (4 : Int32)) else (8 : Int32)) else ((if (0 : Int32) ≤ (lg_cmp p1 p2) then (if (lg_cmp p1 p2) ≤ (0 : Int32) then (2 : Int32) else (4 : Int32)) else (8 : Int32)) + (1 : Int32)))) yl_Ref_fieldSet mw_793 hK hN hP hD hS hA [0, 1, 2] [0, 1, 2, 3] [] [0, 1, 2, 3] rfl rfl rfl rfl (by decide +kernel) 0 rfl rfl rfl rfl hl.1 rfl (Nat.le_of_ble_eq_true rfl) ⟨Nat.le_of_ble_eq_true rfl, Nat.le_of_ble_eq_true rfl⟩ d_Ref_compare_51 ⟨Nat.le_of_ble_eq_true rfl, Nat.le_of_ble_eq_true rfl⟩ (fun H locs hP hD hS => ?_)
  have ef : f_Ref_compare p0 p1 p2 rs = (f_Ref_fieldSet p0 (if (f_Ref_bit (rs 3) (31 : Int32)) = (0 : Int32) then (if (0 : Int32) ≤ (lg_cmp p1 p2) then (if (lg_cmp p1 p2) ≤ (0 : Int32) then (2 : Int32) else (4 : Int32)) else (8 : Int32)) else ((if (0 : Int32) ≤ (lg_cmp p1 p2) then (if (lg_cmp p1 p2) ≤ (0 : Int32) then (2 : Int32) else (4 : Int32)) else (8 : Int32)) + (1 : Int32))) rs) := rfl
  exact k_vret hx hb hr hlocks hK hP hD hS [0, 1, 2, 3] rfl (by rw [ef] <;> rfl) d_Ref_compare_54
/-! MappedProcessorModel.noteResult(I)V -/
theorem d_Ref_noteResult_0 : decode b_Ref_noteResult 0 = .ok (.aload_n 0, 1) := by decide +kernel
theorem d_Ref_noteResult_1 : decode b_Ref_noteResult 1 = .ok (.iconst 0, 1) := by decide +kernel
theorem d_Ref_noteResult_2 : decode b_Ref_noteResult 2 = .ok (.iload_n 1, 1) := by decide +kernel
theorem d_Ref_noteResult_3 : decode b_Ref_noteResult 3 = .ok (.i2l, 1) := by decide +kernel
theorem d_Ref_noteResult_4 : decode b_Ref_noteResult 4 = .ok (.lconst 0, 1) := by decide +kernel
theorem d_Ref_noteResult_5 : decode b_Ref_noteResult 5 = .ok (.invokevirtual 97, 3) := by decide +kernel
theorem d_Ref_noteResult_8 : decode b_Ref_noteResult 8 = .ok (.return_, 1) := by decide +kernel
def f_Ref_noteResult (p0 : Int32) (rs : Nat → Int32) : (Nat → Int32) :=
  (f_Ref_compare (0 : Int32) (p0.toInt64) (0 : Int64) rs)
set_option maxHeartbeats 4000000 in
set_option maxRecDepth 100000 in
theorem c_Ref_noteResult (l : Launch) (D : va_G) (aT bG bS bM : Nat) (dG dS dM : ClassId) (rg : Nat → Int32) (rs : Nat → Int32) (rm : Nat → Int32) (rl : Int32) (rk : Int32) (rr : Int32) (re : Int32) (rc : Int32) (rd : Int32) (ra : Int32) (rb : Int32) (rn : Int32) (rf : Int32) (rw : Int32) (p0 : Int32) : kMv l y_Ref_noteResult b_Ref_noteResult 2 none 2 49 D kCl [(dG, .int), (dS, .int), (dM, .int)] [.ref aT, .int p0] [(aT, .inr (11, [.ref bG, .ref bS, .ref bM, .int rl, .int rk, .int rr, .int re, .int rc, .int rd, .int ra, .int rb, .int rn, .int rf, .int rw])), (bG, .inl (dG, 32, .inl rg)), (bS, .inl (dS, 48, .inl rs)), (bM, .inl (dM, 16384, .inl rm))] [(aT, .inr (11, [.ref bG, .ref bS, .ref bM, .int rl, .int rk, .int rr, .int re, .int rc, .int rd, .int ra, .int rb, .int rn, .int rf, .int rw])), (bG, .inl (dG, 32, .inl rg)), (bS, .inl (dS, 48, .inl (f_Ref_noteResult p0 rs))), (bM, .inl (dM, 16384, .inl rm))] := by
  refine k_entry (Qc := fun A => kQv D kCl [(dG, .int), (dS, .int), (dM, .int)] [(aT, .inr (11, [.ref bG, .ref bS, .ref bM, .int rl, .int rk, .int rr, .int re, .int rc, .int rd, .int ra, .int rb, .int rn, .int rf, .int rw])), (bG, .inl (dG, 32, .inl rg)), (bS, .inl (dS, 48, .inl (f_Ref_noteResult p0 rs))), (bM, .inl (dM, 16384, .inl rm))] A) (lv := [(0, .ref aT), (1, .int p0)]) (by decide) (Nat.le_of_ble_eq_true rfl) rfl ?_
  intro p e s m below meth c A ls hx hb hr hml hB hown hlocks hin hA hK hN hP hD hS hl
  have hown : s.vm.findClass "MappedProcessorModel" = some m.cls := hown
  refine lv_aload_n hx hb d_Ref_noteResult_0 rfl (lv_at hl 0 rfl) ?_
  refine lv_iconst (v := (0 : Int32)) hx hb d_Ref_noteResult_1 (by decide) ?_
  refine lv_iload_n hx hb d_Ref_noteResult_2 rfl (lv_at hl 1 rfl) ?_
  refine lv_i2l (v := (p0.toInt64)) hx hb d_Ref_noteResult_3 rfl ?_
  refine lv_lconst (v := (0 : Int64)) hx hb d_Ref_noteResult_4 (by decide) ?_
  refine k_cVv (As := [.int (0 : Int32), .long (p0.toInt64), .long (0 : Int64)]) (rest := []) (wr := []) (wj := [(aT, .inr (11, [.ref bG, .ref bS, .ref bM, .int rl, .int rk, .int rr, .int re, .int rc, .int rd, .int ra, .int rb, .int rn, .int rf, .int rw])), (bG, .inl (dG, 32, .inl rg)), (bS, .inl (dS, 48, .inl (f_Ref_compare (0 : Int32) (p0.toInt64) (0 : Int64) rs))), (bM, .inl (dM, 16384, .inl rm))]) ⟨hx, hb, hml, hown, hB⟩ (c_Ref_compare l D aT bG bS bM dG dS dM rg rs rm rl rk rr re rc rd ra rb rn rf rw (0 : Int32) (p0.toInt64) (0 : Int64)) yl_Ref_compare mw_789 hK hN hP hD hS hA [0, 1, 2] [0, 1, 2, 3] [] [0, 1, 2, 3] rfl rfl rfl rfl (by decide +kernel) 0 rfl rfl rfl rfl hl.1 rfl (Nat.le_of_ble_eq_true rfl) ⟨Nat.le_of_ble_eq_true rfl, Nat.le_of_ble_eq_true rfl⟩ d_Ref_noteResult_5 ⟨Nat.le_of_ble_eq_true rfl, Nat.le_of_ble_eq_true rfl⟩ (fun H locs hP hD hS => ?_)
  have ef : f_Ref_noteResult p0 rs = (f_Ref_compare (0 : Int32) (p0.toInt64) (0 : Int64) rs) := rfl
  exact k_vret hx hb hr hlocks hK hP hD hS [0, 1, 2, 3] rfl (by rw [ef] <;> rfl) d_Ref_noteResult_8
/-! MappedProcessorModel.a0()I -/
theorem d_Ref_a0_0 : decode b_Ref_a0 0 = .ok (.aload_n 0, 1) := by decide +kernel
theorem d_Ref_a0_1 : decode b_Ref_a0 1 = .ok (.getfield 85, 3) := by decide +kernel
theorem d_Ref_a0_4 : decode b_Ref_a0 4 = .ok (.ifCond .ne 7, 3) := by decide +kernel
theorem d_Ref_a0_7 : decode b_Ref_a0 7 = .ok (.iconst 0, 1) := by decide +kernel
theorem d_Ref_a0_8 : decode b_Ref_a0 8 = .ok (.goto 12, 3) := by decide +kernel
theorem d_Ref_a0_11 : decode b_Ref_a0 11 = .ok (.aload_n 0, 1) := by decide +kernel
theorem d_Ref_a0_12 : decode b_Ref_a0 12 = .ok (.getfield 7, 3) := by decide +kernel
theorem d_Ref_a0_15 : decode b_Ref_a0 15 = .ok (.aload_n 0, 1) := by decide +kernel
theorem d_Ref_a0_16 : decode b_Ref_a0 16 = .ok (.getfield 85, 3) := by decide +kernel
theorem d_Ref_a0_19 : decode b_Ref_a0 19 = .ok (.iaload, 1) := by decide +kernel
theorem d_Ref_a0_20 : decode b_Ref_a0 20 = .ok (.ireturn, 1) := by decide +kernel
def f_Ref_a0 (rg : Nat → Int32) (ra : Int32) : Int32 :=
  (if ra = (0 : Int32) then (0 : Int32) else (rg (ix ra)))
set_option maxHeartbeats 4000000 in
set_option maxRecDepth 100000 in
theorem c_Ref_a0 (l : Launch) (D : va_G) (aT bG bS bM : Nat) (dG dS dM : ClassId) (rg : Nat → Int32) (rs : Nat → Int32) (rm : Nat → Int32) (rl : Int32) (rk : Int32) (rr : Int32) (re : Int32) (rc : Int32) (rd : Int32) (ra : Int32) (rb : Int32) (rn : Int32) (rf : Int32) (rw : Int32) (hra : vp_in ra 32) : kMi l y_Ref_a0 b_Ref_a0 1 (some .int) 0 0 D kCl [(dG, .int), (dS, .int), (dM, .int)] [.ref aT] [(aT, .inr (11, [.ref bG, .ref bS, .ref bM, .int rl, .int rk, .int rr, .int re, .int rc, .int rd, .int ra, .int rb, .int rn, .int rf, .int rw])), (bG, .inl (dG, 32, .inl rg)), (bS, .inl (dS, 48, .inl rs)), (bM, .inl (dM, 16384, .inl rm))] (f_Ref_a0 rg ra) [(aT, .inr (11, [.ref bG, .ref bS, .ref bM, .int rl, .int rk, .int rr, .int re, .int rc, .int rd, .int ra, .int rb, .int rn, .int rf, .int rw])), (bG, .inl (dG, 32, .inl rg)), (bS, .inl (dS, 48, .inl rs)), (bM, .inl (dM, 16384, .inl rm))] := by
  refine k_entry (Qc := fun A => kQi D kCl [(dG, .int), (dS, .int), (dM, .int)] (f_Ref_a0 rg ra) [(aT, .inr (11, [.ref bG, .ref bS, .ref bM, .int rl, .int rk, .int rr, .int re, .int rc, .int rd, .int ra, .int rb, .int rn, .int rf, .int rw])), (bG, .inl (dG, 32, .inl rg)), (bS, .inl (dS, 48, .inl rs)), (bM, .inl (dM, 16384, .inl rm))] A) (lv := [(0, .ref aT)]) (by decide) (Nat.le_of_ble_eq_true rfl) rfl ?_
  intro p e s m below meth c A ls hx hb hr hml hB hown hlocks hin hA hK hN hP hD hS hl
  have hown : s.vm.findClass "MappedProcessorModel" = some m.cls := hown
  refine lv_aload_n hx hb d_Ref_a0_0 rfl (lv_at hl 0 rfl) ?_
  refine va_get (D := D) (ci := 11) (v := .int ra) (C := "MappedProcessorModel") (T := T_Ref) (N := 14) hx hb hB iw_Ref hown hK hP 0 rfl rfl 9 (by decide) (hB _ mw_652) (fun _ h9 => h9) rfl d_Ref_a0_1 ?_
  refine k_join2 (c0 := ra = (0 : Int32)) (x1 := (0 : Int32)) (x2 := (rg (ix ra))) (rest := []) 20 ?_ (fun k2 k3 => ?_)
  rotate_left
  · refine lv_if_ne (tgt := 11) hx hb d_Ref_a0_4 (by decide) (fun (h1 : ¬ ra = (0 : Int32)) => ?_) (fun (h1 : ra = (0 : Int32)) => ?_)
    · refine lv_aload_n hx hb d_Ref_a0_11 rfl (lv_at hl 0 rfl) ?_
      refine va_get (D := D) (ci := 11) (v := .ref bG) (C := "MappedProcessorModel") (T := T_Ref) (N := 14) hx hb hB iw_Ref hown hK hP 0 rfl rfl 0 (by decide) (hB _ mw_643) (fun _ h9 => h9) rfl d_Ref_a0_12 ?_
      refine lv_aload_n hx hb d_Ref_a0_15 rfl (lv_at hl 0 rfl) ?_
      refine va_get (D := D) (ci := 11) (v := .int ra) (C := "MappedProcessorModel") (T := T_Ref) (N := 14) hx hb hB iw_Ref hown hK hP 0 rfl rfl 9 (by decide) (hB _ mw_652) (fun _ h9 => h9) rfl d_Ref_a0_16 ?_
      refine k_iald (j := (ix ra)) hx hb hK hP 1 0 rfl rfl rfl hra d_Ref_a0_19 ?_
      exact k3 h1
    · refine lv_iconst (v := (0 : Int32)) hx hb d_Ref_a0_7 (by decide) ?_
      refine lv_goto (tgt := 20) hx hb d_Ref_a0_8 (by decide) ?_
      exact k2 h1
  have ef : f_Ref_a0 rg ra = (if ra = (0 : Int32) then (0 : Int32) else (rg (ix ra))) := rfl
  exact k_iret hx hb hr hlocks hK hP hD hS [0, 1, 2, 3] rfl rfl (by rw [ef] <;> rfl) d_Ref_a0_20
/-! MappedProcessorModel.immediate(II)V -/
theorem d_Ref_immediate_0 : decode b_Ref_immediate 0 = .ok (.aload_n 0, 1) := by decide +kernel
theorem d_Ref_immediate_1 : decode b_Ref_immediate 1 = .ok (.getfield 7, 3) := by decide +kernel
theorem d_Ref_immediate_4 : decode b_Ref_immediate 4 = .ok (.aload_n 0, 1) := by decide +kernel
theorem d_Ref_immediate_5 : decode b_Ref_immediate 5 = .ok (.getfield 85, 3) := by decide +kernel
theorem d_Ref_immediate_8 : decode b_Ref_immediate 8 = .ok (.iaload, 1) := by decide +kernel
theorem d_Ref_immediate_9 : decode b_Ref_immediate 9 = .ok (.istore_n 3, 1) := by decide +kernel
theorem d_Ref_immediate_10 : decode b_Ref_immediate 10 = .ok (.iload_n 1, 1) := by decide +kernel
theorem d_Ref_immediate_11 : decode b_Ref_immediate 11 = .ok (.bipush 7, 2) := by decide +kernel
theorem d_Ref_immediate_13 : decode b_Ref_immediate 13 = .ok (.if_icmp .ne 18, 3) := by decide +kernel
theorem d_Ref_immediate_16 : decode b_Ref_immediate 16 = .ok (.aload_n 0, 1) := by decide +kernel
theorem d_Ref_immediate_17 : decode b_Ref_immediate 17 = .ok (.getfield 7, 3) := by decide +kernel
theorem d_Ref_immediate_20 : decode b_Ref_immediate 20 = .ok (.aload_n 0, 1) := by decide +kernel
theorem d_Ref_immediate_21 : decode b_Ref_immediate 21 = .ok (.getfield 82, 3) := by decide +kernel
theorem d_Ref_immediate_24 : decode b_Ref_immediate 24 = .ok (.iload_n 3, 1) := by decide +kernel
theorem d_Ref_immediate_25 : decode b_Ref_immediate 25 = .ok (.iload_n 2, 1) := by decide +kernel
theorem d_Ref_immediate_26 : decode b_Ref_immediate 26 = .ok (.imul, 1) := by decide +kernel
theorem d_Ref_immediate_27 : decode b_Ref_immediate 27 = .ok (.iastore, 1) := by decide +kernel
theorem d_Ref_immediate_28 : decode b_Ref_immediate 28 = .ok (.goto 162, 3) := by decide +kernel
theorem d_Ref_immediate_31 : decode b_Ref_immediate 31 = .ok (.iload_n 1, 1) := by decide +kernel
theorem d_Ref_immediate_32 : decode b_Ref_immediate 32 = .ok (.bipush 8, 2) := by decide +kernel
theorem d_Ref_immediate_34 : decode b_Ref_immediate 34 = .ok (.if_icmp .ne 24, 3) := by decide +kernel
theorem d_Ref_immediate_37 : decode b_Ref_immediate 37 = .ok (.aload_n 0, 1) := by decide +kernel
theorem d_Ref_immediate_38 : decode b_Ref_immediate 38 = .ok (.getfield 7, 3) := by decide +kernel
theorem d_Ref_immediate_41 : decode b_Ref_immediate 41 = .ok (.aload_n 0, 1) := by decide +kernel
theorem d_Ref_immediate_42 : decode b_Ref_immediate 42 = .ok (.getfield 82, 3) := by decide +kernel
theorem d_Ref_immediate_45 : decode b_Ref_immediate 45 = .ok (.aload_n 0, 1) := by decide +kernel
theorem d_Ref_immediate_46 : decode b_Ref_immediate 46 = .ok (.iload_n 2, 1) := by decide +kernel
theorem d_Ref_immediate_47 : decode b_Ref_immediate 47 = .ok (.iload_n 3, 1) := by decide +kernel
theorem d_Ref_immediate_48 : decode b_Ref_immediate 48 = .ok (.iconst (-1), 1) := by decide +kernel
theorem d_Ref_immediate_49 : decode b_Ref_immediate 49 = .ok (.ixor, 1) := by decide +kernel
theorem d_Ref_immediate_50 : decode b_Ref_immediate 50 = .ok (.iconst 1, 1) := by decide +kernel
theorem d_Ref_immediate_51 : decode b_Ref_immediate 51 = .ok (.invokevirtual 149, 3) := by decide +kernel
theorem d_Ref_immediate_54 : decode b_Ref_immediate 54 = .ok (.iastore, 1) := by decide +kernel
theorem d_Ref_immediate_55 : decode b_Ref_immediate 55 = .ok (.goto 135, 3) := by decide +kernel
theorem d_Ref_immediate_58 : decode b_Ref_immediate 58 = .ok (.iload_n 1, 1) := by decide +kernel
theorem d_Ref_immediate_59 : decode b_Ref_immediate 59 = .ok (.bipush 10, 2) := by decide +kernel
theorem d_Ref_immediate_61 : decode b_Ref_immediate 61 = .ok (.if_icmp .ne 28, 3) := by decide +kernel
theorem d_Ref_immediate_64 : decode b_Ref_immediate 64 = .ok (.aload_n 0, 1) := by decide +kernel
theorem d_Ref_immediate_65 : decode b_Ref_immediate 65 = .ok (.aload_n 0, 1) := by decide +kernel
theorem d_Ref_immediate_66 : decode b_Ref_immediate 66 = .ok (.getfield 82, 3) := by decide +kernel
theorem d_Ref_immediate_69 : decode b_Ref_immediate 69 = .ok (.iconst 2, 1) := by decide +kernel
theorem d_Ref_immediate_70 : decode b_Ref_immediate 70 = .ok (.ishr, 1) := by decide +kernel
theorem d_Ref_immediate_71 : decode b_Ref_immediate 71 = .ok (.iload_n 3, 1) := by decide +kernel
theorem d_Ref_immediate_72 : decode b_Ref_immediate 72 = .ok (.invokestatic 103, 3) := by decide +kernel
theorem d_Ref_immediate_75 : decode b_Ref_immediate 75 = .ok (.aload_n 0, 1) := by decide +kernel
theorem d_Ref_immediate_76 : decode b_Ref_immediate 76 = .ok (.getfield 79, 3) := by decide +kernel
theorem d_Ref_immediate_79 : decode b_Ref_immediate 79 = .ok (.ldc 42, 2) := by decide +kernel
theorem d_Ref_immediate_81 : decode b_Ref_immediate 81 = .ok (.iand, 1) := by decide +kernel
theorem d_Ref_immediate_82 : decode b_Ref_immediate 82 = .ok (.i2l, 1) := by decide +kernel
theorem d_Ref_immediate_83 : decode b_Ref_immediate 83 = .ok (.invokevirtual 97, 3) := by decide +kernel
theorem d_Ref_immediate_86 : decode b_Ref_immediate 86 = .ok (.goto 104, 3) := by decide +kernel
theorem d_Ref_immediate_89 : decode b_Ref_immediate 89 = .ok (.iload_n 1, 1) := by decide +kernel
theorem d_Ref_immediate_90 : decode b_Ref_immediate 90 = .ok (.bipush 11, 2) := by decide +kernel
theorem d_Ref_immediate_92 : decode b_Ref_immediate 92 = .ok (.if_icmp .ne 20, 3) := by decide +kernel
theorem d_Ref_immediate_95 : decode b_Ref_immediate 95 = .ok (.aload_n 0, 1) := by decide +kernel
theorem d_Ref_immediate_96 : decode b_Ref_immediate 96 = .ok (.aload_n 0, 1) := by decide +kernel
theorem d_Ref_immediate_97 : decode b_Ref_immediate 97 = .ok (.getfield 82, 3) := by decide +kernel
theorem d_Ref_immediate_100 : decode b_Ref_immediate 100 = .ok (.iconst 2, 1) := by decide +kernel
theorem d_Ref_immediate_101 : decode b_Ref_immediate 101 = .ok (.ishr, 1) := by decide +kernel
theorem d_Ref_immediate_102 : decode b_Ref_immediate 102 = .ok (.iload_n 3, 1) := by decide +kernel
theorem d_Ref_immediate_103 : decode b_Ref_immediate 103 = .ok (.i2l, 1) := by decide +kernel
theorem d_Ref_immediate_104 : decode b_Ref_immediate 104 = .ok (.iload_n 2, 1) := by decide +kernel
theorem d_Ref_immediate_105 : decode b_Ref_immediate 105 = .ok (.i2l, 1) := by decide +kernel
theorem d_Ref_immediate_106 : decode b_Ref_immediate 106 = .ok (.invokevirtual 97, 3) := by decide +kernel
theorem d_Ref_immediate_109 : decode b_Ref_immediate 109 = .ok (.goto 81, 3) := by decide +kernel
theorem d_Ref_immediate_112 : decode b_Ref_immediate 112 = .ok (.iload_n 1, 1) := by decide +kernel
theorem d_Ref_immediate_113 : decode b_Ref_immediate 113 = .ok (.bipush 12, 2) := by decide +kernel
theorem d_Ref_immediate_115 : decode b_Ref_immediate 115 = .ok (.if_icmp .eq 9, 3) := by decide +kernel
theorem d_Ref_immediate_118 : decode b_Ref_immediate 118 = .ok (.iload_n 1, 1) := by decide +kernel
theorem d_Ref_immediate_119 : decode b_Ref_immediate 119 = .ok (.bipush 13, 2) := by decide +kernel
theorem d_Ref_immediate_121 : decode b_Ref_immediate 121 = .ok (.if_icmp .ne 41, 3) := by decide +kernel
theorem d_Ref_immediate_124 : decode b_Ref_immediate 124 = .ok (.aload_n 0, 1) := by decide +kernel
theorem d_Ref_immediate_125 : decode b_Ref_immediate 125 = .ok (.getfield 7, 3) := by decide +kernel
theorem d_Ref_immediate_128 : decode b_Ref_immediate 128 = .ok (.aload_n 0, 1) := by decide +kernel
theorem d_Ref_immediate_129 : decode b_Ref_immediate 129 = .ok (.getfield 82, 3) := by decide +kernel
theorem d_Ref_immediate_132 : decode b_Ref_immediate 132 = .ok (.aload_n 0, 1) := by decide +kernel
theorem d_Ref_immediate_133 : decode b_Ref_immediate 133 = .ok (.iload_n 3, 1) := by decide +kernel
theorem d_Ref_immediate_134 : decode b_Ref_immediate 134 = .ok (.iload_n 2, 1) := by decide +kernel
theorem d_Ref_immediate_135 : decode b_Ref_immediate 135 = .ok (.iconst 0, 1) := by decide +kernel
theorem d_Ref_immediate_136 : decode b_Ref_immediate 136 = .ok (.invokevirtual 149, 3) := by decide +kernel
theorem d_Ref_immediate_139 : decode b_Ref_immediate 139 = .ok (.iastore, 1) := by decide +kernel
theorem d_Ref_immediate_140 : decode b_Ref_immediate 140 = .ok (.iload_n 1, 1) := by decide +kernel
theorem d_Ref_immediate_141 : decode b_Ref_immediate 141 = .ok (.bipush 13, 2) := by decide +kernel
theorem d_Ref_immediate_143 : decode b_Ref_immediate 143 = .ok (.if_icmp .ne 47, 3) := by decide +kernel
theorem d_Ref_immediate_146 : decode b_Ref_immediate 146 = .ok (.aload_n 0, 1) := by decide +kernel
theorem d_Ref_immediate_147 : decode b_Ref_immediate 147 = .ok (.aload_n 0, 1) := by decide +kernel
theorem d_Ref_immediate_148 : decode b_Ref_immediate 148 = .ok (.getfield 7, 3) := by decide +kernel
theorem d_Ref_immediate_151 : decode b_Ref_immediate 151 = .ok (.aload_n 0, 1) := by decide +kernel
theorem d_Ref_immediate_152 : decode b_Ref_immediate 152 = .ok (.getfield 82, 3) := by decide +kernel
theorem d_Ref_immediate_155 : decode b_Ref_immediate 155 = .ok (.iaload, 1) := by decide +kernel
theorem d_Ref_immediate_156 : decode b_Ref_immediate 156 = .ok (.invokevirtual 113, 3) := by decide +kernel
theorem d_Ref_immediate_159 : decode b_Ref_immediate 159 = .ok (.goto 31, 3) := by decide +kernel
theorem d_Ref_immediate_162 : decode b_Ref_immediate 162 = .ok (.aload_n 0, 1) := by decide +kernel
theorem d_Ref_immediate_163 : decode b_Ref_immediate 163 = .ok (.getfield 7, 3) := by decide +kernel
theorem d_Ref_immediate_166 : decode b_Ref_immediate 166 = .ok (.aload_n 0, 1) := by decide +kernel
theorem d_Ref_immediate_167 : decode b_Ref_immediate 167 = .ok (.getfield 82, 3) := by decide +kernel
theorem d_Ref_immediate_170 : decode b_Ref_immediate 170 = .ok (.aload_n 0, 1) := by decide +kernel
theorem d_Ref_immediate_171 : decode b_Ref_immediate 171 = .ok (.invokevirtual 153, 3) := by decide +kernel
theorem d_Ref_immediate_174 : decode b_Ref_immediate 174 = .ok (.iload_n 1, 1) := by decide +kernel
theorem d_Ref_immediate_175 : decode b_Ref_immediate 175 = .ok (.bipush 14, 2) := by decide +kernel
theorem d_Ref_immediate_177 : decode b_Ref_immediate 177 = .ok (.if_icmp .ne 7, 3) := by decide +kernel
theorem d_Ref_immediate_180 : decode b_Ref_immediate 180 = .ok (.iload_n 2, 1) := by decide +kernel
theorem d_Ref_immediate_181 : decode b_Ref_immediate 181 = .ok (.goto 7, 3) := by decide +kernel
theorem d_Ref_immediate_184 : decode b_Ref_immediate 184 = .ok (.iload_n 2, 1) := by decide +kernel
theorem d_Ref_immediate_185 : decode b_Ref_immediate 185 = .ok (.ldc 156, 2) := by decide +kernel
theorem d_Ref_immediate_187 : decode b_Ref_immediate 187 = .ok (.imul, 1) := by decide +kernel
theorem d_Ref_immediate_188 : decode b_Ref_immediate 188 = .ok (.iadd, 1) := by decide +kernel
theorem d_Ref_immediate_189 : decode b_Ref_immediate 189 = .ok (.iastore, 1) := by decide +kernel
theorem d_Ref_immediate_190 : decode b_Ref_immediate 190 = .ok (.return_, 1) := by decide +kernel
def f_Ref_immediate (p0 : Int32) (p1 : Int32) (rg : Nat → Int32) (rs : Nat → Int32) (rc : Int32) (rd : Int32) (ra : Int32) : (Nat → Int32) × (Nat → Int32) :=
  if p0 = (7 : Int32) then
    ((upd rg (ix rd) ((rg (ix ra)) * p1)), rs)
  else
    if p0 = (8 : Int32) then
      let t67 := (f_Ref_sum p1 ((rg (ix ra)) ^^^ (-1 : Int32)) (1 : Int32) rs)
      ((upd rg (ix rd) t67.1), t67.2)
    else
      if p0 = (10 : Int32) then
        (rg, (f_Ref_compare (shr rd (2 : Int32)) (f_Ref_unsigned (rg (ix ra))) ((rc &&& (65535 : Int32)).toInt64) rs))
      else
        if p0 = (11 : Int32) then
          (rg, (f_Ref_compare (shr rd (2 : Int32)) ((rg (ix ra)).toInt64) (p1.toInt64) rs))
        else
          if p0 = (12 : Int32) then
            let t51 := (f_Ref_sum (rg (ix ra)) p1 (0 : Int32) rs)
            if p0 = (13 : Int32) then
              ((upd rg (ix rd) t51.1), (f_Ref_noteResult ((upd rg (ix rd) t51.1) (ix rd)) t51.2))
            else
              ((upd rg (ix rd) t51.1), t51.2)
          else
            if p0 = (13 : Int32) then
              let t65 := (f_Ref_sum (rg (ix ra)) p1 (0 : Int32) rs)
              ((upd rg (ix rd) t65.1), (f_Ref_noteResult ((upd rg (ix rd) t65.1) (ix rd)) t65.2))
            else
              ((upd rg (ix rd) ((f_Ref_a0 rg ra) + (if p0 = (14 : Int32) then p1 else (p1 * (65536 : Int32))))), rs)
set_option maxHeartbeats 4000000 in
set_option maxRecDepth 100000 in
theorem c_Ref_immediate (l : Launch) (D : va_G) (aT bG bS bM : Nat) (dG dS dM : ClassId) (rg : Nat → Int32) (rs : Nat → Int32) (rm : Nat → Int32) (rl : Int32) (rk : Int32) (rr : Int32) (re : Int32) (rc : Int32) (rd : Int32) (ra : Int32) (rb : Int32) (rn : Int32) (rf : Int32) (rw : Int32) (p0 : Int32) (p1 : Int32) (hra : vp_in ra 32) (hrd : vp_in rd 32) : kMv l y_Ref_immediate b_Ref_immediate 4 none 3 70 D kCl [(dG, .int), (dS, .int), (dM, .int)] [.ref aT, .int p0, .int p1] [(aT, .inr (11, [.ref bG, .ref bS, .ref bM, .int rl, .int rk, .int rr, .int re, .int rc, .int rd, .int ra, .int rb, .int rn, .int rf, .int rw])), (bG, .inl (dG, 32, .inl rg)), (bS, .inl (dS, 48, .inl rs)), (bM, .inl (dM, 16384, .inl rm))] [(aT, .inr (11, [.ref bG, .ref bS, .ref bM, .int rl, .int rk, .int rr, .int re, .int rc, .int rd, .int ra, .int rb, .int rn, .int rf, .int rw])), (bG, .inl (dG, 32, .inl (f_Ref_immediate p0 p1 rg rs rc rd ra).1)), (bS, .inl (dS, 48, .inl (f_Ref_immediate p0 p1 rg rs rc rd ra).2)), (bM, .inl (dM, 16384, .inl rm))] := by
  refine k_entry (Qc := fun A => kQv D kCl [(dG, .int), (dS, .int), (dM, .int)] [(aT, .inr (11, [.ref bG, .ref bS, .ref bM, .int rl, .int rk, .int rr, .int re, .int rc, .int rd, .int ra, .int rb, .int rn, .int rf, .int rw])), (bG, .inl (dG, 32, .inl (f_Ref_immediate p0 p1 rg rs rc rd ra).1)), (bS, .inl (dS, 48, .inl (f_Ref_immediate p0 p1 rg rs rc rd ra).2)), (bM, .inl (dM, 16384, .inl rm))] A) (lv := [(0, .ref aT), (1, .int p0), (2, .int p1)]) (by decide) (Nat.le_of_ble_eq_true rfl) rfl ?_
  intro p e s m below meth c A ls hx hb hr hml hB hown hlocks hin hA hK hN hP hD hS hl
  have hown : s.vm.findClass "MappedProcessorModel" = some m.cls := hown
  refine lv_aload_n hx hb d_Ref_immediate_0 rfl (lv_at hl 0 rfl) ?_
  refine va_get (D := D) (ci := 11) (v := .ref bG) (C := "MappedProcessorModel") (T := T_Ref) (N := 14) hx hb hB iw_Ref hown hK hP 0 rfl rfl 0 (by decide) (hB _ mw_643) (fun _ h9 => h9) rfl d_Ref_immediate_1 ?_
  refine lv_aload_n hx hb d_Ref_immediate_4 rfl (lv_at hl 0 rfl) ?_
  refine va_get (D := D) (ci := 11) (v := .int ra) (C := "MappedProcessorModel") (T := T_Ref) (N := 14) hx hb hB iw_Ref hown hK hP 0 rfl rfl 9 (by decide) (hB _ mw_652) (fun _ h9 => h9) rfl d_Ref_immediate_5 ?_
  refine k_iald (j := (ix ra)) hx hb hK hP 1 0 rfl rfl rfl hra d_Ref_immediate_8 ?_
  refine lv_istore_n (lv' := [(3, .int (rg (ix ra))), (0, .ref aT), (1, .int p0), (2, .int p1)]) hx hb d_Ref_immediate_9 rfl hl (by decide) rfl (fun ls hl => ?_)
  refine lv_iload_n hx hb d_Ref_immediate_10 rfl (lv_at hl 2 rfl) ?_
  refine lv_bipush (v := (7 : Int32)) hx hb d_Ref_immediate_11 (by decide) ?_
  refine lv_icmp_ne (tgt := 31) hx hb d_Ref_immediate_13 (by decide) (fun (h16 : ¬ p0 = (7 : Int32)) => ?_) (fun (h16 : p0 = (7 : Int32)) => ?_)
  · refine lv_iload_n hx hb d_Ref_immediate_31 rfl (lv_at hl 2 rfl) ?_
    refine lv_bipush (v := (8 : Int32)) hx hb d_Ref_immediate_32 (by decide) ?_
    refine lv_icmp_ne (tgt := 58) hx hb d_Ref_immediate_34 (by decide) (fun (h29 : ¬ p0 = (8 : Int32)) => ?_) (fun (h29 : p0 = (8 : Int32)) => ?_)
    · refine lv_iload_n hx hb d_Ref_immediate_58 rfl (lv_at hl 2 rfl) ?_
      refine lv_bipush (v := (10 : Int32)) hx hb d_Ref_immediate_59 (by decide) ?_
      refine lv_icmp_ne (tgt := 89) hx hb d_Ref_immediate_61 (by decide) (fun (h39 : ¬ p0 = (10 : Int32)) => ?_) (fun (h39 : p0 = (10 : Int32)) => ?_)
      · refine lv_iload_n hx hb d_Ref_immediate_89 rfl (lv_at hl 2 rfl) ?_
        refine lv_bipush (v := (11 : Int32)) hx hb d_Ref_immediate_90 (by decide) ?_
        refine lv_icmp_ne (tgt := 112) hx hb d_Ref_immediate_92 (by decide) (fun (h46 : ¬ p0 = (11 : Int32)) => ?_) (fun (h46 : p0 = (11 : Int32)) => ?_)
        · refine lv_iload_n hx hb d_Ref_immediate_112 rfl (lv_at hl 2 rfl) ?_
          refine lv_bipush (v := (12 : Int32)) hx hb d_Ref_immediate_113 (by decide) ?_
          refine lv_icmp_eq (tgt := 124) hx hb d_Ref_immediate_115 (by decide) (fun (h50 : p0 = (12 : Int32)) => ?_) (fun (h50 : ¬ p0 = (12 : Int32)) => ?_)
          · refine lv_aload_n hx hb d_Ref_immediate_124 rfl (lv_at hl 1 rfl) ?_
            refine va_get (D := D) (ci := 11) (v := .ref bG) (C := "MappedProcessorModel") (T := T_Ref) (N := 14) hx hb hB iw_Ref hown hK hP 0 rfl rfl 0 (by decide) (hB _ mw_643) (fun _ h9 => h9) rfl d_Ref_immediate_125 ?_
            refine lv_aload_n hx hb d_Ref_immediate_128 rfl (lv_at hl 1 rfl) ?_
            refine va_get (D := D) (ci := 11) (v := .int rd) (C := "MappedProcessorModel") (T := T_Ref) (N := 14) hx hb hB iw_Ref hown hK hP 0 rfl rfl 8 (by decide) (hB _ mw_651) (fun _ h9 => h9) rfl d_Ref_immediate_129 ?_
            refine lv_aload_n hx hb d_Ref_immediate_132 rfl (lv_at hl 1 rfl) ?_
            refine lv_iload_n hx hb d_Ref_immediate_133 rfl (lv_at hl 0 rfl) ?_
            refine lv_iload_n hx hb d_Ref_immediate_134 rfl (lv_at hl 3 rfl) ?_
            refine lv_iconst (v := (0 : Int32)) hx hb d_Ref_immediate_135 (by decide) ?_
            let t51 := (f_Ref_sum (rg (ix ra)) p1 (0 : Int32) rs)
            refine k_cVi (As := [.int (rg (ix ra)), .int p1, .int (0 : Int32)]) (rest := [.int rd, .ref bG]) (wr := []) (wj := [(aT, .inr (11, [.ref bG, .ref bS, .ref bM, .int rl, .int rk, .int rr, .int re, .int rc, .int rd, .int ra, .int rb, .int rn, .int rf, .int rw])), (bG, .inl (dG, 32, .inl rg)), (bS, .inl (dS, 48, .inl t51.2)), (bM, .inl (dM, 16384, .inl rm))]) ⟨hx, hb, hml, hown, hB⟩ (c_Ref_sum l D aT bG bS bM dG dS dM rg rs rm rl rk rr re rc rd ra rb rn rf rw (rg (ix ra)) p1 (0 : Int32)) yl_Ref_sum mw_778 hK hN hP hD hS hA [0, 1, 2] [0, 1, 2, 3] [] [0, 1, 2, 3] rfl rfl rfl rfl (by decide +kernel) 0 rfl rfl rfl rfl hl.1 rfl (Nat.le_of_ble_eq_true rfl) ⟨Nat.le_of_ble_eq_true rfl, Nat.le_of_ble_eq_true rfl⟩ d_Ref_immediate_136 ⟨Nat.le_of_ble_eq_true rfl, Nat.le_of_ble_eq_true rfl⟩ (fun H locs hP hD hS => ?_)
            refine k_iast (j := (ix rd)) hx hb hK hP hD hS 1 0 rfl rfl rfl hrd d_Ref_immediate_139 (fun H locs hP hD hS => ?_)
            have hP : va_P D kCl [(aT, .inr (11, [.ref bG, .ref bS, .ref bM, .int rl, .int rk, .int rr, .int re, .int rc, .int rd, .int ra, .int rb, .int rn, .int rf, .int rw])), (bG, .inl (dG, 32, .inl (upd rg (ix rd) t51.1))), (bS, .inl (dS, 48, .inl t51.2)), (bM, .inl (dM, 16384, .inl rm))] H := hP
            have hD : va_D A [(aT, .inr (11, [.ref bG, .ref bS, .ref bM, .int rl, .int rk, .int rr, .int re, .int rc, .int rd, .int ra, .int rb, .int rn, .int rf, .int rw])), (bG, .inl (dG, 32, .inl (upd rg (ix rd) t51.1))), (bS, .inl (dS, 48, .inl t51.2)), (bM, .inl (dM, 16384, .inl rm))] := hD
            refine lv_iload_n hx hb d_Ref_immediate_140 rfl (lv_at hl 2 rfl) ?_
            refine lv_bipush (v := (13 : Int32)) hx hb d_Ref_immediate_141 (by decide) ?_
            refine lv_icmp_ne (tgt := 190) hx hb d_Ref_immediate_143 (by decide) (fun (h55 : ¬ p0 = (13 : Int32)) => ?_) (fun (h55 : p0 = (13 : Int32)) => ?_)
            · have ef : f_Ref_immediate p0 p1 rg rs rc rd ra = ((upd rg (ix rd) t51.1), t51.2) := by unfold f_Ref_immediate; try dsimp only; rw [if_neg h16, if_neg h29, if_neg h39, if_neg h46, if_pos h50, if_neg h55]
              exact k_vret hx hb hr hlocks hK hP hD hS [0, 1, 2, 3] rfl (by rw [ef] <;> rfl) d_Ref_immediate_190
            · refine lv_aload_n hx hb d_Ref_immediate_146 rfl (lv_at hl 1 rfl) ?_
              refine lv_aload_n hx hb d_Ref_immediate_147 rfl (lv_at hl 1 rfl) ?_
              refine va_get (D := D) (ci := 11) (v := .ref bG) (C := "MappedProcessorModel") (T := T_Ref) (N := 14) hx hb hB iw_Ref hown hK hP 0 rfl rfl 0 (by decide) (hB _ mw_643) (fun _ h9 => h9) rfl d_Ref_immediate_148 ?_
              refine lv_aload_n hx hb d_Ref_immediate_151 rfl (lv_at hl 1 rfl) ?_
              refine va_get (D := D) (ci := 11) (v := .int rd) (C := "MappedProcessorModel") (T := T_Ref) (N := 14) hx hb hB iw_Ref hown hK hP 0 rfl rfl 8 (by decide) (hB _ mw_651) (fun _ h9 => h9) rfl d_Ref_immediate_152 ?_
              refine k_iald (j := (ix rd)) hx hb hK hP 1 0 rfl rfl rfl hrd d_Ref_immediate_155 ?_
              refine k_cVv (As := [.int ((upd rg (ix rd) t51.1) (ix rd))]) (rest := []) (wr := []) (wj := [(aT, .inr (11, [.ref bG, .ref bS, .ref bM, .int rl, .int rk, .int rr, .int re, .int rc, .int rd, .int ra, .int rb, .int rn, .int rf, .int rw])), (bG, .inl (dG, 32, .inl (upd rg (ix rd) t51.1))), (bS, .inl (dS, 48, .inl (f_Ref_noteResult ((upd rg (ix rd) t51.1) (ix rd)) t51.2))), (bM, .inl (dM, 16384, .inl rm))]) ⟨hx, hb, hml, hown, hB⟩ (c_Ref_noteResult l D aT bG bS bM dG dS dM (upd rg (ix rd) t51.1) t51.2 rm rl rk rr re rc rd ra rb rn rf rw ((upd rg (ix rd) t51.1) (ix rd))) yl_Ref_noteResult mw_797 hK hN hP hD hS hA [0, 1, 2] [0, 1, 2, 3] [] [0, 1, 2, 3] rfl rfl rfl rfl (by decide +kernel) 0 rfl rfl rfl rfl hl.1 rfl (Nat.le_of_ble_eq_true rfl) ⟨Nat.le_of_ble_eq_true rfl, Nat.le_of_ble_eq_true rfl⟩ d_Ref_immediate_156 ⟨Nat.le_of_ble_eq_true rfl, Nat.le_of_ble_eq_true rfl⟩ (fun H locs hP hD hS => ?_)
              refine lv_goto (tgt := 190) hx hb d_Ref_immediate_159 (by decide) ?_
              have ef : f_Ref_immediate p0 p1 rg rs rc rd ra = ((upd rg (ix rd) t51.1), (f_Ref_noteResult ((upd rg (ix rd) t51.1) (ix rd)) t51.2)) := by unfold f_Ref_immediate; try dsimp only; rw [if_neg h16, if_neg h29, if_neg h39, if_neg h46, if_pos h50, if_pos h55]
              exact k_vret hx hb hr hlocks hK hP hD hS [0, 1, 2, 3] rfl (by rw [ef] <;> rfl) d_Ref_immediate_190
          · refine lv_iload_n hx hb d_Ref_immediate_118 rfl (lv_at hl 2 rfl) ?_
            refine lv_bipush (v := (13 : Int32)) hx hb d_Ref_immediate_119 (by decide) ?_
            refine lv_icmp_ne (tgt := 162) hx hb d_Ref_immediate_121 (by decide) (fun (h59 : ¬ p0 = (13 : Int32)) => ?_) (fun (h59 : p0 = (13 : Int32)) => ?_)
            · refine lv_aload_n hx hb d_Ref_immediate_162 rfl (lv_at hl 1 rfl) ?_
              refine va_get (D := D) (ci := 11) (v := .ref bG) (C := "MappedProcessorModel") (T := T_Ref) (N := 14) hx hb hB iw_Ref hown hK hP 0 rfl rfl 0 (by decide) (hB _ mw_643) (fun _ h9 => h9) rfl d_Ref_immediate_163 ?_
              refine lv_aload_n hx hb d_Ref_immediate_166 rfl (lv_at hl 1 rfl) ?_
              refine va_get (D := D) (ci := 11) (v := .int rd) (C := "MappedProcessorModel") (T := T_Ref) (N := 14) hx hb hB iw_Ref hown hK hP 0 rfl rfl 8 (by decide) (hB _ mw_651) (fun _ h9 => h9) rfl d_Ref_immediate_167 ?_
              refine lv_aload_n hx hb d_Ref_immediate_170 rfl (lv_at hl 1 rfl) ?_
              refine k_cVi (As := []) (rest := [.int rd, .ref bG]) (wr := []) (wj := [(aT, .inr (11, [.ref bG, .ref bS, .ref bM, .int rl, .int rk, .int rr, .int re, .int rc, .int rd, .int ra, .int rb, .int rn, .int rf, .int rw])), (bG, .inl (dG, 32, .inl rg)), (bS, .inl (dS, 48, .inl rs)), (bM, .inl (dM, 16384, .inl rm))]) ⟨hx, hb, hml, hown, hB⟩ (c_Ref_a0 l D aT bG bS bM dG dS dM rg rs rm rl rk rr re rc rd ra rb rn rf rw hra) yl_Ref_a0 mw_801 hK hN hP hD hS hA [0, 1, 2] [0, 1, 2, 3] [] [0, 1, 2, 3] rfl rfl rfl rfl (by decide +kernel) 0 rfl rfl rfl rfl hl.1 rfl (Nat.le_of_ble_eq_true rfl) ⟨Nat.le_of_ble_eq_true rfl, Nat.le_of_ble_eq_true rfl⟩ d_Ref_immediate_171 ⟨Nat.le_of_ble_eq_true rfl, Nat.le_of_ble_eq_true rfl⟩ (fun H locs hP hD hS => ?_)
              refine lv_iload_n hx hb d_Ref_immediate_174 rfl (lv_at hl 2 rfl) ?_
              refine lv_bipush (v := (14 : Int32)) hx hb d_Ref_immediate_175 (by decide) ?_
              refine k_join2 (c0 := p0 = (14 : Int32)) (x1 := p1) (x2 := (p1 * (65536 : Int32))) (rest := [.int (f_Ref_a0 rg ra), .int rd, .ref bG]) 188 ?_ (fun k61 k62 => ?_)
              rotate_left
              · refine lv_icmp_ne (tgt := 184) hx hb d_Ref_immediate_177 (by decide) (fun (h60 : ¬ p0 = (14 : Int32)) => ?_) (fun (h60 : p0 = (14 : Int32)) => ?_)
                · refine lv_iload_n hx hb d_Ref_immediate_184 rfl (lv_at hl 3 rfl) ?_
                  refine lv_ldc (v := (65536 : Int32)) hx hb hown (hB _ mw_805) d_Ref_immediate_185 ?_
                  refine lv_imul hx hb d_Ref_immediate_187 ?_
                  exact k62 h60
                · refine lv_iload_n hx hb d_Ref_immediate_180 rfl (lv_at hl 3 rfl) ?_
                  refine lv_goto (tgt := 188) hx hb d_Ref_immediate_181 (by decide) ?_
                  exact k61 h60
              refine lv_iadd hx hb d_Ref_immediate_188 ?_
              refine k_iast (j := (ix rd)) hx hb hK hP hD hS 1 0 rfl rfl rfl hrd d_Ref_immediate_189 (fun H locs hP hD hS => ?_)
              have hP : va_P D kCl [(aT, .inr (11, [.ref bG, .ref bS, .ref bM, .int rl, .int rk, .int rr, .int re, .int rc, .int rd, .int ra, .int rb, .int rn, .int rf, .int rw])), (bG, .inl (dG, 32, .inl (upd rg (ix rd) ((f_Ref_a0 rg ra) + (if p0 = (14 : Int32) then p1 else (p1 * (65536 : Int32))))))), (bS, .inl (dS, 48, .inl rs)), (bM, .inl (dM, 16384, .inl rm))] H := hP
              have hD : va_D A [(aT, .inr (11, [.ref bG, .ref bS, .ref bM, .int rl, .int rk, .int rr, .int re, .int rc, .int rd, .int ra, .int rb, .int rn, .int rf, .int rw])), (bG, .inl (dG, 32, .inl (upd rg (ix rd) ((f_Ref_a0 rg ra) + (if p0 = (14 : Int32) then p1 else (p1 * (65536 : Int32))))))), (bS, .inl (dS, 48, .inl rs)), (bM, .inl (dM, 16384, .inl rm))] := hD
              have ef : f_Ref_immediate p0 p1 rg rs rc rd ra = ((upd rg (ix rd) ((f_Ref_a0 rg ra) + (if p0 = (14 : Int32) then p1 else (p1 * (65536 : Int32))))), rs) := by unfold f_Ref_immediate; try dsimp only; rw [if_neg h16, if_neg h29, if_neg h39, if_neg h46, if_neg h50, if_neg h59]
              exact k_vret hx hb hr hlocks hK hP hD hS [0, 1, 2, 3] rfl (by rw [ef] <;> rfl) d_Ref_immediate_190
            · refine lv_aload_n hx hb d_Ref_immediate_124 rfl (lv_at hl 1 rfl) ?_
              refine va_get (D := D) (ci := 11) (v := .ref bG) (C := "MappedProcessorModel") (T := T_Ref) (N := 14) hx hb hB iw_Ref hown hK hP 0 rfl rfl 0 (by decide) (hB _ mw_643) (fun _ h9 => h9) rfl d_Ref_immediate_125 ?_
              refine lv_aload_n hx hb d_Ref_immediate_128 rfl (lv_at hl 1 rfl) ?_
              refine va_get (D := D) (ci := 11) (v := .int rd) (C := "MappedProcessorModel") (T := T_Ref) (N := 14) hx hb hB iw_Ref hown hK hP 0 rfl rfl 8 (by decide) (hB _ mw_651) (fun _ h9 => h9) rfl d_Ref_immediate_129 ?_
              refine lv_aload_n hx hb d_Ref_immediate_132 rfl (lv_at hl 1 rfl) ?_
              refine lv_iload_n hx hb d_Ref_immediate_133 rfl (lv_at hl 0 rfl) ?_
              refine lv_iload_n hx hb d_Ref_immediate_134 rfl (lv_at hl 3 rfl) ?_
              refine lv_iconst (v := (0 : Int32)) hx hb d_Ref_immediate_135 (by decide) ?_
              let t65 := (f_Ref_sum (rg (ix ra)) p1 (0 : Int32) rs)
              refine k_cVi (As := [.int (rg (ix ra)), .int p1, .int (0 : Int32)]) (rest := [.int rd, .ref bG]) (wr := []) (wj := [(aT, .inr (11, [.ref bG, .ref bS, .ref bM, .int rl, .int rk, .int rr, .int re, .int rc, .int rd, .int ra, .int rb, .int rn, .int rf, .int rw])), (bG, .inl (dG, 32, .inl rg)), (bS, .inl (dS, 48, .inl t65.2)), (bM, .inl (dM, 16384, .inl rm))]) ⟨hx, hb, hml, hown, hB⟩ (c_Ref_sum l D aT bG bS bM dG dS dM rg rs rm rl rk rr re rc rd ra rb rn rf rw (rg (ix ra)) p1 (0 : Int32)) yl_Ref_sum mw_778 hK hN hP hD hS hA [0, 1, 2] [0, 1, 2, 3] [] [0, 1, 2, 3] rfl rfl rfl rfl (by decide +kernel) 0 rfl rfl rfl rfl hl.1 rfl (Nat.le_of_ble_eq_true rfl) ⟨Nat.le_of_ble_eq_true rfl, Nat.le_of_ble_eq_true rfl⟩ d_Ref_immediate_136 ⟨Nat.le_of_ble_eq_true rfl, Nat.le_of_ble_eq_true rfl⟩ (fun H locs hP hD hS => ?_)
              refine k_iast (j := (ix rd)) hx hb hK hP hD hS 1 0 rfl rfl rfl hrd d_Ref_immediate_139 (fun H locs hP hD hS => ?_)
              have hP : va_P D kCl [(aT, .inr (11, [.ref bG, .ref bS, .ref bM, .int rl, .int rk, .int rr, .int re, .int rc, .int rd, .int ra, .int rb, .int rn, .int rf, .int rw])), (bG, .inl (dG, 32, .inl (upd rg (ix rd) t65.1))), (bS, .inl (dS, 48, .inl t65.2)), (bM, .inl (dM, 16384, .inl rm))] H := hP
              have hD : va_D A [(aT, .inr (11, [.ref bG, .ref bS, .ref bM, .int rl, .int rk, .int rr, .int re, .int rc, .int rd, .int ra, .int rb, .int rn, .int rf, .int rw])), (bG, .inl (dG, 32, .inl (upd rg (ix rd) t65.1))), (bS, .inl (dS, 48, .inl t65.2)), (bM, .inl (dM, 16384, .inl rm))] := hD
              refine lv_iload_n hx hb d_Ref_immediate_140 rfl (lv_at hl 2 rfl) ?_
              refine lv_bipush (v := (13 : Int32)) hx hb d_Ref_immediate_141 (by decide) ?_
              refine lv_icmp_ne (tgt := 190) hx hb d_Ref_immediate_143 (by decide) (fun (h66 : ¬ p0 = (13 : Int32)) => ?_) (fun (h66 : p0 = (13 : Int32)) => ?_)
              · exact absurd h59 h66
              refine lv_aload_n hx hb d_Ref_immediate_146 rfl (lv_at hl 1 rfl) ?_
              refine lv_aload_n hx hb d_Ref_immediate_147 rfl (lv_at hl 1 rfl) ?_
              refine va_get (D := D) (ci := 11) (v := .ref bG) (C := "MappedProcessorModel") (T := T_Ref) (N := 14) hx hb hB iw_Ref hown hK hP 0 rfl rfl 0 (by decide) (hB _ mw_643) (fun _ h9 => h9) rfl d_Ref_immediate_148 ?_
              refine lv_aload_n hx hb d_Ref_immediate_151 rfl (lv_at hl 1 rfl) ?_
              refine va_get (D := D) (ci := 11) (v := .int rd) (C := "MappedProcessorModel") (T := T_Ref) (N := 14) hx hb hB iw_Ref hown hK hP 0 rfl rfl 8 (by decide) (hB _ mw_651) (fun _ h9 => h9) rfl d_Ref_immediate_152 ?_
              refine k_iald (j := (ix rd)) hx hb hK hP 1 0 rfl rfl rfl hrd d_Ref_immediate_155 ?_
              refine k_cVv (As := [.int ((upd rg (ix rd) t65.1) (ix rd))]) (rest := []) (wr := []) (wj := [(aT, .inr (11, [.ref bG, .ref bS, .ref bM, .int rl, .int rk, .int rr, .int re, .int rc, .int rd, .int ra, .int rb, .int rn, .int rf, .int rw])), (bG, .inl (dG, 32, .inl (upd rg (ix rd) t65.1))), (bS, .inl (dS, 48, .inl (f_Ref_noteResult ((upd rg (ix rd) t65.1) (ix rd)) t65.2))), (bM, .inl (dM, 16384, .inl rm))]) ⟨hx, hb, hml, hown, hB⟩ (c_Ref_noteResult l D aT bG bS bM dG dS dM (upd rg (ix rd) t65.1) t65.2 rm rl rk rr re rc rd ra rb rn rf rw ((upd rg (ix rd) t65.1) (ix rd))) yl_Ref_noteResult mw_797 hK hN hP hD hS hA [0, 1, 2] [0, 1, 2, 3] [] [0, 1, 2, 3] rfl rfl rfl rfl (by decide +kernel) 0 rfl rfl rfl rfl hl.1 rfl (Nat.le_of_ble_eq_true rfl) ⟨Nat.le_of_ble_eq_true rfl, Nat.le_of_ble_eq_true rfl⟩ d_Ref_immediate_156 ⟨Nat.le_of_ble_eq_true rfl, Nat.le_of_ble_eq_true rfl⟩ (fun H locs hP hD hS => ?_)
              refine lv_goto (tgt := 190) hx hb d_Ref_immediate_159 (by decide) ?_
              have ef : f_Ref_immediate p0 p1 rg rs rc rd ra = ((upd rg (ix rd) t65.1), (f_Ref_noteResult ((upd rg (ix rd) t65.1) (ix rd)) t65.2)) := by unfold f_Ref_immediate; try dsimp only; rw [if_neg h16, if_neg h29, if_neg h39, if_neg h46, if_neg h50, if_pos h59]
              exact k_vret hx hb hr hlocks hK hP hD hS [0, 1, 2, 3] rfl (by rw [ef] <;> rfl) d_Ref_immediate_190
        · refine lv_aload_n hx hb d_Ref_immediate_95 rfl (lv_at hl 1 rfl) ?_
          refine lv_aload_n hx hb d_Ref_immediate_96 rfl (lv_at hl 1 rfl) ?_
          refine va_get (D := D) (ci := 11) (v := .int rd) (C := "MappedProcessorModel") (T := T_Ref) (N := 14) hx hb hB iw_Ref hown hK hP 0 rfl rfl 8 (by decide) (hB _ mw_651) (fun _ h9 => h9) rfl d_Ref_immediate_97 ?_
          refine lv_iconst (v := (2 : Int32)) hx hb d_Ref_immediate_100 (by decide) ?_
          refine lv_ishr hx hb d_Ref_immediate_101 ?_
          refine lv_iload_n hx hb d_Ref_immediate_102 rfl (lv_at hl 0 rfl) ?_
          refine lv_i2l (v := ((rg (ix ra)).toInt64)) hx hb d_Ref_immediate_103 rfl ?_
          refine lv_iload_n hx hb d_Ref_immediate_104 rfl (lv_at hl 3 rfl) ?_
          refine lv_i2l (v := (p1.toInt64)) hx hb d_Ref_immediate_105 rfl ?_
          refine k_cVv (As := [.int (shr rd (2 : Int32)), .long ((rg (ix ra)).toInt64), .long (p1.toInt64)]) (rest := []) (wr := []) (wj := [(aT, .inr (11, [.ref bG, .ref bS, .ref bM, .int rl, .int rk, .int rr, .int re, .int rc, .int rd, .int ra, .int rb, .int rn, .int rf, .int rw])), (bG, .inl (dG, 32, .inl rg)), (bS, .inl (dS, 48, .inl (f_Ref_compare (shr rd (2 : Int32)) ((rg (ix ra)).toInt64) (p1.toInt64) rs))), (bM, .inl (dM, 16384, .inl rm))]) ⟨hx, hb, hml, hown, hB⟩ (c_Ref_compare l D aT bG bS bM dG dS dM rg rs rm rl rk rr re rc rd ra rb rn rf rw (shr rd (2 : Int32)) ((rg (ix ra)).toInt64) (p1.toInt64)) yl_Ref_compare mw_789 hK hN hP hD hS hA [0, 1, 2] [0, 1, 2, 3] [] [0, 1, 2, 3] rfl rfl rfl rfl (by decide +kernel) 0 rfl rfl rfl rfl hl.1 rfl (Nat.le_of_ble_eq_true rfl) ⟨Nat.le_of_ble_eq_true rfl, Nat.le_of_ble_eq_true rfl⟩ d_Ref_immediate_106 ⟨Nat.le_of_ble_eq_true rfl, Nat.le_of_ble_eq_true rfl⟩ (fun H locs hP hD hS => ?_)
          refine lv_goto (tgt := 190) hx hb d_Ref_immediate_109 (by decide) ?_
          have ef : f_Ref_immediate p0 p1 rg rs rc rd ra = (rg, (f_Ref_compare (shr rd (2 : Int32)) ((rg (ix ra)).toInt64) (p1.toInt64) rs)) := by unfold f_Ref_immediate; try dsimp only; rw [if_neg h16, if_neg h29, if_neg h39, if_pos h46]
          exact k_vret hx hb hr hlocks hK hP hD hS [0, 1, 2, 3] rfl (by rw [ef] <;> rfl) d_Ref_immediate_190
      · refine lv_aload_n hx hb d_Ref_immediate_64 rfl (lv_at hl 1 rfl) ?_
        refine lv_aload_n hx hb d_Ref_immediate_65 rfl (lv_at hl 1 rfl) ?_
        refine va_get (D := D) (ci := 11) (v := .int rd) (C := "MappedProcessorModel") (T := T_Ref) (N := 14) hx hb hB iw_Ref hown hK hP 0 rfl rfl 8 (by decide) (hB _ mw_651) (fun _ h9 => h9) rfl d_Ref_immediate_66 ?_
        refine lv_iconst (v := (2 : Int32)) hx hb d_Ref_immediate_69 (by decide) ?_
        refine lv_ishr hx hb d_Ref_immediate_70 ?_
        refine lv_iload_n hx hb d_Ref_immediate_71 rfl (lv_at hl 0 rfl) ?_
        refine k_cSl (As := [.int (rg (ix ra))]) (rest := [.int (shr rd (2 : Int32)), .ref aT]) (wr := [(aT, .inr (11, [.ref bG, .ref bS, .ref bM, .int rl, .int rk, .int rr, .int re, .int rc, .int rd, .int ra, .int rb, .int rn, .int rf, .int rw])), (bG, .inl (dG, 32, .inl rg)), (bS, .inl (dS, 48, .inl rs)), (bM, .inl (dM, 16384, .inl rm))]) (wj := [(aT, .inr (11, [.ref bG, .ref bS, .ref bM, .int rl, .int rk, .int rr, .int re, .int rc, .int rd, .int ra, .int rb, .int rn, .int rf, .int rw])), (bG, .inl (dG, 32, .inl rg)), (bS, .inl (dS, 48, .inl rs)), (bM, .inl (dM, 16384, .inl rm))]) ⟨hx, hb, hml, hown, hB⟩ (c_Ref_unsigned l D (rg (ix ra))) yl_Ref_unsigned mw_769 hK hN hP hD hS hA [] [] [0, 1, 2, 3] [0, 1, 2, 3] rfl rfl rfl rfl (by decide +kernel) rfl hl.1 rfl (Nat.le_of_ble_eq_true rfl) ⟨Nat.le_of_ble_eq_true rfl, Nat.le_of_ble_eq_true rfl⟩ d_Ref_immediate_72 ⟨Nat.le_of_ble_eq_true rfl, Nat.le_of_ble_eq_true rfl⟩ (fun H locs hP hD hS => ?_)
        refine lv_aload_n hx hb d_Ref_immediate_75 rfl (lv_at hl 1 rfl) ?_
        refine va_get (D := D) (ci := 11) (v := .int rc) (C := "MappedProcessorModel") (T := T_Ref) (N := 14) hx hb hB iw_Ref hown hK hP 0 rfl rfl 7 (by decide) (hB _ mw_650) (fun _ h9 => h9) rfl d_Ref_immediate_76 ?_
        refine lv_ldc (v := (65535 : Int32)) hx hb hown (hB _ mw_737) d_Ref_immediate_79 ?_
        refine lv_iand hx hb d_Ref_immediate_81 ?_
        refine lv_i2l (v := ((rc &&& (65535 : Int32)).toInt64)) hx hb d_Ref_immediate_82 rfl ?_
        refine k_cVv (As := [.int (shr rd (2 : Int32)), .long (f_Ref_unsigned (rg (ix ra))), .long ((rc &&& (65535 : Int32)).toInt64)]) (rest := []) (wr := []) (wj := [(aT, .inr (11, [.ref bG, .ref bS, .ref bM, .int rl, .int rk, .int rr, .int re, .int rc, .int rd, .int ra, .int rb, .int rn, .int rf, .int rw])), (bG, .inl (dG, 32, .inl rg)), (bS, .inl (dS, 48, .inl (f_Ref_compare (shr rd (2 : Int32)) (f_Ref_unsigned (rg (ix ra))) ((rc &&& (65535 : Int32)).toInt64) rs))), (bM, .inl (dM, 16384, .inl rm))]) ⟨hx, hb, hml, hown, hB⟩ (c_Ref_compare l D aT bG bS bM dG dS dM rg rs rm rl rk rr re rc rd ra rb rn rf rw (shr rd (2 : Int32)) (f_Ref_unsigned (rg (ix ra))) ((rc &&& (65535 : Int32)).toInt64)) yl_Ref_compare mw_789 hK hN hP hD hS hA [0, 1, 2] [0, 1, 2, 3] [] [0, 1, 2, 3] rfl rfl rfl rfl (by decide +kernel) 0 rfl rfl rfl rfl hl.1 rfl (Nat.le_of_ble_eq_true rfl) ⟨Nat.le_of_ble_eq_true rfl, Nat.le_of_ble_eq_true rfl⟩ d_Ref_immediate_83 ⟨Nat.le_of_ble_eq_true rfl, Nat.le_of_ble_eq_true rfl⟩ (fun H locs hP hD hS => ?_)
        refine lv_goto (tgt := 190) hx hb d_Ref_immediate_86 (by decide) ?_
        have ef : f_Ref_immediate p0 p1 rg rs rc rd ra = (rg, (f_Ref_compare (shr rd (2 : Int32)) (f_Ref_unsigned (rg (ix ra))) ((rc &&& (65535 : Int32)).toInt64) rs)) := by unfold f_Ref_immediate; try dsimp only; rw [if_neg h16, if_neg h29, if_pos h39]
        exact k_vret hx hb hr hlocks hK hP hD hS [0, 1, 2, 3] rfl (by rw [ef] <;> rfl) d_Ref_immediate_190
    · refine lv_aload_n hx hb d_Ref_immediate_37 rfl (lv_at hl 1 rfl) ?_
      refine va_get (D := D) (ci := 11) (v := .ref bG) (C := "MappedProcessorModel") (T := T_Ref) (N := 14) hx hb hB iw_Ref hown hK hP 0 rfl rfl 0 (by decide) (hB _ mw_643) (fun _ h9 => h9) rfl d_Ref_immediate_38 ?_
      refine lv_aload_n hx hb d_Ref_immediate_41 rfl (lv_at hl 1 rfl) ?_
      refine va_get (D := D) (ci := 11) (v := .int rd) (C := "MappedProcessorModel") (T := T_Ref) (N := 14) hx hb hB iw_Ref hown hK hP 0 rfl rfl 8 (by decide) (hB _ mw_651) (fun _ h9 => h9) rfl d_Ref_immediate_42 ?_
      refine lv_aload_n hx hb d_Ref_immediate_45 rfl (lv_at hl 1 rfl) ?_
      refine lv_iload_n hx hb d_Ref_immediate_46 rfl (lv_at hl 3 rfl) ?_
      refine lv_iload_n hx hb d_Ref_immediate_47 rfl (lv_at hl 0 rfl) ?_
      refine lv_iconst (v := (-1 : Int32)) hx hb d_Ref_immediate_48 (by decide) ?_
      refine lv_ixor hx hb d_Ref_immediate_49 ?_
      refine lv_iconst (v := (1 : Int32)) hx hb d_Ref_immediate_50 (by decide) ?_
      let t67 := (f_Ref_sum p1 ((rg (ix ra)) ^^^ (-1 : Int32)) (1 : Int32) rs)
      refine k_cVi (As := [.int p1, .int ((rg (ix ra)) ^^^ (-1 : Int32)), .int (1 : Int32)]) (rest := [.int rd, .ref bG]) (wr := []) (wj := [(aT, .inr (11, [.ref bG, .ref bS, .ref bM, .int rl, .int rk, .int rr, .int re, .int rc, .int rd, .int ra, .int rb, .int rn, .int rf, .int rw])), (bG, .inl (dG, 32, .inl rg)), (bS, .inl (dS, 48, .inl t67.2)), (bM, .inl (dM, 16384, .inl rm))]) ⟨hx, hb, hml, hown, hB⟩ (c_Ref_sum l D aT bG bS bM dG dS dM rg rs rm rl rk rr re rc rd ra rb rn rf rw p1 ((rg (ix ra)) ^^^ (-1 : Int32)) (1 : Int32)) yl_Ref_sum mw_778 hK hN hP hD hS hA [0, 1, 2] [0, 1, 2, 3] [] [0, 1, 2, 3] rfl rfl rfl rfl (by decide +kernel) 0 rfl rfl rfl rfl hl.1 rfl (Nat.le_of_ble_eq_true rfl) ⟨Nat.le_of_ble_eq_true rfl, Nat.le_of_ble_eq_true rfl⟩ d_Ref_immediate_51 ⟨Nat.le_of_ble_eq_true rfl, Nat.le_of_ble_eq_true rfl⟩ (fun H locs hP hD hS => ?_)
      refine k_iast (j := (ix rd)) hx hb hK hP hD hS 1 0 rfl rfl rfl hrd d_Ref_immediate_54 (fun H locs hP hD hS => ?_)
      have hP : va_P D kCl [(aT, .inr (11, [.ref bG, .ref bS, .ref bM, .int rl, .int rk, .int rr, .int re, .int rc, .int rd, .int ra, .int rb, .int rn, .int rf, .int rw])), (bG, .inl (dG, 32, .inl (upd rg (ix rd) t67.1))), (bS, .inl (dS, 48, .inl t67.2)), (bM, .inl (dM, 16384, .inl rm))] H := hP
      have hD : va_D A [(aT, .inr (11, [.ref bG, .ref bS, .ref bM, .int rl, .int rk, .int rr, .int re, .int rc, .int rd, .int ra, .int rb, .int rn, .int rf, .int rw])), (bG, .inl (dG, 32, .inl (upd rg (ix rd) t67.1))), (bS, .inl (dS, 48, .inl t67.2)), (bM, .inl (dM, 16384, .inl rm))] := hD
      refine lv_goto (tgt := 190) hx hb d_Ref_immediate_55 (by decide) ?_
      have ef : f_Ref_immediate p0 p1 rg rs rc rd ra = ((upd rg (ix rd) t67.1), t67.2) := by unfold f_Ref_immediate; try dsimp only; rw [if_neg h16, if_pos h29]
      exact k_vret hx hb hr hlocks hK hP hD hS [0, 1, 2, 3] rfl (by rw [ef] <;> rfl) d_Ref_immediate_190
  · refine lv_aload_n hx hb d_Ref_immediate_16 rfl (lv_at hl 1 rfl) ?_
    refine va_get (D := D) (ci := 11) (v := .ref bG) (C := "MappedProcessorModel") (T := T_Ref) (N := 14) hx hb hB iw_Ref hown hK hP 0 rfl rfl 0 (by decide) (hB _ mw_643) (fun _ h9 => h9) rfl d_Ref_immediate_17 ?_
    refine lv_aload_n hx hb d_Ref_immediate_20 rfl (lv_at hl 1 rfl) ?_
    refine va_get (D := D) (ci := 11) (v := .int rd) (C := "MappedProcessorModel") (T := T_Ref) (N := 14) hx hb hB iw_Ref hown hK hP 0 rfl rfl 8 (by decide) (hB _ mw_651) (fun _ h9 => h9) rfl d_Ref_immediate_21 ?_
    refine lv_iload_n hx hb d_Ref_immediate_24 rfl (lv_at hl 0 rfl) ?_
    refine lv_iload_n hx hb d_Ref_immediate_25 rfl (lv_at hl 3 rfl) ?_
    refine lv_imul hx hb d_Ref_immediate_26 ?_
    refine k_iast (j := (ix rd)) hx hb hK hP hD hS 1 0 rfl rfl rfl hrd d_Ref_immediate_27 (fun H locs hP hD hS => ?_)
    have hP : va_P D kCl [(aT, .inr (11, [.ref bG, .ref bS, .ref bM, .int rl, .int rk, .int rr, .int re, .int rc, .int rd, .int ra, .int rb, .int rn, .int rf, .int rw])), (bG, .inl (dG, 32, .inl (upd rg (ix rd) ((rg (ix ra)) * p1)))), (bS, .inl (dS, 48, .inl rs)), (bM, .inl (dM, 16384, .inl rm))] H := hP
    have hD : va_D A [(aT, .inr (11, [.ref bG, .ref bS, .ref bM, .int rl, .int rk, .int rr, .int re, .int rc, .int rd, .int ra, .int rb, .int rn, .int rf, .int rw])), (bG, .inl (dG, 32, .inl (upd rg (ix rd) ((rg (ix ra)) * p1)))), (bS, .inl (dS, 48, .inl rs)), (bM, .inl (dM, 16384, .inl rm))] := hD
    refine lv_goto (tgt := 190) hx hb d_Ref_immediate_28 (by decide) ?_
    have ef : f_Ref_immediate p0 p1 rg rs rc rd ra = ((upd rg (ix rd) ((rg (ix ra)) * p1)), rs) := by unfold f_Ref_immediate; try dsimp only; rw [if_pos h16]
    exact k_vret hx hb hr hlocks hK hP hD hS [0, 1, 2, 3] rfl (by rw [ef] <;> rfl) d_Ref_immediate_190
